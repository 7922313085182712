section
-- ===== PART A: goes FIRST, ahead of the names: the tables' words, and 'selects' of the private methods out of them =====
/-- a private method of a class that the tables say can be made, by its rows of tables_1 -/
def lw_okq (q : MethodName × Nat) : Prop := (q.1.cls ≠ "java/lang/invoke/MethodHandle" ∧ q.1.cls ≠ "java/lang/invoke/VarHandle") ∧ Cond.instantiable q.1.cls q.2 ∈ tables_1 ∧ Cond.privateMethod q.1 ∈ tables_1 ∧ Cond.instanceMethod q.1 ∈ tables_1
theorem lw_p0 : lw_okq (⟨"HungFromIce", "layText", "()Z"⟩, 12) := ⟨⟨by decide +kernel, by decide +kernel⟩, List.mem_of_getElem? (i := 20) (by decide +kernel), List.mem_of_getElem? (i := 440) (by decide +kernel), List.mem_of_getElem? (i := 441) (by decide +kernel)⟩
theorem lw_p1 : lw_okq (⟨"HungFromIce$Text", "splitItem", "(I)I"⟩, 4) := ⟨⟨by decide +kernel, by decide +kernel⟩, List.mem_of_getElem? (i := 28) (by decide +kernel), List.mem_of_getElem? (i := 452) (by decide +kernel), List.mem_of_getElem? (i := 453) (by decide +kernel)⟩
theorem lw_p2 : lw_okq (⟨"HungFromIce$Text", "figuresFrom", "(I)I"⟩, 4) := ⟨⟨by decide +kernel, by decide +kernel⟩, List.mem_of_getElem? (i := 28) (by decide +kernel), List.mem_of_getElem? (i := 456) (by decide +kernel), List.mem_of_getElem? (i := 457) (by decide +kernel)⟩
theorem lw_p3 : lw_okq (⟨"HungFromIce$Text", "letterAt", "(I)I"⟩, 4) := ⟨⟨by decide +kernel, by decide +kernel⟩, List.mem_of_getElem? (i := 28) (by decide +kernel), List.mem_of_getElem? (i := 460) (by decide +kernel), List.mem_of_getElem? (i := 461) (by decide +kernel)⟩
theorem lw_p4 : lw_okq (⟨"HungFromIce$Text", "numberFrom", "(II)I"⟩, 4) := ⟨⟨by decide +kernel, by decide +kernel⟩, List.mem_of_getElem? (i := 28) (by decide +kernel), List.mem_of_getElem? (i := 467) (by decide +kernel), List.mem_of_getElem? (i := 468) (by decide +kernel)⟩
theorem lw_p5 : lw_okq (⟨"HungFromIce$Told", "addPlaces", "(I)Z"⟩, 17) := ⟨⟨by decide +kernel, by decide +kernel⟩, List.mem_of_getElem? (i := 55) (by decide +kernel), List.mem_of_getElem? (i := 475) (by decide +kernel), List.mem_of_getElem? (i := 476) (by decide +kernel)⟩
theorem lw_p6 : lw_okq (⟨"HungFromIce$Told", "addLevel", "(III)Z"⟩, 17) := ⟨⟨by decide +kernel, by decide +kernel⟩, List.mem_of_getElem? (i := 55) (by decide +kernel), List.mem_of_getElem? (i := 480) (by decide +kernel), List.mem_of_getElem? (i := 481) (by decide +kernel)⟩
theorem lw_p7 : lw_okq (⟨"HungFromIce$Told", "addTown", "(IIII)Z"⟩, 17) := ⟨⟨by decide +kernel, by decide +kernel⟩, List.mem_of_getElem? (i := 55) (by decide +kernel), List.mem_of_getElem? (i := 484) (by decide +kernel), List.mem_of_getElem? (i := 485) (by decide +kernel)⟩
theorem lw_p8 : lw_okq (⟨"HungFromIce$Told", "canBeSpot", "(II)Z"⟩, 17) := ⟨⟨by decide +kernel, by decide +kernel⟩, List.mem_of_getElem? (i := 55) (by decide +kernel), List.mem_of_getElem? (i := 488) (by decide +kernel), List.mem_of_getElem? (i := 489) (by decide +kernel)⟩
theorem lw_p9 : lw_okq (⟨"HungFromIce$Told", "addMarket", "(II)Z"⟩, 17) := ⟨⟨by decide +kernel, by decide +kernel⟩, List.mem_of_getElem? (i := 55) (by decide +kernel), List.mem_of_getElem? (i := 492) (by decide +kernel), List.mem_of_getElem? (i := 493) (by decide +kernel)⟩
theorem lw_p10 : lw_okq (⟨"HungFromIce$Told", "addThing", "(III)Z"⟩, 17) := ⟨⟨by decide +kernel, by decide +kernel⟩, List.mem_of_getElem? (i := 55) (by decide +kernel), List.mem_of_getElem? (i := 496) (by decide +kernel), List.mem_of_getElem? (i := 497) (by decide +kernel)⟩
theorem lw_p11 : lw_okq (⟨"HungFromIce$Told", "allLevelsThere", "()Z"⟩, 17) := ⟨⟨by decide +kernel, by decide +kernel⟩, List.mem_of_getElem? (i := 55) (by decide +kernel), List.mem_of_getElem? (i := 504) (by decide +kernel), List.mem_of_getElem? (i := 505) (by decide +kernel)⟩
theorem lw_p12 : lw_okq (⟨"HungFromIce$Told", "townsApart", "()Z"⟩, 17) := ⟨⟨by decide +kernel, by decide +kernel⟩, List.mem_of_getElem? (i := 55) (by decide +kernel), List.mem_of_getElem? (i := 508) (by decide +kernel), List.mem_of_getElem? (i := 509) (by decide +kernel)⟩
theorem lw_p13 : lw_okq (⟨"HungFromIce$Past", "slot", "(I)I"⟩, 3) := ⟨⟨by decide +kernel, by decide +kernel⟩, List.mem_of_getElem? (i := 207) (by decide +kernel), List.mem_of_getElem? (i := 635) (by decide +kernel), List.mem_of_getElem? (i := 636) (by decide +kernel)⟩
theorem lw_p14 : lw_okq (⟨"HungFromIce$Sound", "fill", "(LHungFromIce$Row;I)V"⟩, 4) := ⟨⟨by decide +kernel, by decide +kernel⟩, List.mem_of_getElem? (i := 255) (by decide +kernel), List.mem_of_getElem? (i := 745) (by decide +kernel), List.mem_of_getElem? (i := 746) (by decide +kernel)⟩
theorem lw_p15 : lw_okq (⟨"HungFromIce$Sound", "improve", "([III)Z"⟩, 4) := ⟨⟨by decide +kernel, by decide +kernel⟩, List.mem_of_getElem? (i := 255) (by decide +kernel), List.mem_of_getElem? (i := 749) (by decide +kernel), List.mem_of_getElem? (i := 750) (by decide +kernel)⟩
def lw_privs_1 : List (MethodName × Nat) := [(⟨"HungFromIce", "layText", "()Z"⟩, 12), (⟨"HungFromIce$Text", "splitItem", "(I)I"⟩, 4), (⟨"HungFromIce$Text", "figuresFrom", "(I)I"⟩, 4), (⟨"HungFromIce$Text", "letterAt", "(I)I"⟩, 4), (⟨"HungFromIce$Text", "numberFrom", "(II)I"⟩, 4), (⟨"HungFromIce$Told", "addPlaces", "(I)Z"⟩, 17), (⟨"HungFromIce$Told", "addLevel", "(III)Z"⟩, 17), (⟨"HungFromIce$Told", "addTown", "(IIII)Z"⟩, 17), (⟨"HungFromIce$Told", "canBeSpot", "(II)Z"⟩, 17), (⟨"HungFromIce$Told", "addMarket", "(II)Z"⟩, 17), (⟨"HungFromIce$Told", "addThing", "(III)Z"⟩, 17), (⟨"HungFromIce$Told", "allLevelsThere", "()Z"⟩, 17), (⟨"HungFromIce$Told", "townsApart", "()Z"⟩, 17), (⟨"HungFromIce$Past", "slot", "(I)I"⟩, 3), (⟨"HungFromIce$Sound", "fill", "(LHungFromIce$Row;I)V"⟩, 4), (⟨"HungFromIce$Sound", "improve", "([III)Z"⟩, 4)]
theorem lw_r1 : ∀ q ∈ lw_privs_1, lw_okq q := List.forall_mem_cons.mpr ⟨lw_p0, List.forall_mem_cons.mpr ⟨lw_p1, List.forall_mem_cons.mpr ⟨lw_p2, List.forall_mem_cons.mpr ⟨lw_p3, List.forall_mem_cons.mpr ⟨lw_p4, List.forall_mem_cons.mpr ⟨lw_p5, List.forall_mem_cons.mpr ⟨lw_p6, List.forall_mem_cons.mpr ⟨lw_p7, List.forall_mem_cons.mpr ⟨lw_p8, List.forall_mem_cons.mpr ⟨lw_p9, List.forall_mem_cons.mpr ⟨lw_p10, List.forall_mem_cons.mpr ⟨lw_p11, List.forall_mem_cons.mpr ⟨lw_p12, List.forall_mem_cons.mpr ⟨lw_p13, List.forall_mem_cons.mpr ⟨lw_p14, List.forall_mem_cons.mpr ⟨lw_p15, fun _ h => absurd h List.not_mem_nil⟩⟩⟩⟩⟩⟩⟩⟩⟩⟩⟩⟩⟩⟩⟩⟩
theorem lw_p16 : lw_okq (⟨"HungFromIce$Hearing", "canBeSource", "(I)Z"⟩, 7) := ⟨⟨by decide +kernel, by decide +kernel⟩, List.mem_of_getElem? (i := 296) (by decide +kernel), List.mem_of_getElem? (i := 793) (by decide +kernel), List.mem_of_getElem? (i := 794) (by decide +kernel)⟩
theorem lw_p17 : lw_okq (⟨"HungFromIce$Moves", "hangAt", "(II)V"⟩, 8) := ⟨⟨by decide +kernel, by decide +kernel⟩, List.mem_of_getElem? (i := 327) (by decide +kernel), List.mem_of_getElem? (i := 810) (by decide +kernel), List.mem_of_getElem? (i := 811) (by decide +kernel)⟩
theorem lw_p18 : lw_okq (⟨"HungFromIce$Moves", "allHear", "(I)Z"⟩, 8) := ⟨⟨by decide +kernel, by decide +kernel⟩, List.mem_of_getElem? (i := 327) (by decide +kernel), List.mem_of_getElem? (i := 815) (by decide +kernel), List.mem_of_getElem? (i := 816) (by decide +kernel)⟩
theorem lw_p19 : lw_okq (⟨"HungFromIce$Moves", "beatsFrom", "(II)I"⟩, 8) := ⟨⟨by decide +kernel, by decide +kernel⟩, List.mem_of_getElem? (i := 327) (by decide +kernel), List.mem_of_getElem? (i := 819) (by decide +kernel), List.mem_of_getElem? (i := 820) (by decide +kernel)⟩
theorem lw_p20 : lw_okq (⟨"HungFromIce$Moves", "seekOne", "()Z"⟩, 8) := ⟨⟨by decide +kernel, by decide +kernel⟩, List.mem_of_getElem? (i := 327) (by decide +kernel), List.mem_of_getElem? (i := 824) (by decide +kernel), List.mem_of_getElem? (i := 825) (by decide +kernel)⟩
theorem lw_p21 : lw_okq (⟨"HungFromIce$Moves", "seekAbove", "(I)I"⟩, 8) := ⟨⟨by decide +kernel, by decide +kernel⟩, List.mem_of_getElem? (i := 327) (by decide +kernel), List.mem_of_getElem? (i := 828) (by decide +kernel), List.mem_of_getElem? (i := 829) (by decide +kernel)⟩
theorem lw_p22 : lw_okq (⟨"HungFromIce$Moves", "placeFor", "(I)I"⟩, 8) := ⟨⟨by decide +kernel, by decide +kernel⟩, List.mem_of_getElem? (i := 327) (by decide +kernel), List.mem_of_getElem? (i := 832) (by decide +kernel), List.mem_of_getElem? (i := 833) (by decide +kernel)⟩
theorem lw_p23 : lw_okq (⟨"HungFromIce$Moves", "isFree", "(II)Z"⟩, 8) := ⟨⟨by decide +kernel, by decide +kernel⟩, List.mem_of_getElem? (i := 327) (by decide +kernel), List.mem_of_getElem? (i := 836) (by decide +kernel), List.mem_of_getElem? (i := 837) (by decide +kernel)⟩
theorem lw_p24 : lw_okq (⟨"HungFromIce$Moves", "allHearAt", "(II)Z"⟩, 8) := ⟨⟨by decide +kernel, by decide +kernel⟩, List.mem_of_getElem? (i := 327) (by decide +kernel), List.mem_of_getElem? (i := 842) (by decide +kernel), List.mem_of_getElem? (i := 843) (by decide +kernel)⟩
theorem lw_p25 : lw_okq (⟨"HungFromIce$Moves", "seekTwo", "()Z"⟩, 8) := ⟨⟨by decide +kernel, by decide +kernel⟩, List.mem_of_getElem? (i := 327) (by decide +kernel), List.mem_of_getElem? (i := 846) (by decide +kernel), List.mem_of_getElem? (i := 847) (by decide +kernel)⟩
theorem lw_p26 : lw_okq (⟨"HungFromIce$Moves", "seekWith", "(I)Z"⟩, 8) := ⟨⟨by decide +kernel, by decide +kernel⟩, List.mem_of_getElem? (i := 327) (by decide +kernel), List.mem_of_getElem? (i := 850) (by decide +kernel), List.mem_of_getElem? (i := 851) (by decide +kernel)⟩
theorem lw_p27 : lw_okq (⟨"HungFromIce", "clearingPrice", "(II)I"⟩, 12) := ⟨⟨by decide +kernel, by decide +kernel⟩, List.mem_of_getElem? (i := 20) (by decide +kernel), List.mem_of_getElem? (i := 871) (by decide +kernel), List.mem_of_getElem? (i := 872) (by decide +kernel)⟩
theorem lw_p28 : lw_okq (⟨"HungFromIce", "anyTown", "(II)Z"⟩, 12) := ⟨⟨by decide +kernel, by decide +kernel⟩, List.mem_of_getElem? (i := 20) (by decide +kernel), List.mem_of_getElem? (i := 875) (by decide +kernel), List.mem_of_getElem? (i := 876) (by decide +kernel)⟩
theorem lw_p29 : lw_okq (⟨"HungFromIce", "lackAt", "(III)I"⟩, 12) := ⟨⟨by decide +kernel, by decide +kernel⟩, List.mem_of_getElem? (i := 20) (by decide +kernel), List.mem_of_getElem? (i := 879) (by decide +kernel), List.mem_of_getElem? (i := 880) (by decide +kernel)⟩
theorem lw_p30 : lw_okq (⟨"HungFromIce", "spreadOdds", "(III)V"⟩, 12) := ⟨⟨by decide +kernel, by decide +kernel⟩, List.mem_of_getElem? (i := 20) (by decide +kernel), List.mem_of_getElem? (i := 914) (by decide +kernel), List.mem_of_getElem? (i := 915) (by decide +kernel)⟩
theorem lw_p31 : lw_okq (⟨"HungFromIce", "putDrawn", "(II)V"⟩, 12) := ⟨⟨by decide +kernel, by decide +kernel⟩, List.mem_of_getElem? (i := 20) (by decide +kernel), List.mem_of_getElem? (i := 926) (by decide +kernel), List.mem_of_getElem? (i := 927) (by decide +kernel)⟩
def lw_privs_2 : List (MethodName × Nat) := [(⟨"HungFromIce$Hearing", "canBeSource", "(I)Z"⟩, 7), (⟨"HungFromIce$Moves", "hangAt", "(II)V"⟩, 8), (⟨"HungFromIce$Moves", "allHear", "(I)Z"⟩, 8), (⟨"HungFromIce$Moves", "beatsFrom", "(II)I"⟩, 8), (⟨"HungFromIce$Moves", "seekOne", "()Z"⟩, 8), (⟨"HungFromIce$Moves", "seekAbove", "(I)I"⟩, 8), (⟨"HungFromIce$Moves", "placeFor", "(I)I"⟩, 8), (⟨"HungFromIce$Moves", "isFree", "(II)Z"⟩, 8), (⟨"HungFromIce$Moves", "allHearAt", "(II)Z"⟩, 8), (⟨"HungFromIce$Moves", "seekTwo", "()Z"⟩, 8), (⟨"HungFromIce$Moves", "seekWith", "(I)Z"⟩, 8), (⟨"HungFromIce", "clearingPrice", "(II)I"⟩, 12), (⟨"HungFromIce", "anyTown", "(II)Z"⟩, 12), (⟨"HungFromIce", "lackAt", "(III)I"⟩, 12), (⟨"HungFromIce", "spreadOdds", "(III)V"⟩, 12), (⟨"HungFromIce", "putDrawn", "(II)V"⟩, 12)]
theorem lw_r2 : ∀ q ∈ lw_privs_2, lw_okq q := List.forall_mem_cons.mpr ⟨lw_p16, List.forall_mem_cons.mpr ⟨lw_p17, List.forall_mem_cons.mpr ⟨lw_p18, List.forall_mem_cons.mpr ⟨lw_p19, List.forall_mem_cons.mpr ⟨lw_p20, List.forall_mem_cons.mpr ⟨lw_p21, List.forall_mem_cons.mpr ⟨lw_p22, List.forall_mem_cons.mpr ⟨lw_p23, List.forall_mem_cons.mpr ⟨lw_p24, List.forall_mem_cons.mpr ⟨lw_p25, List.forall_mem_cons.mpr ⟨lw_p26, List.forall_mem_cons.mpr ⟨lw_p27, List.forall_mem_cons.mpr ⟨lw_p28, List.forall_mem_cons.mpr ⟨lw_p29, List.forall_mem_cons.mpr ⟨lw_p30, List.forall_mem_cons.mpr ⟨lw_p31, fun _ h => absurd h List.not_mem_nil⟩⟩⟩⟩⟩⟩⟩⟩⟩⟩⟩⟩⟩⟩⟩⟩
theorem lw_p32 : lw_okq (⟨"HungFromIceModel", "begins", "()V"⟩, 23) := ⟨⟨by decide +kernel, by decide +kernel⟩, List.mem_of_getElem? (i := 946) (by decide +kernel), List.mem_of_getElem? (i := 953) (by decide +kernel), List.mem_of_getElem? (i := 954) (by decide +kernel)⟩
theorem lw_p33 : lw_okq (⟨"HungFromIceModel", "takes", "()V"⟩, 23) := ⟨⟨by decide +kernel, by decide +kernel⟩, List.mem_of_getElem? (i := 946) (by decide +kernel), List.mem_of_getElem? (i := 957) (by decide +kernel), List.mem_of_getElem? (i := 958) (by decide +kernel)⟩
theorem lw_p34 : lw_okq (⟨"HungFromIceModel", "isItem", "()Z"⟩, 23) := ⟨⟨by decide +kernel, by decide +kernel⟩, List.mem_of_getElem? (i := 946) (by decide +kernel), List.mem_of_getElem? (i := 1048) (by decide +kernel), List.mem_of_getElem? (i := 1049) (by decide +kernel)⟩
theorem lw_p35 : lw_okq (⟨"HungFromIceModel", "number", "()I"⟩, 23) := ⟨⟨by decide +kernel, by decide +kernel⟩, List.mem_of_getElem? (i := 946) (by decide +kernel), List.mem_of_getElem? (i := 1055) (by decide +kernel), List.mem_of_getElem? (i := 1056) (by decide +kernel)⟩
theorem lw_p36 : lw_okq (⟨"HungFromIceModel", "isGood", "(I)Z"⟩, 23) := ⟨⟨by decide +kernel, by decide +kernel⟩, List.mem_of_getElem? (i := 946) (by decide +kernel), List.mem_of_getElem? (i := 1062) (by decide +kernel), List.mem_of_getElem? (i := 1063) (by decide +kernel)⟩
theorem lw_p37 : lw_okq (⟨"HungFromIceModel", "isPut", "([IIIII)Z"⟩, 23) := ⟨⟨by decide +kernel, by decide +kernel⟩, List.mem_of_getElem? (i := 946) (by decide +kernel), List.mem_of_getElem? (i := 1069) (by decide +kernel), List.mem_of_getElem? (i := 1070) (by decide +kernel)⟩
theorem lw_p38 : lw_okq (⟨"HungFromIceModel", "isSound", "()Z"⟩, 23) := ⟨⟨by decide +kernel, by decide +kernel⟩, List.mem_of_getElem? (i := 946) (by decide +kernel), List.mem_of_getElem? (i := 1078) (by decide +kernel), List.mem_of_getElem? (i := 1079) (by decide +kernel)⟩
theorem lw_p39 : lw_okq (⟨"HungFromIceModel", "isLevel", "(I)Z"⟩, 23) := ⟨⟨by decide +kernel, by decide +kernel⟩, List.mem_of_getElem? (i := 946) (by decide +kernel), List.mem_of_getElem? (i := 1086) (by decide +kernel), List.mem_of_getElem? (i := 1087) (by decide +kernel)⟩
theorem lw_p40 : lw_okq (⟨"HungFromIceModel", "isTown", "(I)Z"⟩, 23) := ⟨⟨by decide +kernel, by decide +kernel⟩, List.mem_of_getElem? (i := 946) (by decide +kernel), List.mem_of_getElem? (i := 1094) (by decide +kernel), List.mem_of_getElem? (i := 1095) (by decide +kernel)⟩
theorem lw_p41 : lw_okq (⟨"HungFromIceModel", "levelOf", "(I)I"⟩, 23) := ⟨⟨by decide +kernel, by decide +kernel⟩, List.mem_of_getElem? (i := 946) (by decide +kernel), List.mem_of_getElem? (i := 1098) (by decide +kernel), List.mem_of_getElem? (i := 1099) (by decide +kernel)⟩
theorem lw_p42 : lw_okq (⟨"HungFromIceModel", "isThing", "(I)Z"⟩, 23) := ⟨⟨by decide +kernel, by decide +kernel⟩, List.mem_of_getElem? (i := 946) (by decide +kernel), List.mem_of_getElem? (i := 1106) (by decide +kernel), List.mem_of_getElem? (i := 1107) (by decide +kernel)⟩
theorem lw_p43 : lw_okq (⟨"HungFromIceModel", "tells", "(III)I"⟩, 23) := ⟨⟨by decide +kernel, by decide +kernel⟩, List.mem_of_getElem? (i := 946) (by decide +kernel), List.mem_of_getElem? (i := 1111) (by decide +kernel), List.mem_of_getElem? (i := 1112) (by decide +kernel)⟩
theorem lw_p44 : lw_okq (⟨"HungFromIceModel", "known", "()V"⟩, 23) := ⟨⟨by decide +kernel, by decide +kernel⟩, List.mem_of_getElem? (i := 946) (by decide +kernel), List.mem_of_getElem? (i := 1120) (by decide +kernel), List.mem_of_getElem? (i := 1121) (by decide +kernel)⟩
theorem lw_p45 : lw_okq (⟨"HungFromIceModel", "copies", "(II)V"⟩, 23) := ⟨⟨by decide +kernel, by decide +kernel⟩, List.mem_of_getElem? (i := 946) (by decide +kernel), List.mem_of_getElem? (i := 1124) (by decide +kernel), List.mem_of_getElem? (i := 1125) (by decide +kernel)⟩
theorem lw_p46 : lw_okq (⟨"HungFromIceModel", "step", "(I)I"⟩, 23) := ⟨⟨by decide +kernel, by decide +kernel⟩, List.mem_of_getElem? (i := 946) (by decide +kernel), List.mem_of_getElem? (i := 1128) (by decide +kernel), List.mem_of_getElem? (i := 1129) (by decide +kernel)⟩
theorem lw_p47 : lw_okq (⟨"HungFromIceModel", "goes", "(III)I"⟩, 23) := ⟨⟨by decide +kernel, by decide +kernel⟩, List.mem_of_getElem? (i := 946) (by decide +kernel), List.mem_of_getElem? (i := 1132) (by decide +kernel), List.mem_of_getElem? (i := 1133) (by decide +kernel)⟩
def lw_privs_3 : List (MethodName × Nat) := [(⟨"HungFromIceModel", "begins", "()V"⟩, 23), (⟨"HungFromIceModel", "takes", "()V"⟩, 23), (⟨"HungFromIceModel", "isItem", "()Z"⟩, 23), (⟨"HungFromIceModel", "number", "()I"⟩, 23), (⟨"HungFromIceModel", "isGood", "(I)Z"⟩, 23), (⟨"HungFromIceModel", "isPut", "([IIIII)Z"⟩, 23), (⟨"HungFromIceModel", "isSound", "()Z"⟩, 23), (⟨"HungFromIceModel", "isLevel", "(I)Z"⟩, 23), (⟨"HungFromIceModel", "isTown", "(I)Z"⟩, 23), (⟨"HungFromIceModel", "levelOf", "(I)I"⟩, 23), (⟨"HungFromIceModel", "isThing", "(I)Z"⟩, 23), (⟨"HungFromIceModel", "tells", "(III)I"⟩, 23), (⟨"HungFromIceModel", "known", "()V"⟩, 23), (⟨"HungFromIceModel", "copies", "(II)V"⟩, 23), (⟨"HungFromIceModel", "step", "(I)I"⟩, 23), (⟨"HungFromIceModel", "goes", "(III)I"⟩, 23)]
theorem lw_r3 : ∀ q ∈ lw_privs_3, lw_okq q := List.forall_mem_cons.mpr ⟨lw_p32, List.forall_mem_cons.mpr ⟨lw_p33, List.forall_mem_cons.mpr ⟨lw_p34, List.forall_mem_cons.mpr ⟨lw_p35, List.forall_mem_cons.mpr ⟨lw_p36, List.forall_mem_cons.mpr ⟨lw_p37, List.forall_mem_cons.mpr ⟨lw_p38, List.forall_mem_cons.mpr ⟨lw_p39, List.forall_mem_cons.mpr ⟨lw_p40, List.forall_mem_cons.mpr ⟨lw_p41, List.forall_mem_cons.mpr ⟨lw_p42, List.forall_mem_cons.mpr ⟨lw_p43, List.forall_mem_cons.mpr ⟨lw_p44, List.forall_mem_cons.mpr ⟨lw_p45, List.forall_mem_cons.mpr ⟨lw_p46, List.forall_mem_cons.mpr ⟨lw_p47, fun _ h => absurd h List.not_mem_nil⟩⟩⟩⟩⟩⟩⟩⟩⟩⟩⟩⟩⟩⟩⟩⟩
theorem lw_p48 : lw_okq (⟨"HungFromIceModel", "drifts", "(II)V"⟩, 23) := ⟨⟨by decide +kernel, by decide +kernel⟩, List.mem_of_getElem? (i := 946) (by decide +kernel), List.mem_of_getElem? (i := 1136) (by decide +kernel), List.mem_of_getElem? (i := 1137) (by decide +kernel)⟩
theorem lw_p49 : lw_okq (⟨"HungFromIceModel", "townAt", "(III)I"⟩, 23) := ⟨⟨by decide +kernel, by decide +kernel⟩, List.mem_of_getElem? (i := 946) (by decide +kernel), List.mem_of_getElem? (i := 1140) (by decide +kernel), List.mem_of_getElem? (i := 1141) (by decide +kernel)⟩
theorem lw_p50 : lw_okq (⟨"HungFromIceModel", "isCut", "(I)Z"⟩, 23) := ⟨⟨by decide +kernel, by decide +kernel⟩, List.mem_of_getElem? (i := 946) (by decide +kernel), List.mem_of_getElem? (i := 1148) (by decide +kernel), List.mem_of_getElem? (i := 1149) (by decide +kernel)⟩
theorem lw_p51 : lw_okq (⟨"HungFromIceModel", "more", "(IIII)I"⟩, 23) := ⟨⟨by decide +kernel, by decide +kernel⟩, List.mem_of_getElem? (i := 946) (by decide +kernel), List.mem_of_getElem? (i := 1152) (by decide +kernel), List.mem_of_getElem? (i := 1153) (by decide +kernel)⟩
theorem lw_p52 : lw_okq (⟨"HungFromIceModel", "isPlace", "(I)Z"⟩, 23) := ⟨⟨by decide +kernel, by decide +kernel⟩, List.mem_of_getElem? (i := 946) (by decide +kernel), List.mem_of_getElem? (i := 1160) (by decide +kernel), List.mem_of_getElem? (i := 1161) (by decide +kernel)⟩
theorem lw_p53 : lw_okq (⟨"HungFromIceModel", "isMarket", "(II)Z"⟩, 23) := ⟨⟨by decide +kernel, by decide +kernel⟩, List.mem_of_getElem? (i := 946) (by decide +kernel), List.mem_of_getElem? (i := 1164) (by decide +kernel), List.mem_of_getElem? (i := 1165) (by decide +kernel)⟩
theorem lw_p54 : lw_okq (⟨"HungFromIceModel", "areMet", "(II)Z"⟩, 23) := ⟨⟨by decide +kernel, by decide +kernel⟩, List.mem_of_getElem? (i := 946) (by decide +kernel), List.mem_of_getElem? (i := 1184) (by decide +kernel), List.mem_of_getElem? (i := 1185) (by decide +kernel)⟩
theorem lw_p55 : lw_okq (⟨"HungFromIceModel", "sounds", "()V"⟩, 23) := ⟨⟨by decide +kernel, by decide +kernel⟩, List.mem_of_getElem? (i := 946) (by decide +kernel), List.mem_of_getElem? (i := 1196) (by decide +kernel), List.mem_of_getElem? (i := 1197) (by decide +kernel)⟩
theorem lw_p56 : lw_okq (⟨"HungFromIceModel", "isSpot", "(I)Z"⟩, 23) := ⟨⟨by decide +kernel, by decide +kernel⟩, List.mem_of_getElem? (i := 946) (by decide +kernel), List.mem_of_getElem? (i := 1200) (by decide +kernel), List.mem_of_getElem? (i := 1201) (by decide +kernel)⟩
theorem lw_p57 : lw_okq (⟨"HungFromIceModel", "isSpread", "(I)Z"⟩, 23) := ⟨⟨by decide +kernel, by decide +kernel⟩, List.mem_of_getElem? (i := 946) (by decide +kernel), List.mem_of_getElem? (i := 1205) (by decide +kernel), List.mem_of_getElem? (i := 1206) (by decide +kernel)⟩
theorem lw_p58 : lw_okq (⟨"HungFromIceModel", "isSooner", "(IIII)Z"⟩, 23) := ⟨⟨by decide +kernel, by decide +kernel⟩, List.mem_of_getElem? (i := 946) (by decide +kernel), List.mem_of_getElem? (i := 1209) (by decide +kernel), List.mem_of_getElem? (i := 1210) (by decide +kernel)⟩
theorem lw_p59 : lw_okq (⟨"HungFromIceModel", "timeOf", "(II)I"⟩, 23) := ⟨⟨by decide +kernel, by decide +kernel⟩, List.mem_of_getElem? (i := 946) (by decide +kernel), List.mem_of_getElem? (i := 1213) (by decide +kernel), List.mem_of_getElem? (i := 1214) (by decide +kernel)⟩
theorem lw_p60 : lw_okq (⟨"HungFromIceModel", "spot", "(I)I"⟩, 23) := ⟨⟨by decide +kernel, by decide +kernel⟩, List.mem_of_getElem? (i := 946) (by decide +kernel), List.mem_of_getElem? (i := 1222) (by decide +kernel), List.mem_of_getElem? (i := 1223) (by decide +kernel)⟩
theorem lw_p61 : lw_okq (⟨"HungFromIceModel", "isWhence", "(I)Z"⟩, 23) := ⟨⟨by decide +kernel, by decide +kernel⟩, List.mem_of_getElem? (i := 946) (by decide +kernel), List.mem_of_getElem? (i := 1242) (by decide +kernel), List.mem_of_getElem? (i := 1243) (by decide +kernel)⟩
theorem lw_p62 : lw_okq (⟨"HungFromIceModel", "movedOf", "(I)I"⟩, 23) := ⟨⟨by decide +kernel, by decide +kernel⟩, List.mem_of_getElem? (i := 946) (by decide +kernel), List.mem_of_getElem? (i := 1250) (by decide +kernel), List.mem_of_getElem? (i := 1251) (by decide +kernel)⟩
theorem lw_p63 : lw_okq (⟨"HungFromIceModel", "isAll", "(I)Z"⟩, 23) := ⟨⟨by decide +kernel, by decide +kernel⟩, List.mem_of_getElem? (i := 946) (by decide +kernel), List.mem_of_getElem? (i := 1254) (by decide +kernel), List.mem_of_getElem? (i := 1255) (by decide +kernel)⟩
def lw_privs_4 : List (MethodName × Nat) := [(⟨"HungFromIceModel", "drifts", "(II)V"⟩, 23), (⟨"HungFromIceModel", "townAt", "(III)I"⟩, 23), (⟨"HungFromIceModel", "isCut", "(I)Z"⟩, 23), (⟨"HungFromIceModel", "more", "(IIII)I"⟩, 23), (⟨"HungFromIceModel", "isPlace", "(I)Z"⟩, 23), (⟨"HungFromIceModel", "isMarket", "(II)Z"⟩, 23), (⟨"HungFromIceModel", "areMet", "(II)Z"⟩, 23), (⟨"HungFromIceModel", "sounds", "()V"⟩, 23), (⟨"HungFromIceModel", "isSpot", "(I)Z"⟩, 23), (⟨"HungFromIceModel", "isSpread", "(I)Z"⟩, 23), (⟨"HungFromIceModel", "isSooner", "(IIII)Z"⟩, 23), (⟨"HungFromIceModel", "timeOf", "(II)I"⟩, 23), (⟨"HungFromIceModel", "spot", "(I)I"⟩, 23), (⟨"HungFromIceModel", "isWhence", "(I)Z"⟩, 23), (⟨"HungFromIceModel", "movedOf", "(I)I"⟩, 23), (⟨"HungFromIceModel", "isAll", "(I)Z"⟩, 23)]
theorem lw_r4 : ∀ q ∈ lw_privs_4, lw_okq q := List.forall_mem_cons.mpr ⟨lw_p48, List.forall_mem_cons.mpr ⟨lw_p49, List.forall_mem_cons.mpr ⟨lw_p50, List.forall_mem_cons.mpr ⟨lw_p51, List.forall_mem_cons.mpr ⟨lw_p52, List.forall_mem_cons.mpr ⟨lw_p53, List.forall_mem_cons.mpr ⟨lw_p54, List.forall_mem_cons.mpr ⟨lw_p55, List.forall_mem_cons.mpr ⟨lw_p56, List.forall_mem_cons.mpr ⟨lw_p57, List.forall_mem_cons.mpr ⟨lw_p58, List.forall_mem_cons.mpr ⟨lw_p59, List.forall_mem_cons.mpr ⟨lw_p60, List.forall_mem_cons.mpr ⟨lw_p61, List.forall_mem_cons.mpr ⟨lw_p62, List.forall_mem_cons.mpr ⟨lw_p63, fun _ h => absurd h List.not_mem_nil⟩⟩⟩⟩⟩⟩⟩⟩⟩⟩⟩⟩⟩⟩⟩⟩
theorem lw_p64 : lw_okq (⟨"HungFromIceModel", "hangs", "(II)I"⟩, 23) := ⟨⟨by decide +kernel, by decide +kernel⟩, List.mem_of_getElem? (i := 946) (by decide +kernel), List.mem_of_getElem? (i := 1258) (by decide +kernel), List.mem_of_getElem? (i := 1259) (by decide +kernel)⟩
theorem lw_p65 : lw_okq (⟨"HungFromIceModel", "canHang", "(II)Z"⟩, 23) := ⟨⟨by decide +kernel, by decide +kernel⟩, List.mem_of_getElem? (i := 946) (by decide +kernel), List.mem_of_getElem? (i := 1262) (by decide +kernel), List.mem_of_getElem? (i := 1263) (by decide +kernel)⟩
theorem lw_p66 : lw_okq (⟨"HungFromIceModel", "alone", "()V"⟩, 23) := ⟨⟨by decide +kernel, by decide +kernel⟩, List.mem_of_getElem? (i := 946) (by decide +kernel), List.mem_of_getElem? (i := 1270) (by decide +kernel), List.mem_of_getElem? (i := 1271) (by decide +kernel)⟩
theorem lw_p67 : lw_okq (⟨"HungFromIceModel", "lands", "(IIII)I"⟩, 23) := ⟨⟨by decide +kernel, by decide +kernel⟩, List.mem_of_getElem? (i := 946) (by decide +kernel), List.mem_of_getElem? (i := 1274) (by decide +kernel), List.mem_of_getElem? (i := 1275) (by decide +kernel)⟩
theorem lw_p68 : lw_okq (⟨"HungFromIceModel", "clearOf", "(II)I"⟩, 23) := ⟨⟨by decide +kernel, by decide +kernel⟩, List.mem_of_getElem? (i := 946) (by decide +kernel), List.mem_of_getElem? (i := 1286) (by decide +kernel), List.mem_of_getElem? (i := 1287) (by decide +kernel)⟩
def lw_privs_5 : List (MethodName × Nat) := [(⟨"HungFromIceModel", "hangs", "(II)I"⟩, 23), (⟨"HungFromIceModel", "canHang", "(II)Z"⟩, 23), (⟨"HungFromIceModel", "alone", "()V"⟩, 23), (⟨"HungFromIceModel", "lands", "(IIII)I"⟩, 23), (⟨"HungFromIceModel", "clearOf", "(II)I"⟩, 23)]
theorem lw_r5 : ∀ q ∈ lw_privs_5, lw_okq q := List.forall_mem_cons.mpr ⟨lw_p64, List.forall_mem_cons.mpr ⟨lw_p65, List.forall_mem_cons.mpr ⟨lw_p66, List.forall_mem_cons.mpr ⟨lw_p67, List.forall_mem_cons.mpr ⟨lw_p68, fun _ h => absurd h List.not_mem_nil⟩⟩⟩⟩⟩
def lw_privs : List (MethodName × Nat) := lw_privs_1 ++ (lw_privs_2 ++ (lw_privs_3 ++ (lw_privs_4 ++ (lw_privs_5))))
def lw_tbl : List Cond := k2_sels lw_privs ++ tables_1
theorem lw_privs_ok : ∀ q ∈ lw_privs, lw_okq q := by
  show ∀ q ∈ lw_privs_1 ++ (lw_privs_2 ++ (lw_privs_3 ++ (lw_privs_4 ++ (lw_privs_5)))), lw_okq q
  exact List.forall_mem_append.mpr ⟨lw_r1, List.forall_mem_append.mpr ⟨lw_r2, List.forall_mem_append.mpr ⟨lw_r3, List.forall_mem_append.mpr ⟨lw_r4, lw_r5⟩⟩⟩⟩
-- ===== end of PART A; then your names; then what follows =====
def RX0 : String := "HungFromIce$Drifter"
def TX0 : u_T := fun k => match k with
  | 0 => ("HungFromIce$Drifter", "sea", "LHungFromIce$Sea;", true)
  | 1 => ("HungFromIce$Drifter", "level", "I", false)
  | 2 => ("HungFromIce$Drifter", "place", "I", false)
  | 3 => ("HungFromIce$Drifter", "weight", "I", false)
  | _ => ("HungFromIce$Drifter", "by", "I", false)
def tyX0 : Nat → FieldType := fun k => match k with
  | 0 => .object "HungFromIce$Sea"
  | 1 => .int
  | 2 => .int
  | 3 => .int
  | _ => .int
abbrev wsX00 : List Cond := u_ws RX0 TX0 5
theorem nmX0 : ∀ a, a < 5 → ∀ b, b < 5 → a ≠ b → (TX0 a).2.1 ≠ (TX0 b).2.1 := by decide +kernel
theorem tyX0_ok : ∀ k, k < 5 → parseFieldDescriptor (TX0 k).2.2.1 = some (tyX0 k) := by decide +kernel
abbrev cX0_init : ByteArray := prog_2_method_1_code
def yX0_init : MethodName := ⟨RX0, "<init>", "(LHungFromIce$Sea;)V"⟩
abbrev cX0_put : ByteArray := prog_2_method_2_code
def yX0_put : MethodName := ⟨RX0, "put", "(III)V"⟩
abbrev cX0_take : ByteArray := prog_2_method_3_code
def yX0_take : MethodName := ⟨RX0, "take", "(I)V"⟩
abbrev cX0_give : ByteArray := prog_2_method_4_code
def yX0_give : MethodName := ⟨RX0, "give", "(I)V"⟩
abbrev cX0_isWhere : ByteArray := prog_2_method_5_code
def yX0_isWhere : MethodName := ⟨RX0, "isWhere", "(II)Z"⟩
abbrev cX0_flow : ByteArray := prog_2_method_6_code
def yX0_flow : MethodName := ⟨RX0, "flow", "()V"⟩
abbrev cX0_pass : ByteArray := prog_2_method_7_code
def yX0_pass : MethodName := ⟨RX0, "pass", "(I)V"⟩
abbrev cX0_passMany : ByteArray := prog_2_method_8_code
def yX0_passMany : MethodName := ⟨RX0, "passMany", "(I)V"⟩
abbrev cX0_passUntilCaught : ByteArray := prog_2_method_9_code
def yX0_passUntilCaught : MethodName := ⟨RX0, "passUntilCaught", "(I)I"⟩
def RX1 : String := "HungFromIce$Drifts"
def TX1 : u_T := fun k => match k with
  | 0 => ("HungFromIce$Drifts", "levels", "[I", true)
  | 1 => ("HungFromIce$Drifts", "starts", "[I", true)
  | 2 => ("HungFromIce$Drifts", "ends", "[I", true)
  | 3 => ("HungFromIce$Drifts", "lengths", "[I", true)
  | _ => ("HungFromIce$Drifts", "amount", "I", false)
def tyX1 : Nat → FieldType := fun k => match k with
  | 0 => .array .int
  | 1 => .array .int
  | 2 => .array .int
  | 3 => .array .int
  | _ => .int
abbrev wsX10 : List Cond := u_ws RX1 TX1 5
theorem nmX1 : ∀ a, a < 5 → ∀ b, b < 5 → a ≠ b → (TX1 a).2.1 ≠ (TX1 b).2.1 := by decide +kernel
theorem tyX1_ok : ∀ k, k < 5 → parseFieldDescriptor (TX1 k).2.2.1 = some (tyX1 k) := by decide +kernel
abbrev cX1_init : ByteArray := prog_3_method_1_code
def yX1_init : MethodName := ⟨RX1, "<init>", "()V"⟩
abbrev cX1_add : ByteArray := prog_3_method_2_code
def yX1_add : MethodName := ⟨RX1, "add", "(IIII)Z"⟩
abbrev cX1_empty : ByteArray := prog_3_method_3_code
def yX1_empty : MethodName := ⟨RX1, "empty", "()I"⟩
abbrev cX1_allBy : ByteArray := prog_3_method_4_code
def yX1_allBy : MethodName := ⟨RX1, "allBy", "(LHungFromIce$Told;II)Z"⟩
def RX2 : String := "HungFromIce$Hearing"
def TX2 : u_T := fun k => match k with
  | 0 => ("HungFromIce$Hearing", "sea", "LHungFromIce$Sea;", true)
  | 1 => ("HungFromIce$Hearing", "sound", "LHungFromIce$Sound;", true)
  | 2 => ("HungFromIce$Hearing", "towns", "[I", true)
  | 3 => ("HungFromIce$Hearing", "beats", "[I", true)
  | 4 => ("HungFromIce$Hearing", "amount", "I", false)
  | 5 => ("HungFromIce$Hearing", "sources", "I", false)
  | _ => ("HungFromIce$Hearing", "lowest", "I", false)
def tyX2 : Nat → FieldType := fun k => match k with
  | 0 => .object "HungFromIce$Sea"
  | 1 => .object "HungFromIce$Sound"
  | 2 => .array .int
  | 3 => .array .int
  | 4 => .int
  | 5 => .int
  | _ => .int
abbrev wsX20 : List Cond := u_ws RX2 TX2 7
theorem nmX2 : ∀ a, a < 7 → ∀ b, b < 7 → a ≠ b → (TX2 a).2.1 ≠ (TX2 b).2.1 := by decide +kernel
theorem tyX2_ok : ∀ k, k < 7 → parseFieldDescriptor (TX2 k).2.2.1 = some (tyX2 k) := by decide +kernel
abbrev cX2_init : ByteArray := prog_4_method_1_code
def yX2_init : MethodName := ⟨RX2, "<init>", "(LHungFromIce$Sea;LHungFromIce$Sound;)V"⟩
abbrev cX2_add : ByteArray := prog_4_method_2_code
def yX2_add : MethodName := ⟨RX2, "add", "(II)Z"⟩
abbrev cX2_empty : ByteArray := prog_4_method_3_code
def yX2_empty : MethodName := ⟨RX2, "empty", "()I"⟩
abbrev cX2_seek : ByteArray := prog_4_method_4_code
def yX2_seek : MethodName := ⟨RX2, "seek", "()V"⟩
abbrev cX2_canBeSource : ByteArray := prog_4_method_5_code
def yX2_canBeSource : MethodName := ⟨RX2, "canBeSource", "(I)Z"⟩
def RX3 : String := "HungFromIce$Moves"
def TX3 : u_T := fun k => match k with
  | 0 => ("HungFromIce$Moves", "sea", "LHungFromIce$Sea;", true)
  | 1 => ("HungFromIce$Moves", "sound", "LHungFromIce$Sound;", true)
  | 2 => ("HungFromIce$Moves", "spots", "[I", true)
  | 3 => ("HungFromIce$Moves", "rows", "[LHungFromIce$Row;", true)
  | 4 => ("HungFromIce$Moves", "most", "I", false)
  | 5 => ("HungFromIce$Moves", "fewest", "I", false)
  | 6 => ("HungFromIce$Moves", "lower", "I", false)
  | _ => ("HungFromIce$Moves", "upper", "I", false)
def tyX3 : Nat → FieldType := fun k => match k with
  | 0 => .object "HungFromIce$Sea"
  | 1 => .object "HungFromIce$Sound"
  | 2 => .array .int
  | 3 => .array (.object "HungFromIce$Row")
  | 4 => .int
  | 5 => .int
  | 6 => .int
  | _ => .int
abbrev wsX30 : List Cond := u_ws RX3 TX3 8
theorem nmX3 : ∀ a, a < 8 → ∀ b, b < 8 → a ≠ b → (TX3 a).2.1 ≠ (TX3 b).2.1 := by decide +kernel
theorem tyX3_ok : ∀ k, k < 8 → parseFieldDescriptor (TX3 k).2.2.1 = some (tyX3 k) := by decide +kernel
abbrev cX3_init : ByteArray := prog_5_method_1_code
def yX3_init : MethodName := ⟨RX3, "<init>", "(LHungFromIce$Sea;LHungFromIce$Sound;)V"⟩
abbrev cX3_seek : ByteArray := prog_5_method_2_code
def yX3_seek : MethodName := ⟨RX3, "seek", "(I)V"⟩
abbrev cX3_hangAt : ByteArray := prog_5_method_3_code
def yX3_hangAt : MethodName := ⟨RX3, "hangAt", "(II)V"⟩
abbrev cX3_seekOne : ByteArray := prog_5_method_4_code
def yX3_seekOne : MethodName := ⟨RX3, "seekOne", "()Z"⟩
abbrev cX3_seekTwo : ByteArray := prog_5_method_5_code
def yX3_seekTwo : MethodName := ⟨RX3, "seekTwo", "()Z"⟩
abbrev cX3_seekWith : ByteArray := prog_5_method_6_code
def yX3_seekWith : MethodName := ⟨RX3, "seekWith", "(I)Z"⟩
abbrev cX3_seekAbove : ByteArray := prog_5_method_7_code
def yX3_seekAbove : MethodName := ⟨RX3, "seekAbove", "(I)I"⟩
abbrev cX3_placeFor : ByteArray := prog_5_method_8_code
def yX3_placeFor : MethodName := ⟨RX3, "placeFor", "(I)I"⟩
abbrev cX3_isFree : ByteArray := prog_5_method_9_code
def yX3_isFree : MethodName := ⟨RX3, "isFree", "(II)Z"⟩
abbrev cX3_allHear : ByteArray := prog_5_method_10_code
def yX3_allHear : MethodName := ⟨RX3, "allHear", "(I)Z"⟩
abbrev cX3_allHearAt : ByteArray := prog_5_method_11_code
def yX3_allHearAt : MethodName := ⟨RX3, "allHearAt", "(II)Z"⟩
abbrev cX3_beatsFrom : ByteArray := prog_5_method_12_code
def yX3_beatsFrom : MethodName := ⟨RX3, "beatsFrom", "(II)I"⟩
def RX4 : String := "HungFromIce$Past"
def TX4 : u_T := fun k => match k with
  | 0 => ("HungFromIce$Past", "states", "[LHungFromIce$State;", true)
  | 1 => ("HungFromIce$Past", "oldest", "I", false)
  | _ => ("HungFromIce$Past", "amount", "I", false)
def tyX4 : Nat → FieldType := fun k => match k with
  | 0 => .array (.object "HungFromIce$State")
  | 1 => .int
  | _ => .int
abbrev wsX40 : List Cond := u_ws RX4 TX4 3
theorem nmX4 : ∀ a, a < 3 → ∀ b, b < 3 → a ≠ b → (TX4 a).2.1 ≠ (TX4 b).2.1 := by decide +kernel
theorem tyX4_ok : ∀ k, k < 3 → parseFieldDescriptor (TX4 k).2.2.1 = some (tyX4 k) := by decide +kernel
abbrev cX4_init : ByteArray := prog_6_method_1_code
def yX4_init : MethodName := ⟨RX4, "<init>", "(I)V"⟩
abbrev cX4_empty : ByteArray := prog_6_method_2_code
def yX4_empty : MethodName := ⟨RX4, "empty", "()V"⟩
abbrev cX4_push : ByteArray := prog_6_method_3_code
def yX4_push : MethodName := ⟨RX4, "push", "(LHungFromIce$State;)V"⟩
abbrev cX4_pop : ByteArray := prog_6_method_4_code
def yX4_pop : MethodName := ⟨RX4, "pop", "(LHungFromIce$State;)Z"⟩
abbrev cX4_slot : ByteArray := prog_6_method_5_code
def yX4_slot : MethodName := ⟨RX4, "slot", "(I)I"⟩
def RX5 : String := "HungFromIce$Row"
def TX5 : u_T := fun k => match k with
  | 0 => ("HungFromIce$Row", "beats", "[I", true)
  | _ => ("HungFromIce$Row", "known", "Z", false)
def tyX5 : Nat → FieldType := fun k => match k with
  | 0 => .array .int
  | _ => .boolean
abbrev wsX50 : List Cond := u_ws RX5 TX5 2
theorem nmX5 : ∀ a, a < 2 → ∀ b, b < 2 → a ≠ b → (TX5 a).2.1 ≠ (TX5 b).2.1 := by decide +kernel
theorem tyX5_ok : ∀ k, k < 2 → parseFieldDescriptor (TX5 k).2.2.1 = some (tyX5 k) := by decide +kernel
abbrev cX5_init : ByteArray := prog_7_method_1_code
def yX5_init : MethodName := ⟨RX5, "<init>", "()V"⟩
abbrev cX5_silence : ByteArray := prog_7_method_2_code
def yX5_silence : MethodName := ⟨RX5, "silence", "()V"⟩
abbrev cX5_beatsTo : ByteArray := prog_7_method_3_code
def yX5_beatsTo : MethodName := ⟨RX5, "beatsTo", "(I)I"⟩
def RX6 : String := "HungFromIce$Sea"
def TX6 : u_T := fun k => match k with
  | 0 => ("HungFromIce$Sea", "told", "LHungFromIce$Told;", false)
  | _ => ("HungFromIce$Sea", "now", "LHungFromIce$State;", true)
def tyX6 : Nat → FieldType := fun k => match k with
  | 0 => .object "HungFromIce$Told"
  | _ => .object "HungFromIce$State"
abbrev wsX60 : List Cond := u_ws RX6 TX6 2
theorem nmX6 : ∀ a, a < 2 → ∀ b, b < 2 → a ≠ b → (TX6 a).2.1 ≠ (TX6 b).2.1 := by decide +kernel
theorem tyX6_ok : ∀ k, k < 2 → parseFieldDescriptor (TX6 k).2.2.1 = some (tyX6 k) := by decide +kernel
abbrev cX6_init : ByteArray := prog_8_method_1_code
def yX6_init : MethodName := ⟨RX6, "<init>", "()V"⟩
abbrev cX6_start : ByteArray := prog_8_method_2_code
def yX6_start : MethodName := ⟨RX6, "start", "()V"⟩
abbrev cX6_isLevel : ByteArray := prog_8_method_3_code
def yX6_isLevel : MethodName := ⟨RX6, "isLevel", "(I)Z"⟩
abbrev cX6_isPlace : ByteArray := prog_8_method_4_code
def yX6_isPlace : MethodName := ⟨RX6, "isPlace", "(I)Z"⟩
abbrev cX6_isTown : ByteArray := prog_8_method_5_code
def yX6_isTown : MethodName := ⟨RX6, "isTown", "(I)Z"⟩
abbrev cX6_isThing : ByteArray := prog_8_method_6_code
def yX6_isThing : MethodName := ⟨RX6, "isThing", "(I)Z"⟩
abbrev cX6_townSpot : ByteArray := prog_8_method_7_code
def yX6_townSpot : MethodName := ⟨RX6, "townSpot", "(I)I"⟩
abbrev cX6_townAt : ByteArray := prog_8_method_8_code
def yX6_townAt : MethodName := ⟨RX6, "townAt", "(III)I"⟩
def RX7 : String := "HungFromIce$Sound"
def TX7 : u_T := fun k => match k with
  | 0 => ("HungFromIce$Sound", "sea", "LHungFromIce$Sea;", true)
  | 1 => ("HungFromIce$Sound", "rows", "[LHungFromIce$Row;", true)
  | 2 => ("HungFromIce$Sound", "nowhere", "LHungFromIce$Row;", true)
  | _ => ("HungFromIce$Sound", "shut", "[Z", true)
def tyX7 : Nat → FieldType := fun k => match k with
  | 0 => .object "HungFromIce$Sea"
  | 1 => .array (.object "HungFromIce$Row")
  | 2 => .object "HungFromIce$Row"
  | _ => .array .boolean
abbrev wsX70 : List Cond := u_ws RX7 TX7 4
theorem nmX7 : ∀ a, a < 4 → ∀ b, b < 4 → a ≠ b → (TX7 a).2.1 ≠ (TX7 b).2.1 := by decide +kernel
theorem tyX7_ok : ∀ k, k < 4 → parseFieldDescriptor (TX7 k).2.2.1 = some (tyX7 k) := by decide +kernel
abbrev cX7_init : ByteArray := prog_9_method_1_code
def yX7_init : MethodName := ⟨RX7, "<init>", "(LHungFromIce$Sea;)V"⟩
abbrev cX7_start : ByteArray := prog_9_method_2_code
def yX7_start : MethodName := ⟨RX7, "start", "()V"⟩
abbrev cX7_isOpen : ByteArray := prog_9_method_3_code
def yX7_isOpen : MethodName := ⟨RX7, "isOpen", "(I)Z"⟩
abbrev cX7_rowFrom : ByteArray := prog_9_method_4_code
def yX7_rowFrom : MethodName := ⟨RX7, "rowFrom", "(I)LHungFromIce$Row;"⟩
abbrev cX7_fill : ByteArray := prog_9_method_5_code
def yX7_fill : MethodName := ⟨RX7, "fill", "(LHungFromIce$Row;I)V"⟩
abbrev cX7_improve : ByteArray := prog_9_method_6_code
def yX7_improve : MethodName := ⟨RX7, "improve", "([III)Z"⟩
def RX8 : String := "HungFromIce$State"
def TX8 : u_T := fun k => match k with
  | 0 => ("HungFromIce$State", "gone", "I", false)
  | 1 => ("HungFromIce$State", "things", "I", false)
  | 2 => ("HungFromIce$State", "townPlace", "[I", true)
  | 3 => ("HungFromIce$State", "townCut", "[Z", true)
  | 4 => ("HungFromIce$State", "thingLevel", "[I", true)
  | 5 => ("HungFromIce$State", "thingPlace", "[I", true)
  | 6 => ("HungFromIce$State", "thingWeight", "[I", true)
  | _ => ("HungFromIce$State", "thingBy", "[I", true)
def tyX8 : Nat → FieldType := fun k => match k with
  | 0 => .int
  | 1 => .int
  | 2 => .array .int
  | 3 => .array .boolean
  | 4 => .array .int
  | 5 => .array .int
  | 6 => .array .int
  | _ => .array .int
abbrev wsX80 : List Cond := u_ws RX8 TX8 8
theorem nmX8 : ∀ a, a < 8 → ∀ b, b < 8 → a ≠ b → (TX8 a).2.1 ≠ (TX8 b).2.1 := by decide +kernel
theorem tyX8_ok : ∀ k, k < 8 → parseFieldDescriptor (TX8 k).2.2.1 = some (tyX8 k) := by decide +kernel
abbrev cX8_init : ByteArray := prog_10_method_1_code
def yX8_init : MethodName := ⟨RX8, "<init>", "()V"⟩
abbrev cX8_start : ByteArray := prog_10_method_2_code
def yX8_start : MethodName := ⟨RX8, "start", "(LHungFromIce$Told;)V"⟩
abbrev cX8_copyFrom : ByteArray := prog_10_method_3_code
def yX8_copyFrom : MethodName := ⟨RX8, "copyFrom", "(LHungFromIce$State;)V"⟩
abbrev cX8_addThing : ByteArray := prog_10_method_4_code
def yX8_addThing : MethodName := ⟨RX8, "addThing", "(III)I"⟩
abbrev cX8_hangTown : ByteArray := prog_10_method_5_code
def yX8_hangTown : MethodName := ⟨RX8, "hangTown", "(II)V"⟩
abbrev cX8_cutTown : ByteArray := prog_10_method_6_code
def yX8_cutTown : MethodName := ⟨RX8, "cutTown", "(I)V"⟩
def RX9 : String := "HungFromIce$Text"
def TX9 : u_T := fun k => match k with
  | 0 => ("HungFromIce$Text", "letters", "[I", true)
  | 1 => ("HungFromIce$Text", "numbers", "[I", true)
  | 2 => ("HungFromIce$Text", "numbersRead", "I", false)
  | _ => ("HungFromIce$Text", "length", "I", false)
def tyX9 : Nat → FieldType := fun k => match k with
  | 0 => .array .int
  | 1 => .array .int
  | 2 => .int
  | _ => .int
abbrev wsX90 : List Cond := u_ws RX9 TX9 4
theorem nmX9 : ∀ a, a < 4 → ∀ b, b < 4 → a ≠ b → (TX9 a).2.1 ≠ (TX9 b).2.1 := by decide +kernel
theorem tyX9_ok : ∀ k, k < 4 → parseFieldDescriptor (TX9 k).2.2.1 = some (tyX9 k) := by decide +kernel
abbrev cX9_init : ByteArray := prog_11_method_1_code
def yX9_init : MethodName := ⟨RX9, "<init>", "()V"⟩
abbrev cX9_add : ByteArray := prog_11_method_2_code
def yX9_add : MethodName := ⟨RX9, "add", "(I)Z"⟩
abbrev cX9_empty : ByteArray := prog_11_method_3_code
def yX9_empty : MethodName := ⟨RX9, "empty", "()I"⟩
abbrev cX9_readInto : ByteArray := prog_11_method_4_code
def yX9_readInto : MethodName := ⟨RX9, "readInto", "(LHungFromIce$Told;)I"⟩
abbrev cX9_splitItem : ByteArray := prog_11_method_5_code
def yX9_splitItem : MethodName := ⟨RX9, "splitItem", "(I)I"⟩
abbrev cX9_figuresFrom : ByteArray := prog_11_method_6_code
def yX9_figuresFrom : MethodName := ⟨RX9, "figuresFrom", "(I)I"⟩
abbrev cX9_numberFrom : ByteArray := prog_11_method_7_code
def yX9_numberFrom : MethodName := ⟨RX9, "numberFrom", "(II)I"⟩
abbrev cX9_letterAt : ByteArray := prog_11_method_8_code
def yX9_letterAt : MethodName := ⟨RX9, "letterAt", "(I)I"⟩
def RX10 : String := "HungFromIce$Told"
def TX10 : u_T := fun k => match k with
  | 0 => ("HungFromIce$Told", "places", "I", false)
  | 1 => ("HungFromIce$Told", "levels", "I", false)
  | 2 => ("HungFromIce$Told", "current", "[I", true)
  | 3 => ("HungFromIce$Told", "warmth", "[I", true)
  | 4 => ("HungFromIce$Told", "beats", "[I", true)
  | 5 => ("HungFromIce$Told", "towns", "I", false)
  | 6 => ("HungFromIce$Told", "townLevel", "[I", true)
  | 7 => ("HungFromIce$Told", "townPlace", "[I", true)
  | 8 => ("HungFromIce$Told", "townHas", "[I", true)
  | 9 => ("HungFromIce$Told", "townWants", "[I", true)
  | 10 => ("HungFromIce$Told", "markets", "I", false)
  | 11 => ("HungFromIce$Told", "marketLevel", "[I", true)
  | 12 => ("HungFromIce$Told", "marketPlace", "[I", true)
  | 13 => ("HungFromIce$Told", "things", "I", false)
  | 14 => ("HungFromIce$Told", "thingLevel", "[I", true)
  | 15 => ("HungFromIce$Told", "thingPlace", "[I", true)
  | _ => ("HungFromIce$Told", "thingWeight", "[I", true)
def tyX10 : Nat → FieldType := fun k => match k with
  | 0 => .int
  | 1 => .int
  | 2 => .array .int
  | 3 => .array .int
  | 4 => .array .int
  | 5 => .int
  | 6 => .array .int
  | 7 => .array .int
  | 8 => .array .int
  | 9 => .array .int
  | 10 => .int
  | 11 => .array .int
  | 12 => .array .int
  | 13 => .int
  | 14 => .array .int
  | 15 => .array .int
  | _ => .array .int
abbrev wsX100 : List Cond := u_ws RX10 TX10 17
theorem nmX10 : ∀ a, a < 17 → ∀ b, b < 17 → a ≠ b → (TX10 a).2.1 ≠ (TX10 b).2.1 := by decide +kernel
theorem tyX10_ok : ∀ k, k < 17 → parseFieldDescriptor (TX10 k).2.2.1 = some (tyX10 k) := by decide +kernel
abbrev cX10_init : ByteArray := prog_12_method_1_code
def yX10_init : MethodName := ⟨RX10, "<init>", "()V"⟩
abbrev cX10_start : ByteArray := prog_12_method_2_code
def yX10_start : MethodName := ⟨RX10, "start", "()V"⟩
abbrev cX10_wrap : ByteArray := prog_12_method_3_code
def yX10_wrap : MethodName := ⟨RX10, "wrap", "(I)I"⟩
abbrev cX10_addItem : ByteArray := prog_12_method_4_code
def yX10_addItem : MethodName := ⟨RX10, "addItem", "(I[II)Z"⟩
abbrev cX10_addPlaces : ByteArray := prog_12_method_5_code
def yX10_addPlaces : MethodName := ⟨RX10, "addPlaces", "(I)Z"⟩
abbrev cX10_addLevel : ByteArray := prog_12_method_6_code
def yX10_addLevel : MethodName := ⟨RX10, "addLevel", "(III)Z"⟩
abbrev cX10_addTown : ByteArray := prog_12_method_7_code
def yX10_addTown : MethodName := ⟨RX10, "addTown", "(IIII)Z"⟩
abbrev cX10_addMarket : ByteArray := prog_12_method_8_code
def yX10_addMarket : MethodName := ⟨RX10, "addMarket", "(II)Z"⟩
abbrev cX10_addThing : ByteArray := prog_12_method_9_code
def yX10_addThing : MethodName := ⟨RX10, "addThing", "(III)Z"⟩
abbrev cX10_canBeSpot : ByteArray := prog_12_method_10_code
def yX10_canBeSpot : MethodName := ⟨RX10, "canBeSpot", "(II)Z"⟩
abbrev cX10_holds : ByteArray := prog_12_method_11_code
def yX10_holds : MethodName := ⟨RX10, "holds", "()Z"⟩
abbrev cX10_allLevelsThere : ByteArray := prog_12_method_12_code
def yX10_allLevelsThere : MethodName := ⟨RX10, "allLevelsThere", "()Z"⟩
abbrev cX10_townsApart : ByteArray := prog_12_method_13_code
def yX10_townsApart : MethodName := ⟨RX10, "townsApart", "()Z"⟩
def RX11 : String := "HungFromIce"
def TX11 : u_T := fun k => match k with
  | 0 => ("HungFromIce", "text", "LHungFromIce$Text;", true)
  | 1 => ("HungFromIce", "sea", "LHungFromIce$Sea;", true)
  | 2 => ("HungFromIce", "undoable", "LHungFromIce$Past;", true)
  | 3 => ("HungFromIce", "kept", "LHungFromIce$Past;", true)
  | 4 => ("HungFromIce", "one", "LHungFromIce$Drifter;", true)
  | 5 => ("HungFromIce", "other", "LHungFromIce$Drifter;", true)
  | 6 => ("HungFromIce", "sound", "LHungFromIce$Sound;", true)
  | 7 => ("HungFromIce", "hearing", "LHungFromIce$Hearing;", true)
  | 8 => ("HungFromIce", "moves", "LHungFromIce$Moves;", true)
  | 9 => ("HungFromIce", "drifts", "LHungFromIce$Drifts;", true)
  | 10 => ("HungFromIce", "odds", "[J", true)
  | _ => ("HungFromIce", "draft", "LHungFromIce$Told;", false)
def tyX11 : Nat → FieldType := fun k => match k with
  | 0 => .object "HungFromIce$Text"
  | 1 => .object "HungFromIce$Sea"
  | 2 => .object "HungFromIce$Past"
  | 3 => .object "HungFromIce$Past"
  | 4 => .object "HungFromIce$Drifter"
  | 5 => .object "HungFromIce$Drifter"
  | 6 => .object "HungFromIce$Sound"
  | 7 => .object "HungFromIce$Hearing"
  | 8 => .object "HungFromIce$Moves"
  | 9 => .object "HungFromIce$Drifts"
  | 10 => .array .long
  | _ => .object "HungFromIce$Told"
abbrev wsX110 : List Cond := u_ws RX11 TX11 12
theorem nmX11 : ∀ a, a < 12 → ∀ b, b < 12 → a ≠ b → (TX11 a).2.1 ≠ (TX11 b).2.1 := by decide +kernel
theorem tyX11_ok : ∀ k, k < 12 → parseFieldDescriptor (TX11 k).2.2.1 = some (tyX11 k) := by decide +kernel
abbrev cX11_init : ByteArray := prog_1_method_1_code
def yX11_init : MethodName := ⟨RX11, "<init>", "()V"⟩
abbrev cX11_write : ByteArray := prog_1_method_2_code
def yX11_write : MethodName := ⟨RX11, "write", "(I)I"⟩
abbrev cX11_wipe : ByteArray := prog_1_method_3_code
def yX11_wipe : MethodName := ⟨RX11, "wipe", "()I"⟩
abbrev cX11_fault : ByteArray := prog_1_method_4_code
def yX11_fault : MethodName := ⟨RX11, "fault", "()I"⟩
abbrev cX11_lay : ByteArray := prog_1_method_5_code
def yX11_lay : MethodName := ⟨RX11, "lay", "()I"⟩
abbrev cX11_level : ByteArray := prog_1_method_6_code
def yX11_level : MethodName := ⟨RX11, "level", "(II)I"⟩
abbrev cX11_town : ByteArray := prog_1_method_7_code
def yX11_town : MethodName := ⟨RX11, "town", "(II)I"⟩
abbrev cX11_thing : ByteArray := prog_1_method_8_code
def yX11_thing : MethodName := ⟨RX11, "thing", "(II)I"⟩
abbrev cX11_steps : ByteArray := prog_1_method_9_code
def yX11_steps : MethodName := ⟨RX11, "steps", "(I)I"⟩
abbrev cX11_letGo : ByteArray := prog_1_method_10_code
def yX11_letGo : MethodName := ⟨RX11, "letGo", "(II)I"⟩
abbrev cX11_hang : ByteArray := prog_1_method_11_code
def yX11_hang : MethodName := ⟨RX11, "hang", "(II)I"⟩
abbrev cX11_cut : ByteArray := prog_1_method_12_code
def yX11_cut : MethodName := ⟨RX11, "cut", "(I)I"⟩
abbrev cX11_undo : ByteArray := prog_1_method_13_code
def yX11_undo : MethodName := ⟨RX11, "undo", "()I"⟩
abbrev cX11_behind : ByteArray := prog_1_method_14_code
def yX11_behind : MethodName := ⟨RX11, "behind", "(III)I"⟩
abbrev cX11_meet : ByteArray := prog_1_method_15_code
def yX11_meet : MethodName := ⟨RX11, "meet", "(II)I"⟩
abbrev cX11_round : ByteArray := prog_1_method_16_code
def yX11_round : MethodName := ⟨RX11, "round", "(I)I"⟩
abbrev cX11_time : ByteArray := prog_1_method_17_code
def yX11_time : MethodName := ⟨RX11, "time", "(IIII)I"⟩
abbrev cX11_hears : ByteArray := prog_1_method_18_code
def yX11_hears : MethodName := ⟨RX11, "hears", "(II)I"⟩
abbrev cX11_shadow : ByteArray := prog_1_method_19_code
def yX11_shadow : MethodName := ⟨RX11, "shadow", "(I)I"⟩
abbrev cX11_heard : ByteArray := prog_1_method_20_code
def yX11_heard : MethodName := ⟨RX11, "heard", "(II)I"⟩
abbrev cX11_hush : ByteArray := prog_1_method_21_code
def yX11_hush : MethodName := ⟨RX11, "hush", "()I"⟩
abbrev cX11_whence : ByteArray := prog_1_method_22_code
def yX11_whence : MethodName := ⟨RX11, "whence", "(I)I"⟩
abbrev cX11_moved : ByteArray := prog_1_method_23_code
def yX11_moved : MethodName := ⟨RX11, "moved", "(II)I"⟩
abbrev cX11_sent : ByteArray := prog_1_method_24_code
def yX11_sent : MethodName := ⟨RX11, "sent", "(III)I"⟩
abbrev cX11_fall : ByteArray := prog_1_method_25_code
def yX11_fall : MethodName := ⟨RX11, "fall", "(II)I"⟩
abbrev cX11_clear : ByteArray := prog_1_method_26_code
def yX11_clear : MethodName := ⟨RX11, "clear", "(II)I"⟩
abbrev cX11_gain : ByteArray := prog_1_method_27_code
def yX11_gain : MethodName := ⟨RX11, "gain", "(I)I"⟩
abbrev cX11_drifted : ByteArray := prog_1_method_28_code
def yX11_drifted : MethodName := ⟨RX11, "drifted", "(IIII)I"⟩
abbrev cX11_forget : ByteArray := prog_1_method_29_code
def yX11_forget : MethodName := ⟨RX11, "forget", "()I"⟩
abbrev cX11_currents : ByteArray := prog_1_method_30_code
def yX11_currents : MethodName := ⟨RX11, "currents", "(I)I"⟩
abbrev cX11_leak : ByteArray := prog_1_method_31_code
def yX11_leak : MethodName := ⟨RX11, "leak", "(IIIII)J"⟩
abbrev cX11_year : ByteArray := prog_1_method_32_code
def yX11_year : MethodName := ⟨RX11, "year", "(III)I"⟩
abbrev cX11_keep : ByteArray := prog_1_method_33_code
def yX11_keep : MethodName := ⟨RX11, "keep", "()I"⟩
abbrev cX11_back : ByteArray := prog_1_method_34_code
def yX11_back : MethodName := ⟨RX11, "back", "()I"⟩
abbrev cX11_count : ByteArray := prog_1_method_35_code
def yX11_count : MethodName := ⟨RX11, "count", "(I)I"⟩
abbrev cX11_within : ByteArray := prog_1_method_36_code
def yX11_within : MethodName := ⟨RX11, "within", "(III)Z"⟩
abbrev cX11_spotOf : ByteArray := prog_1_method_37_code
def yX11_spotOf : MethodName := ⟨RX11, "spotOf", "(II)I"⟩
abbrev cX11_layText : ByteArray := prog_1_method_38_code
def yX11_layText : MethodName := ⟨RX11, "layText", "()Z"⟩
abbrev cX11_clearingPrice : ByteArray := prog_1_method_39_code
def yX11_clearingPrice : MethodName := ⟨RX11, "clearingPrice", "(II)I"⟩
abbrev cX11_anyTown : ByteArray := prog_1_method_40_code
def yX11_anyTown : MethodName := ⟨RX11, "anyTown", "(II)Z"⟩
abbrev cX11_lackAt : ByteArray := prog_1_method_41_code
def yX11_lackAt : MethodName := ⟨RX11, "lackAt", "(III)I"⟩
abbrev cX11_spreadOdds : ByteArray := prog_1_method_42_code
def yX11_spreadOdds : MethodName := ⟨RX11, "spreadOdds", "(III)V"⟩
abbrev cX11_commonDivisor : ByteArray := prog_1_method_43_code
def yX11_commonDivisor : MethodName := ⟨RX11, "commonDivisor", "(JJ)J"⟩
abbrev cX11_putDrawn : ByteArray := prog_1_method_44_code
def yX11_putDrawn : MethodName := ⟨RX11, "putDrawn", "(II)V"⟩
def RX12 : String := "HungFromIceModel"
def TX12 : u_T := fun k => match k with
  | 0 => ("HungFromIceModel", "length", "I", false)
  | 1 => ("HungFromIceModel", "text", "[B", true)
  | 2 => ("HungFromIceModel", "at", "I", false)
  | 3 => ("HungFromIceModel", "told", "[I", true)
  | 4 => ("HungFromIceModel", "levels", "[I", true)
  | 5 => ("HungFromIceModel", "towns", "[I", true)
  | 6 => ("HungFromIceModel", "markets", "[I", true)
  | 7 => ("HungFromIceModel", "things", "[I", true)
  | 8 => ("HungFromIceModel", "slot", "[I", true)
  | 9 => ("HungFromIceModel", "kept", "I", false)
  | 10 => ("HungFromIceModel", "done", "I", false)
  | 11 => ("HungFromIceModel", "heards", "I", false)
  | 12 => ("HungFromIceModel", "heard", "[I", true)
  | 13 => ("HungFromIceModel", "drifts", "I", false)
  | 14 => ("HungFromIceModel", "drift", "[I", true)
  | 15 => ("HungFromIceModel", "far", "[I", true)
  | 16 => ("HungFromIceModel", "isFar", "Z", false)
  | 17 => ("HungFromIceModel", "hung", "[I", true)
  | 18 => ("HungFromIceModel", "wantOne", "I", false)
  | 19 => ("HungFromIceModel", "wantTwo", "I", false)
  | 20 => ("HungFromIceModel", "chance", "[J", true)
  | 21 => ("HungFromIceModel", "got", "[I", true)
  | _ => ("HungFromIceModel", "stepsTaken", "I", false)
def tyX12 : Nat → FieldType := fun k => match k with
  | 0 => .int
  | 1 => .array .byte
  | 2 => .int
  | 3 => .array .int
  | 4 => .array .int
  | 5 => .array .int
  | 6 => .array .int
  | 7 => .array .int
  | 8 => .array .int
  | 9 => .int
  | 10 => .int
  | 11 => .int
  | 12 => .array .int
  | 13 => .int
  | 14 => .array .int
  | 15 => .array .int
  | 16 => .boolean
  | 17 => .array .int
  | 18 => .int
  | 19 => .int
  | 20 => .array .long
  | 21 => .array .int
  | _ => .int
abbrev wsX120 : List Cond := u_ws RX12 TX12 23
theorem nmX12 : ∀ a, a < 23 → ∀ b, b < 23 → a ≠ b → (TX12 a).2.1 ≠ (TX12 b).2.1 := by decide +kernel
theorem tyX12_ok : ∀ k, k < 23 → parseFieldDescriptor (TX12 k).2.2.1 = some (tyX12 k) := by decide +kernel
abbrev cX12_init : ByteArray := prog_14_method_1_code
def yX12_init : MethodName := ⟨RX12, "<init>", "()V"⟩
abbrev cX12_in : ByteArray := prog_14_method_2_code
def yX12_in : MethodName := ⟨RX12, "in", "(JJJ)Z"⟩
abbrev cX12_write : ByteArray := prog_14_method_3_code
def yX12_write : MethodName := ⟨RX12, "write", "(I)I"⟩
abbrev cX12_wipe : ByteArray := prog_14_method_4_code
def yX12_wipe : MethodName := ⟨RX12, "wipe", "()I"⟩
abbrev cX12_number : ByteArray := prog_14_method_5_code
def yX12_number : MethodName := ⟨RX12, "number", "()I"⟩
abbrev cX12_numbers : ByteArray := prog_14_method_6_code
def yX12_numbers : MethodName := ⟨RX12, "numbers", "(I)I"⟩
abbrev cX12_isItem : ByteArray := prog_14_method_7_code
def yX12_isItem : MethodName := ⟨RX12, "isItem", "()Z"⟩
abbrev cX12_isGood : ByteArray := prog_14_method_8_code
def yX12_isGood : MethodName := ⟨RX12, "isGood", "(I)Z"⟩
abbrev cX12_isPut : ByteArray := prog_14_method_9_code
def yX12_isPut : MethodName := ⟨RX12, "isPut", "([IIIII)Z"⟩
abbrev cX12_begins : ByteArray := prog_14_method_10_code
def yX12_begins : MethodName := ⟨RX12, "begins", "()V"⟩
abbrev cX12_takes : ByteArray := prog_14_method_11_code
def yX12_takes : MethodName := ⟨RX12, "takes", "()V"⟩
abbrev cX12_fault : ByteArray := prog_14_method_12_code
def yX12_fault : MethodName := ⟨RX12, "fault", "()I"⟩
abbrev cX12_isSound : ByteArray := prog_14_method_13_code
def yX12_isSound : MethodName := ⟨RX12, "isSound", "()Z"⟩
abbrev cX12_lay : ByteArray := prog_14_method_14_code
def yX12_lay : MethodName := ⟨RX12, "lay", "()I"⟩
abbrev cX12_isLevel : ByteArray := prog_14_method_15_code
def yX12_isLevel : MethodName := ⟨RX12, "isLevel", "(I)Z"⟩
abbrev cX12_isPlace : ByteArray := prog_14_method_16_code
def yX12_isPlace : MethodName := ⟨RX12, "isPlace", "(I)Z"⟩
abbrev cX12_isTown : ByteArray := prog_14_method_17_code
def yX12_isTown : MethodName := ⟨RX12, "isTown", "(I)Z"⟩
abbrev cX12_isThing : ByteArray := prog_14_method_18_code
def yX12_isThing : MethodName := ⟨RX12, "isThing", "(I)Z"⟩
abbrev cX12_isCut : ByteArray := prog_14_method_19_code
def yX12_isCut : MethodName := ⟨RX12, "isCut", "(I)Z"⟩
abbrev cX12_isMarket : ByteArray := prog_14_method_20_code
def yX12_isMarket : MethodName := ⟨RX12, "isMarket", "(II)Z"⟩
abbrev cX12_levelOf : ByteArray := prog_14_method_21_code
def yX12_levelOf : MethodName := ⟨RX12, "levelOf", "(I)I"⟩
abbrev cX12_townAt : ByteArray := prog_14_method_22_code
def yX12_townAt : MethodName := ⟨RX12, "townAt", "(III)I"⟩
abbrev cX12_level : ByteArray := prog_14_method_23_code
def yX12_level : MethodName := ⟨RX12, "level", "(II)I"⟩
abbrev cX12_town : ByteArray := prog_14_method_24_code
def yX12_town : MethodName := ⟨RX12, "town", "(II)I"⟩
abbrev cX12_tells : ByteArray := prog_14_method_25_code
def yX12_tells : MethodName := ⟨RX12, "tells", "(III)I"⟩
abbrev cX12_thing : ByteArray := prog_14_method_26_code
def yX12_thing : MethodName := ⟨RX12, "thing", "(II)I"⟩
abbrev cX12_copies : ByteArray := prog_14_method_27_code
def yX12_copies : MethodName := ⟨RX12, "copies", "(II)V"⟩
abbrev cX12_known : ByteArray := prog_14_method_28_code
def yX12_known : MethodName := ⟨RX12, "known", "()V"⟩
abbrev cX12_drifts : ByteArray := prog_14_method_29_code
def yX12_drifts : MethodName := ⟨RX12, "drifts", "(II)V"⟩
abbrev cX12_goes : ByteArray := prog_14_method_30_code
def yX12_goes : MethodName := ⟨RX12, "goes", "(III)I"⟩
abbrev cX12_step : ByteArray := prog_14_method_31_code
def yX12_step : MethodName := ⟨RX12, "step", "(I)I"⟩
abbrev cX12_steps : ByteArray := prog_14_method_32_code
def yX12_steps : MethodName := ⟨RX12, "steps", "(I)I"⟩
abbrev cX12_more : ByteArray := prog_14_method_33_code
def yX12_more : MethodName := ⟨RX12, "more", "(IIII)I"⟩
abbrev cX12_letGo : ByteArray := prog_14_method_34_code
def yX12_letGo : MethodName := ⟨RX12, "letGo", "(II)I"⟩
abbrev cX12_hang : ByteArray := prog_14_method_35_code
def yX12_hang : MethodName := ⟨RX12, "hang", "(II)I"⟩
abbrev cX12_cut : ByteArray := prog_14_method_36_code
def yX12_cut : MethodName := ⟨RX12, "cut", "(I)I"⟩
abbrev cX12_undo : ByteArray := prog_14_method_37_code
def yX12_undo : MethodName := ⟨RX12, "undo", "()I"⟩
abbrev cX12_behind : ByteArray := prog_14_method_38_code
def yX12_behind : MethodName := ⟨RX12, "behind", "(III)I"⟩
abbrev cX12_areMet : ByteArray := prog_14_method_39_code
def yX12_areMet : MethodName := ⟨RX12, "areMet", "(II)Z"⟩
abbrev cX12_meet : ByteArray := prog_14_method_40_code
def yX12_meet : MethodName := ⟨RX12, "meet", "(II)I"⟩
abbrev cX12_round : ByteArray := prog_14_method_41_code
def yX12_round : MethodName := ⟨RX12, "round", "(I)I"⟩
abbrev cX12_isSpot : ByteArray := prog_14_method_42_code
def yX12_isSpot : MethodName := ⟨RX12, "isSpot", "(I)Z"⟩
abbrev cX12_isSooner : ByteArray := prog_14_method_43_code
def yX12_isSooner : MethodName := ⟨RX12, "isSooner", "(IIII)Z"⟩
abbrev cX12_isSpread : ByteArray := prog_14_method_44_code
def yX12_isSpread : MethodName := ⟨RX12, "isSpread", "(I)Z"⟩
abbrev cX12_sounds : ByteArray := prog_14_method_45_code
def yX12_sounds : MethodName := ⟨RX12, "sounds", "()V"⟩
abbrev cX12_timeOf : ByteArray := prog_14_method_46_code
def yX12_timeOf : MethodName := ⟨RX12, "timeOf", "(II)I"⟩
abbrev cX12_spot : ByteArray := prog_14_method_47_code
def yX12_spot : MethodName := ⟨RX12, "spot", "(I)I"⟩
abbrev cX12_time : ByteArray := prog_14_method_48_code
def yX12_time : MethodName := ⟨RX12, "time", "(IIII)I"⟩
abbrev cX12_hears : ByteArray := prog_14_method_49_code
def yX12_hears : MethodName := ⟨RX12, "hears", "(II)I"⟩
abbrev cX12_shadow : ByteArray := prog_14_method_50_code
def yX12_shadow : MethodName := ⟨RX12, "shadow", "(I)I"⟩
abbrev cX12_heard : ByteArray := prog_14_method_51_code
def yX12_heard : MethodName := ⟨RX12, "heard", "(II)I"⟩
abbrev cX12_hush : ByteArray := prog_14_method_52_code
def yX12_hush : MethodName := ⟨RX12, "hush", "()I"⟩
abbrev cX12_isWhence : ByteArray := prog_14_method_53_code
def yX12_isWhence : MethodName := ⟨RX12, "isWhence", "(I)Z"⟩
abbrev cX12_whence : ByteArray := prog_14_method_54_code
def yX12_whence : MethodName := ⟨RX12, "whence", "(I)I"⟩
abbrev cX12_isAll : ByteArray := prog_14_method_55_code
def yX12_isAll : MethodName := ⟨RX12, "isAll", "(I)Z"⟩
abbrev cX12_canHang : ByteArray := prog_14_method_56_code
def yX12_canHang : MethodName := ⟨RX12, "canHang", "(II)Z"⟩
abbrev cX12_hangs : ByteArray := prog_14_method_57_code
def yX12_hangs : MethodName := ⟨RX12, "hangs", "(II)I"⟩
abbrev cX12_movedOf : ByteArray := prog_14_method_58_code
def yX12_movedOf : MethodName := ⟨RX12, "movedOf", "(I)I"⟩
abbrev cX12_moved : ByteArray := prog_14_method_59_code
def yX12_moved : MethodName := ⟨RX12, "moved", "(II)I"⟩
abbrev cX12_lands : ByteArray := prog_14_method_60_code
def yX12_lands : MethodName := ⟨RX12, "lands", "(IIII)I"⟩
abbrev cX12_sent : ByteArray := prog_14_method_61_code
def yX12_sent : MethodName := ⟨RX12, "sent", "(III)I"⟩
abbrev cX12_alone : ByteArray := prog_14_method_62_code
def yX12_alone : MethodName := ⟨RX12, "alone", "()V"⟩
abbrev cX12_fall : ByteArray := prog_14_method_63_code
def yX12_fall : MethodName := ⟨RX12, "fall", "(II)I"⟩
abbrev cX12_clearOf : ByteArray := prog_14_method_64_code
def yX12_clearOf : MethodName := ⟨RX12, "clearOf", "(II)I"⟩
abbrev cX12_clear : ByteArray := prog_14_method_65_code
def yX12_clear : MethodName := ⟨RX12, "clear", "(II)I"⟩
abbrev cX12_gain : ByteArray := prog_14_method_66_code
def yX12_gain : MethodName := ⟨RX12, "gain", "(I)I"⟩
abbrev cX12_drifted : ByteArray := prog_14_method_67_code
def yX12_drifted : MethodName := ⟨RX12, "drifted", "(IIII)I"⟩
abbrev cX12_forget : ByteArray := prog_14_method_68_code
def yX12_forget : MethodName := ⟨RX12, "forget", "()I"⟩
abbrev cX12_currents : ByteArray := prog_14_method_69_code
def yX12_currents : MethodName := ⟨RX12, "currents", "(I)I"⟩
abbrev cX12_leak : ByteArray := prog_14_method_70_code
def yX12_leak : MethodName := ⟨RX12, "leak", "(IIIII)J"⟩
abbrev cX12_year : ByteArray := prog_14_method_71_code
def yX12_year : MethodName := ⟨RX12, "year", "(III)I"⟩
abbrev cX12_keep : ByteArray := prog_14_method_72_code
def yX12_keep : MethodName := ⟨RX12, "keep", "()I"⟩
abbrev cX12_back : ByteArray := prog_14_method_73_code
def yX12_back : MethodName := ⟨RX12, "back", "()I"⟩
abbrev cX12_count : ByteArray := prog_14_method_74_code
def yX12_count : MethodName := ⟨RX12, "count", "(I)I"⟩
def RJ9 : String := "java/lang/Math"
def TJ9 : u_T := fun k => match k with
  | _ => ("", "", "", false)
abbrev cJ9_floorMod_7cf53 : ByteArray := prog_15_method_50_code
def yJ9_floorMod_7cf53 : MethodName := ⟨RJ9, "floorMod", "(II)I"⟩
abbrev cJ9_max_7cf53 : ByteArray := prog_15_method_65_code
def yJ9_max_7cf53 : MethodName := ⟨RJ9, "max", "(II)I"⟩
def RJ0 : String := "java/lang/String"
def TJ0 : u_T := fun k => match k with
  | _ => ("", "", "", false)
abbrev cJ0_length_8abf5 : ByteArray := prog_16_method_54_code
def yJ0_length_8abf5 : MethodName := ⟨RJ0, "length", "()I"⟩
abbrev cJ0_charAt_5068e : ByteArray := prog_16_method_56_code
def yJ0_charAt_5068e : MethodName := ⟨RJ0, "charAt", "(I)C"⟩
abbrev cJ0_coder_7d493 : ByteArray := prog_16_method_152_code
def yJ0_coder_7d493 : MethodName := ⟨RJ0, "coder", "()B"⟩
abbrev cJ0_isLatin1_aae02 : ByteArray := prog_16_method_154_code
def yJ0_isLatin1_aae02 : MethodName := ⟨RJ0, "isLatin1", "()Z"⟩
abbrev cJ0_checkIndex_df160 : ByteArray := prog_16_method_155_code
def yJ0_checkIndex_df160 : MethodName := ⟨RJ0, "checkIndex", "(II)V"⟩
def RJ1 : String := "java/lang/StringLatin1"
def TJ1 : u_T := fun k => match k with
  | _ => ("", "", "", false)
abbrev cJ1_charAt_3b067 : ByteArray := prog_17_method_2_code
def yJ1_charAt_3b067 : MethodName := ⟨RJ1, "charAt", "([BI)C"⟩
def RJ2 : String := "java/lang/StringUTF16"
def TJ2 : u_T := fun k => match k with
  | _ => ("", "", "", false)
abbrev cJ2_getChar_3b067 : ByteArray := prog_18_method_5_code
def yJ2_getChar_3b067 : MethodName := ⟨RJ2, "getChar", "([BI)C"⟩
abbrev cJ2_length_9d52b : ByteArray := prog_18_method_6_code
def yJ2_length_9d52b : MethodName := ⟨RJ2, "length", "([B)I"⟩
abbrev cJ2_charAt_3b067 : ByteArray := prog_18_method_83_code
def yJ2_charAt_3b067 : MethodName := ⟨RJ2, "charAt", "([BI)C"⟩
abbrev cJ2_checkIndex_2214a : ByteArray := prog_18_method_91_code
def yJ2_checkIndex_2214a : MethodName := ⟨RJ2, "checkIndex", "(I[B)V"⟩
def RJ3 : String := "jdk/internal/util/Preconditions"
def TJ3 : u_T := fun k => match k with
  | _ => ("", "", "", false)
abbrev cJ3_checkIndex_8e157 : ByteArray := prog_19_method_11_code
def yJ3_checkIndex_8e157 : MethodName := ⟨RJ3, "checkIndex", "(IILjava/util/function/BiFunction;)I"⟩
def RL : String := "HungFromIceLaw"
abbrev cL_law : ByteArray := code
def yL_law : MethodName := ⟨RL, "law", "([I)Z"⟩
abbrev vwCl : List vw_C := [(RX0, TX0, 5), (RX1, TX1, 5), (RX2, TX2, 7), (RX3, TX3, 8), (RX4, TX4, 3), (RX5, TX5, 2), (RX6, TX6, 2), (RX7, TX7, 4), (RX8, TX8, 8), (RX9, TX9, 4), (RX10, TX10, 17), (RX11, TX11, 12), (RX12, TX12, 23)]
end
section
theorem dX0_init_0 : decode cX0_init 0 = .ok (.aload_n 0, 1) := by decide +kernel
theorem dX0_init_1 : decode cX0_init 1 = .ok (.invokespecial 3, 3) := by decide +kernel
theorem dX0_init_4 : decode cX0_init 4 = .ok (.aload_n 0, 1) := by decide +kernel
theorem dX0_init_5 : decode cX0_init 5 = .ok (.iconst 0, 1) := by decide +kernel
theorem dX0_init_6 : decode cX0_init 6 = .ok (.putfield 9, 3) := by decide +kernel
theorem dX0_init_9 : decode cX0_init 9 = .ok (.aload_n 0, 1) := by decide +kernel
theorem dX0_init_10 : decode cX0_init 10 = .ok (.iconst 0, 1) := by decide +kernel
theorem dX0_init_11 : decode cX0_init 11 = .ok (.putfield 15, 3) := by decide +kernel
theorem dX0_init_14 : decode cX0_init 14 = .ok (.aload_n 0, 1) := by decide +kernel
theorem dX0_init_15 : decode cX0_init 15 = .ok (.iconst 0, 1) := by decide +kernel
theorem dX0_init_16 : decode cX0_init 16 = .ok (.putfield 18, 3) := by decide +kernel
theorem dX0_init_19 : decode cX0_init 19 = .ok (.aload_n 0, 1) := by decide +kernel
theorem dX0_init_20 : decode cX0_init 20 = .ok (.bipush (-4), 2) := by decide +kernel
theorem dX0_init_22 : decode cX0_init 22 = .ok (.putfield 21, 3) := by decide +kernel
theorem dX0_init_25 : decode cX0_init 25 = .ok (.aload_n 0, 1) := by decide +kernel
theorem dX0_init_26 : decode cX0_init 26 = .ok (.aload_n 1, 1) := by decide +kernel
theorem dX0_init_27 : decode cX0_init 27 = .ok (.putfield 24, 3) := by decide +kernel
theorem dX0_init_30 : decode cX0_init 30 = .ok (.return_, 1) := by decide +kernel
theorem dX0_put_0 : decode cX0_put 0 = .ok (.aload_n 0, 1) := by decide +kernel
theorem dX0_put_1 : decode cX0_put 1 = .ok (.iload_n 1, 1) := by decide +kernel
theorem dX0_put_2 : decode cX0_put 2 = .ok (.putfield 9, 3) := by decide +kernel
theorem dX0_put_5 : decode cX0_put 5 = .ok (.aload_n 0, 1) := by decide +kernel
theorem dX0_put_6 : decode cX0_put 6 = .ok (.iload_n 2, 1) := by decide +kernel
theorem dX0_put_7 : decode cX0_put 7 = .ok (.putfield 15, 3) := by decide +kernel
theorem dX0_put_10 : decode cX0_put 10 = .ok (.aload_n 0, 1) := by decide +kernel
theorem dX0_put_11 : decode cX0_put 11 = .ok (.iload_n 3, 1) := by decide +kernel
theorem dX0_put_12 : decode cX0_put 12 = .ok (.putfield 18, 3) := by decide +kernel
theorem dX0_put_15 : decode cX0_put 15 = .ok (.aload_n 0, 1) := by decide +kernel
theorem dX0_put_16 : decode cX0_put 16 = .ok (.bipush (-4), 2) := by decide +kernel
theorem dX0_put_18 : decode cX0_put 18 = .ok (.putfield 21, 3) := by decide +kernel
theorem dX0_put_21 : decode cX0_put 21 = .ok (.return_, 1) := by decide +kernel
theorem dX0_take_0 : decode cX0_take 0 = .ok (.aload_n 0, 1) := by decide +kernel
theorem dX0_take_1 : decode cX0_take 1 = .ok (.aload_n 0, 1) := by decide +kernel
theorem dX0_take_2 : decode cX0_take 2 = .ok (.getfield 24, 3) := by decide +kernel
theorem dX0_take_5 : decode cX0_take 5 = .ok (.getfield 28, 3) := by decide +kernel
theorem dX0_take_8 : decode cX0_take 8 = .ok (.getfield 34, 3) := by decide +kernel
theorem dX0_take_11 : decode cX0_take 11 = .ok (.iload_n 1, 1) := by decide +kernel
theorem dX0_take_12 : decode cX0_take 12 = .ok (.iaload, 1) := by decide +kernel
theorem dX0_take_13 : decode cX0_take 13 = .ok (.aload_n 0, 1) := by decide +kernel
theorem dX0_take_14 : decode cX0_take 14 = .ok (.getfield 24, 3) := by decide +kernel
theorem dX0_take_17 : decode cX0_take 17 = .ok (.getfield 28, 3) := by decide +kernel
theorem dX0_take_20 : decode cX0_take 20 = .ok (.getfield 40, 3) := by decide +kernel
theorem dX0_take_23 : decode cX0_take 23 = .ok (.iload_n 1, 1) := by decide +kernel
theorem dX0_take_24 : decode cX0_take 24 = .ok (.iaload, 1) := by decide +kernel
theorem dX0_take_25 : decode cX0_take 25 = .ok (.aload_n 0, 1) := by decide +kernel
theorem dX0_take_26 : decode cX0_take 26 = .ok (.getfield 24, 3) := by decide +kernel
theorem dX0_take_29 : decode cX0_take 29 = .ok (.getfield 28, 3) := by decide +kernel
theorem dX0_take_32 : decode cX0_take 32 = .ok (.getfield 43, 3) := by decide +kernel
theorem dX0_take_35 : decode cX0_take 35 = .ok (.iload_n 1, 1) := by decide +kernel
theorem dX0_take_36 : decode cX0_take 36 = .ok (.iaload, 1) := by decide +kernel
theorem dX0_take_37 : decode cX0_take 37 = .ok (.invokevirtual 46, 3) := by decide +kernel
theorem dX0_take_40 : decode cX0_take 40 = .ok (.aload_n 0, 1) := by decide +kernel
theorem dX0_take_41 : decode cX0_take 41 = .ok (.aload_n 0, 1) := by decide +kernel
theorem dX0_take_42 : decode cX0_take 42 = .ok (.getfield 24, 3) := by decide +kernel
theorem dX0_take_45 : decode cX0_take 45 = .ok (.getfield 28, 3) := by decide +kernel
theorem dX0_take_48 : decode cX0_take 48 = .ok (.getfield 50, 3) := by decide +kernel
theorem dX0_take_51 : decode cX0_take 51 = .ok (.iload_n 1, 1) := by decide +kernel
theorem dX0_take_52 : decode cX0_take 52 = .ok (.iaload, 1) := by decide +kernel
theorem dX0_take_53 : decode cX0_take 53 = .ok (.putfield 21, 3) := by decide +kernel
theorem dX0_take_56 : decode cX0_take 56 = .ok (.return_, 1) := by decide +kernel
theorem dX0_give_0 : decode cX0_give 0 = .ok (.aload_n 0, 1) := by decide +kernel
theorem dX0_give_1 : decode cX0_give 1 = .ok (.getfield 24, 3) := by decide +kernel
theorem dX0_give_4 : decode cX0_give 4 = .ok (.getfield 28, 3) := by decide +kernel
theorem dX0_give_7 : decode cX0_give 7 = .ok (.getfield 34, 3) := by decide +kernel
theorem dX0_give_10 : decode cX0_give 10 = .ok (.iload_n 1, 1) := by decide +kernel
theorem dX0_give_11 : decode cX0_give 11 = .ok (.aload_n 0, 1) := by decide +kernel
theorem dX0_give_12 : decode cX0_give 12 = .ok (.getfield 9, 3) := by decide +kernel
theorem dX0_give_15 : decode cX0_give 15 = .ok (.iastore, 1) := by decide +kernel
theorem dX0_give_16 : decode cX0_give 16 = .ok (.aload_n 0, 1) := by decide +kernel
theorem dX0_give_17 : decode cX0_give 17 = .ok (.getfield 24, 3) := by decide +kernel
theorem dX0_give_20 : decode cX0_give 20 = .ok (.getfield 28, 3) := by decide +kernel
theorem dX0_give_23 : decode cX0_give 23 = .ok (.getfield 40, 3) := by decide +kernel
theorem dX0_give_26 : decode cX0_give 26 = .ok (.iload_n 1, 1) := by decide +kernel
theorem dX0_give_27 : decode cX0_give 27 = .ok (.aload_n 0, 1) := by decide +kernel
theorem dX0_give_28 : decode cX0_give 28 = .ok (.getfield 15, 3) := by decide +kernel
theorem dX0_give_31 : decode cX0_give 31 = .ok (.iastore, 1) := by decide +kernel
theorem dX0_give_32 : decode cX0_give 32 = .ok (.aload_n 0, 1) := by decide +kernel
theorem dX0_give_33 : decode cX0_give 33 = .ok (.getfield 24, 3) := by decide +kernel
theorem dX0_give_36 : decode cX0_give 36 = .ok (.getfield 28, 3) := by decide +kernel
theorem dX0_give_39 : decode cX0_give 39 = .ok (.getfield 50, 3) := by decide +kernel
theorem dX0_give_42 : decode cX0_give 42 = .ok (.iload_n 1, 1) := by decide +kernel
theorem dX0_give_43 : decode cX0_give 43 = .ok (.aload_n 0, 1) := by decide +kernel
theorem dX0_give_44 : decode cX0_give 44 = .ok (.getfield 21, 3) := by decide +kernel
theorem dX0_give_47 : decode cX0_give 47 = .ok (.iastore, 1) := by decide +kernel
theorem dX0_give_48 : decode cX0_give 48 = .ok (.return_, 1) := by decide +kernel
theorem dX0_isWhere_0 : decode cX0_isWhere 0 = .ok (.aload_n 0, 1) := by decide +kernel
theorem dX0_isWhere_1 : decode cX0_isWhere 1 = .ok (.getfield 9, 3) := by decide +kernel
theorem dX0_isWhere_4 : decode cX0_isWhere 4 = .ok (.iload_n 1, 1) := by decide +kernel
theorem dX0_isWhere_5 : decode cX0_isWhere 5 = .ok (.if_icmp .ne 15, 3) := by decide +kernel
theorem dX0_isWhere_8 : decode cX0_isWhere 8 = .ok (.aload_n 0, 1) := by decide +kernel
theorem dX0_isWhere_9 : decode cX0_isWhere 9 = .ok (.getfield 15, 3) := by decide +kernel
theorem dX0_isWhere_12 : decode cX0_isWhere 12 = .ok (.iload_n 2, 1) := by decide +kernel
theorem dX0_isWhere_13 : decode cX0_isWhere 13 = .ok (.if_icmp .ne 7, 3) := by decide +kernel
theorem dX0_isWhere_16 : decode cX0_isWhere 16 = .ok (.iconst 1, 1) := by decide +kernel
theorem dX0_isWhere_17 : decode cX0_isWhere 17 = .ok (.goto 4, 3) := by decide +kernel
theorem dX0_isWhere_20 : decode cX0_isWhere 20 = .ok (.iconst 0, 1) := by decide +kernel
theorem dX0_isWhere_21 : decode cX0_isWhere 21 = .ok (.ireturn, 1) := by decide +kernel
theorem dX0_flow_0 : decode cX0_flow 0 = .ok (.aload_n 0, 1) := by decide +kernel
theorem dX0_flow_1 : decode cX0_flow 1 = .ok (.getfield 24, 3) := by decide +kernel
theorem dX0_flow_4 : decode cX0_flow 4 = .ok (.aload_n 0, 1) := by decide +kernel
theorem dX0_flow_5 : decode cX0_flow 5 = .ok (.getfield 9, 3) := by decide +kernel
theorem dX0_flow_8 : decode cX0_flow 8 = .ok (.invokevirtual 53, 3) := by decide +kernel
theorem dX0_flow_11 : decode cX0_flow 11 = .ok (.ifCond .ne 4, 3) := by decide +kernel
theorem dX0_flow_14 : decode cX0_flow 14 = .ok (.return_, 1) := by decide +kernel
theorem dX0_flow_15 : decode cX0_flow 15 = .ok (.aload_n 0, 1) := by decide +kernel
theorem dX0_flow_16 : decode cX0_flow 16 = .ok (.getfield 24, 3) := by decide +kernel
theorem dX0_flow_19 : decode cX0_flow 19 = .ok (.getfield 57, 3) := by decide +kernel
theorem dX0_flow_22 : decode cX0_flow 22 = .ok (.getfield 61, 3) := by decide +kernel
theorem dX0_flow_25 : decode cX0_flow 25 = .ok (.aload_n 0, 1) := by decide +kernel
theorem dX0_flow_26 : decode cX0_flow 26 = .ok (.getfield 9, 3) := by decide +kernel
theorem dX0_flow_29 : decode cX0_flow 29 = .ok (.iaload, 1) := by decide +kernel
theorem dX0_flow_30 : decode cX0_flow 30 = .ok (.istore_n 1, 1) := by decide +kernel
theorem dX0_flow_31 : decode cX0_flow 31 = .ok (.aload_n 0, 1) := by decide +kernel
theorem dX0_flow_32 : decode cX0_flow 32 = .ok (.aload_n 0, 1) := by decide +kernel
theorem dX0_flow_33 : decode cX0_flow 33 = .ok (.getfield 24, 3) := by decide +kernel
theorem dX0_flow_36 : decode cX0_flow 36 = .ok (.getfield 57, 3) := by decide +kernel
theorem dX0_flow_39 : decode cX0_flow 39 = .ok (.aload_n 0, 1) := by decide +kernel
theorem dX0_flow_40 : decode cX0_flow 40 = .ok (.getfield 15, 3) := by decide +kernel
theorem dX0_flow_43 : decode cX0_flow 43 = .ok (.aload_n 0, 1) := by decide +kernel
theorem dX0_flow_44 : decode cX0_flow 44 = .ok (.getfield 24, 3) := by decide +kernel
theorem dX0_flow_47 : decode cX0_flow 47 = .ok (.getfield 57, 3) := by decide +kernel
theorem dX0_flow_50 : decode cX0_flow 50 = .ok (.getfield 66, 3) := by decide +kernel
theorem dX0_flow_53 : decode cX0_flow 53 = .ok (.aload_n 0, 1) := by decide +kernel
theorem dX0_flow_54 : decode cX0_flow 54 = .ok (.getfield 9, 3) := by decide +kernel
theorem dX0_flow_57 : decode cX0_flow 57 = .ok (.iaload, 1) := by decide +kernel
theorem dX0_flow_58 : decode cX0_flow 58 = .ok (.iadd, 1) := by decide +kernel
theorem dX0_flow_59 : decode cX0_flow 59 = .ok (.iconst 3, 1) := by decide +kernel
theorem dX0_flow_60 : decode cX0_flow 60 = .ok (.isub, 1) := by decide +kernel
theorem dX0_flow_61 : decode cX0_flow 61 = .ok (.invokevirtual 69, 3) := by decide +kernel
theorem dX0_flow_64 : decode cX0_flow 64 = .ok (.putfield 15, 3) := by decide +kernel
theorem dX0_flow_67 : decode cX0_flow 67 = .ok (.aload_n 0, 1) := by decide +kernel
theorem dX0_flow_68 : decode cX0_flow 68 = .ok (.getfield 18, 3) := by decide +kernel
theorem dX0_flow_71 : decode cX0_flow 71 = .ok (.iload_n 1, 1) := by decide +kernel
theorem dX0_flow_72 : decode cX0_flow 72 = .ok (.if_icmp .le 32, 3) := by decide +kernel
theorem dX0_flow_75 : decode cX0_flow 75 = .ok (.aload_n 0, 1) := by decide +kernel
theorem dX0_flow_76 : decode cX0_flow 76 = .ok (.getfield 24, 3) := by decide +kernel
theorem dX0_flow_79 : decode cX0_flow 79 = .ok (.aload_n 0, 1) := by decide +kernel
theorem dX0_flow_80 : decode cX0_flow 80 = .ok (.getfield 9, 3) := by decide +kernel
theorem dX0_flow_83 : decode cX0_flow 83 = .ok (.iconst 1, 1) := by decide +kernel
theorem dX0_flow_84 : decode cX0_flow 84 = .ok (.iadd, 1) := by decide +kernel
theorem dX0_flow_85 : decode cX0_flow 85 = .ok (.invokevirtual 53, 3) := by decide +kernel
theorem dX0_flow_88 : decode cX0_flow 88 = .ok (.ifCond .eq 16, 3) := by decide +kernel
theorem dX0_flow_91 : decode cX0_flow 91 = .ok (.aload_n 0, 1) := by decide +kernel
theorem dX0_flow_92 : decode cX0_flow 92 = .ok (.dup, 1) := by decide +kernel
theorem dX0_flow_93 : decode cX0_flow 93 = .ok (.getfield 9, 3) := by decide +kernel
theorem dX0_flow_96 : decode cX0_flow 96 = .ok (.iconst 1, 1) := by decide +kernel
theorem dX0_flow_97 : decode cX0_flow 97 = .ok (.iadd, 1) := by decide +kernel
theorem dX0_flow_98 : decode cX0_flow 98 = .ok (.putfield 9, 3) := by decide +kernel
theorem dX0_flow_101 : decode cX0_flow 101 = .ok (.goto 28, 3) := by decide +kernel
theorem dX0_flow_104 : decode cX0_flow 104 = .ok (.aload_n 0, 1) := by decide +kernel
theorem dX0_flow_105 : decode cX0_flow 105 = .ok (.getfield 18, 3) := by decide +kernel
theorem dX0_flow_108 : decode cX0_flow 108 = .ok (.iload_n 1, 1) := by decide +kernel
theorem dX0_flow_109 : decode cX0_flow 109 = .ok (.if_icmp .ge 20, 3) := by decide +kernel
theorem dX0_flow_112 : decode cX0_flow 112 = .ok (.aload_n 0, 1) := by decide +kernel
theorem dX0_flow_113 : decode cX0_flow 113 = .ok (.getfield 9, 3) := by decide +kernel
theorem dX0_flow_116 : decode cX0_flow 116 = .ok (.ifCond .le 13, 3) := by decide +kernel
theorem dX0_flow_119 : decode cX0_flow 119 = .ok (.aload_n 0, 1) := by decide +kernel
theorem dX0_flow_120 : decode cX0_flow 120 = .ok (.dup, 1) := by decide +kernel
theorem dX0_flow_121 : decode cX0_flow 121 = .ok (.getfield 9, 3) := by decide +kernel
theorem dX0_flow_124 : decode cX0_flow 124 = .ok (.iconst 1, 1) := by decide +kernel
theorem dX0_flow_125 : decode cX0_flow 125 = .ok (.isub, 1) := by decide +kernel
theorem dX0_flow_126 : decode cX0_flow 126 = .ok (.putfield 9, 3) := by decide +kernel
theorem dX0_flow_129 : decode cX0_flow 129 = .ok (.return_, 1) := by decide +kernel
theorem dX0_pass_0 : decode cX0_pass 0 = .ok (.aload_n 0, 1) := by decide +kernel
theorem dX0_pass_1 : decode cX0_pass 1 = .ok (.getfield 21, 3) := by decide +kernel
theorem dX0_pass_4 : decode cX0_pass 4 = .ok (.bipush (-4), 2) := by decide +kernel
theorem dX0_pass_6 : decode cX0_pass 6 = .ok (.if_icmp .eq 4, 3) := by decide +kernel
theorem dX0_pass_9 : decode cX0_pass 9 = .ok (.return_, 1) := by decide +kernel
theorem dX0_pass_10 : decode cX0_pass 10 = .ok (.aload_n 0, 1) := by decide +kernel
theorem dX0_pass_11 : decode cX0_pass 11 = .ok (.invokevirtual 73, 3) := by decide +kernel
theorem dX0_pass_14 : decode cX0_pass 14 = .ok (.aload_n 0, 1) := by decide +kernel
theorem dX0_pass_15 : decode cX0_pass 15 = .ok (.aload_n 0, 1) := by decide +kernel
theorem dX0_pass_16 : decode cX0_pass 16 = .ok (.getfield 24, 3) := by decide +kernel
theorem dX0_pass_19 : decode cX0_pass 19 = .ok (.aload_n 0, 1) := by decide +kernel
theorem dX0_pass_20 : decode cX0_pass 20 = .ok (.getfield 9, 3) := by decide +kernel
theorem dX0_pass_23 : decode cX0_pass 23 = .ok (.aload_n 0, 1) := by decide +kernel
theorem dX0_pass_24 : decode cX0_pass 24 = .ok (.getfield 15, 3) := by decide +kernel
theorem dX0_pass_27 : decode cX0_pass 27 = .ok (.iload_n 1, 1) := by decide +kernel
theorem dX0_pass_28 : decode cX0_pass 28 = .ok (.invokevirtual 76, 3) := by decide +kernel
theorem dX0_pass_31 : decode cX0_pass 31 = .ok (.putfield 21, 3) := by decide +kernel
theorem dX0_pass_34 : decode cX0_pass 34 = .ok (.return_, 1) := by decide +kernel
theorem dX0_passMany_0 : decode cX0_passMany 0 = .ok (.iconst 0, 1) := by decide +kernel
theorem dX0_passMany_1 : decode cX0_passMany 1 = .ok (.istore_n 2, 1) := by decide +kernel
theorem dX0_passMany_2 : decode cX0_passMany 2 = .ok (.iload_n 2, 1) := by decide +kernel
theorem dX0_passMany_3 : decode cX0_passMany 3 = .ok (.iload_n 1, 1) := by decide +kernel
theorem dX0_passMany_4 : decode cX0_passMany 4 = .ok (.if_icmp .ge 23, 3) := by decide +kernel
theorem dX0_passMany_7 : decode cX0_passMany 7 = .ok (.aload_n 0, 1) := by decide +kernel
theorem dX0_passMany_8 : decode cX0_passMany 8 = .ok (.getfield 21, 3) := by decide +kernel
theorem dX0_passMany_11 : decode cX0_passMany 11 = .ok (.bipush (-4), 2) := by decide +kernel
theorem dX0_passMany_13 : decode cX0_passMany 13 = .ok (.if_icmp .ne 14, 3) := by decide +kernel
theorem dX0_passMany_16 : decode cX0_passMany 16 = .ok (.aload_n 0, 1) := by decide +kernel
theorem dX0_passMany_17 : decode cX0_passMany 17 = .ok (.iconst (-1), 1) := by decide +kernel
theorem dX0_passMany_18 : decode cX0_passMany 18 = .ok (.invokevirtual 80, 3) := by decide +kernel
theorem dX0_passMany_21 : decode cX0_passMany 21 = .ok (.iinc 2 1, 3) := by decide +kernel
theorem dX0_passMany_24 : decode cX0_passMany 24 = .ok (.goto (-22), 3) := by decide +kernel
theorem dX0_passMany_27 : decode cX0_passMany 27 = .ok (.return_, 1) := by decide +kernel
theorem dX0_passUntilCaught_0 : decode cX0_passUntilCaught 0 = .ok (.iconst 1, 1) := by decide +kernel
theorem dX0_passUntilCaught_1 : decode cX0_passUntilCaught 1 = .ok (.istore_n 2, 1) := by decide +kernel
theorem dX0_passUntilCaught_2 : decode cX0_passUntilCaught 2 = .ok (.iload_n 2, 1) := by decide +kernel
theorem dX0_passUntilCaught_3 : decode cX0_passUntilCaught 3 = .ok (.bipush 60, 2) := by decide +kernel
theorem dX0_passUntilCaught_5 : decode cX0_passUntilCaught 5 = .ok (.if_icmp .gt 25, 3) := by decide +kernel
theorem dX0_passUntilCaught_8 : decode cX0_passUntilCaught 8 = .ok (.aload_n 0, 1) := by decide +kernel
theorem dX0_passUntilCaught_9 : decode cX0_passUntilCaught 9 = .ok (.iload_n 1, 1) := by decide +kernel
theorem dX0_passUntilCaught_10 : decode cX0_passUntilCaught 10 = .ok (.invokevirtual 80, 3) := by decide +kernel
theorem dX0_passUntilCaught_13 : decode cX0_passUntilCaught 13 = .ok (.aload_n 0, 1) := by decide +kernel
theorem dX0_passUntilCaught_14 : decode cX0_passUntilCaught 14 = .ok (.getfield 21, 3) := by decide +kernel
theorem dX0_passUntilCaught_17 : decode cX0_passUntilCaught 17 = .ok (.bipush (-4), 2) := by decide +kernel
theorem dX0_passUntilCaught_19 : decode cX0_passUntilCaught 19 = .ok (.if_icmp .eq 5, 3) := by decide +kernel
theorem dX0_passUntilCaught_22 : decode cX0_passUntilCaught 22 = .ok (.iload_n 2, 1) := by decide +kernel
theorem dX0_passUntilCaught_23 : decode cX0_passUntilCaught 23 = .ok (.ireturn, 1) := by decide +kernel
theorem dX0_passUntilCaught_24 : decode cX0_passUntilCaught 24 = .ok (.iinc 2 1, 3) := by decide +kernel
theorem dX0_passUntilCaught_27 : decode cX0_passUntilCaught 27 = .ok (.goto (-25), 3) := by decide +kernel
theorem dX0_passUntilCaught_30 : decode cX0_passUntilCaught 30 = .ok (.bipush (-4), 2) := by decide +kernel
theorem dX0_passUntilCaught_32 : decode cX0_passUntilCaught 32 = .ok (.ireturn, 1) := by decide +kernel
theorem dX1_init_0 : decode cX1_init 0 = .ok (.aload_n 0, 1) := by decide +kernel
theorem dX1_init_1 : decode cX1_init 1 = .ok (.invokespecial 3, 3) := by decide +kernel
theorem dX1_init_4 : decode cX1_init 4 = .ok (.aload_n 0, 1) := by decide +kernel
theorem dX1_init_5 : decode cX1_init 5 = .ok (.bipush 6, 2) := by decide +kernel
theorem dX1_init_7 : decode cX1_init 7 = .ok (.newarray .int, 2) := by decide +kernel
theorem dX1_init_9 : decode cX1_init 9 = .ok (.putfield 9, 3) := by decide +kernel
theorem dX1_init_12 : decode cX1_init 12 = .ok (.aload_n 0, 1) := by decide +kernel
theorem dX1_init_13 : decode cX1_init 13 = .ok (.bipush 6, 2) := by decide +kernel
theorem dX1_init_15 : decode cX1_init 15 = .ok (.newarray .int, 2) := by decide +kernel
theorem dX1_init_17 : decode cX1_init 17 = .ok (.putfield 15, 3) := by decide +kernel
theorem dX1_init_20 : decode cX1_init 20 = .ok (.aload_n 0, 1) := by decide +kernel
theorem dX1_init_21 : decode cX1_init 21 = .ok (.bipush 6, 2) := by decide +kernel
theorem dX1_init_23 : decode cX1_init 23 = .ok (.newarray .int, 2) := by decide +kernel
theorem dX1_init_25 : decode cX1_init 25 = .ok (.putfield 18, 3) := by decide +kernel
theorem dX1_init_28 : decode cX1_init 28 = .ok (.aload_n 0, 1) := by decide +kernel
theorem dX1_init_29 : decode cX1_init 29 = .ok (.bipush 6, 2) := by decide +kernel
theorem dX1_init_31 : decode cX1_init 31 = .ok (.newarray .int, 2) := by decide +kernel
theorem dX1_init_33 : decode cX1_init 33 = .ok (.putfield 21, 3) := by decide +kernel
theorem dX1_init_36 : decode cX1_init 36 = .ok (.aload_n 0, 1) := by decide +kernel
theorem dX1_init_37 : decode cX1_init 37 = .ok (.iconst 0, 1) := by decide +kernel
theorem dX1_init_38 : decode cX1_init 38 = .ok (.putfield 24, 3) := by decide +kernel
theorem dX1_init_41 : decode cX1_init 41 = .ok (.return_, 1) := by decide +kernel
theorem dX1_add_0 : decode cX1_add 0 = .ok (.aload_n 0, 1) := by decide +kernel
theorem dX1_add_1 : decode cX1_add 1 = .ok (.getfield 24, 3) := by decide +kernel
theorem dX1_add_4 : decode cX1_add 4 = .ok (.bipush 6, 2) := by decide +kernel
theorem dX1_add_6 : decode cX1_add 6 = .ok (.if_icmp .lt 5, 3) := by decide +kernel
theorem dX1_add_9 : decode cX1_add 9 = .ok (.iconst 0, 1) := by decide +kernel
theorem dX1_add_10 : decode cX1_add 10 = .ok (.ireturn, 1) := by decide +kernel
theorem dX1_add_11 : decode cX1_add 11 = .ok (.aload_n 0, 1) := by decide +kernel
theorem dX1_add_12 : decode cX1_add 12 = .ok (.getfield 9, 3) := by decide +kernel
theorem dX1_add_15 : decode cX1_add 15 = .ok (.aload_n 0, 1) := by decide +kernel
theorem dX1_add_16 : decode cX1_add 16 = .ok (.getfield 24, 3) := by decide +kernel
theorem dX1_add_19 : decode cX1_add 19 = .ok (.iload_n 1, 1) := by decide +kernel
theorem dX1_add_20 : decode cX1_add 20 = .ok (.iastore, 1) := by decide +kernel
theorem dX1_add_21 : decode cX1_add 21 = .ok (.aload_n 0, 1) := by decide +kernel
theorem dX1_add_22 : decode cX1_add 22 = .ok (.getfield 15, 3) := by decide +kernel
theorem dX1_add_25 : decode cX1_add 25 = .ok (.aload_n 0, 1) := by decide +kernel
theorem dX1_add_26 : decode cX1_add 26 = .ok (.getfield 24, 3) := by decide +kernel
theorem dX1_add_29 : decode cX1_add 29 = .ok (.iload_n 2, 1) := by decide +kernel
theorem dX1_add_30 : decode cX1_add 30 = .ok (.iastore, 1) := by decide +kernel
theorem dX1_add_31 : decode cX1_add 31 = .ok (.aload_n 0, 1) := by decide +kernel
theorem dX1_add_32 : decode cX1_add 32 = .ok (.getfield 18, 3) := by decide +kernel
theorem dX1_add_35 : decode cX1_add 35 = .ok (.aload_n 0, 1) := by decide +kernel
theorem dX1_add_36 : decode cX1_add 36 = .ok (.getfield 24, 3) := by decide +kernel
theorem dX1_add_39 : decode cX1_add 39 = .ok (.iload_n 3, 1) := by decide +kernel
theorem dX1_add_40 : decode cX1_add 40 = .ok (.iastore, 1) := by decide +kernel
theorem dX1_add_41 : decode cX1_add 41 = .ok (.aload_n 0, 1) := by decide +kernel
theorem dX1_add_42 : decode cX1_add 42 = .ok (.getfield 21, 3) := by decide +kernel
theorem dX1_add_45 : decode cX1_add 45 = .ok (.aload_n 0, 1) := by decide +kernel
theorem dX1_add_46 : decode cX1_add 46 = .ok (.getfield 24, 3) := by decide +kernel
theorem dX1_add_49 : decode cX1_add 49 = .ok (.iload 4, 2) := by decide +kernel
theorem dX1_add_51 : decode cX1_add 51 = .ok (.iastore, 1) := by decide +kernel
theorem dX1_add_52 : decode cX1_add 52 = .ok (.aload_n 0, 1) := by decide +kernel
theorem dX1_add_53 : decode cX1_add 53 = .ok (.dup, 1) := by decide +kernel
theorem dX1_add_54 : decode cX1_add 54 = .ok (.getfield 24, 3) := by decide +kernel
theorem dX1_add_57 : decode cX1_add 57 = .ok (.iconst 1, 1) := by decide +kernel
theorem dX1_add_58 : decode cX1_add 58 = .ok (.iadd, 1) := by decide +kernel
theorem dX1_add_59 : decode cX1_add 59 = .ok (.putfield 24, 3) := by decide +kernel
theorem dX1_add_62 : decode cX1_add 62 = .ok (.iconst 1, 1) := by decide +kernel
theorem dX1_add_63 : decode cX1_add 63 = .ok (.ireturn, 1) := by decide +kernel
theorem dX1_empty_0 : decode cX1_empty 0 = .ok (.aload_n 0, 1) := by decide +kernel
theorem dX1_empty_1 : decode cX1_empty 1 = .ok (.getfield 24, 3) := by decide +kernel
theorem dX1_empty_4 : decode cX1_empty 4 = .ok (.istore_n 1, 1) := by decide +kernel
theorem dX1_empty_5 : decode cX1_empty 5 = .ok (.aload_n 0, 1) := by decide +kernel
theorem dX1_empty_6 : decode cX1_empty 6 = .ok (.iconst 0, 1) := by decide +kernel
theorem dX1_empty_7 : decode cX1_empty 7 = .ok (.putfield 24, 3) := by decide +kernel
theorem dX1_empty_10 : decode cX1_empty 10 = .ok (.iload_n 1, 1) := by decide +kernel
theorem dX1_empty_11 : decode cX1_empty 11 = .ok (.ireturn, 1) := by decide +kernel
theorem dX1_allBy_0 : decode cX1_allBy 0 = .ok (.iconst 0, 1) := by decide +kernel
theorem dX1_allBy_1 : decode cX1_allBy 1 = .ok (.istore 4, 2) := by decide +kernel
theorem dX1_allBy_3 : decode cX1_allBy 3 = .ok (.iload 4, 2) := by decide +kernel
theorem dX1_allBy_5 : decode cX1_allBy 5 = .ok (.aload_n 0, 1) := by decide +kernel
theorem dX1_allBy_6 : decode cX1_allBy 6 = .ok (.getfield 24, 3) := by decide +kernel
theorem dX1_allBy_9 : decode cX1_allBy 9 = .ok (.if_icmp .ge 58, 3) := by decide +kernel
theorem dX1_allBy_12 : decode cX1_allBy 12 = .ok (.aload_n 0, 1) := by decide +kernel
theorem dX1_allBy_13 : decode cX1_allBy 13 = .ok (.getfield 9, 3) := by decide +kernel
theorem dX1_allBy_16 : decode cX1_allBy 16 = .ok (.iload 4, 2) := by decide +kernel
theorem dX1_allBy_18 : decode cX1_allBy 18 = .ok (.iaload, 1) := by decide +kernel
theorem dX1_allBy_19 : decode cX1_allBy 19 = .ok (.iload_n 2, 1) := by decide +kernel
theorem dX1_allBy_20 : decode cX1_allBy 20 = .ok (.if_icmp .eq 6, 3) := by decide +kernel
theorem dX1_allBy_23 : decode cX1_allBy 23 = .ok (.goto 38, 3) := by decide +kernel
theorem dX1_allBy_26 : decode cX1_allBy 26 = .ok (.aload_n 1, 1) := by decide +kernel
theorem dX1_allBy_27 : decode cX1_allBy 27 = .ok (.aload_n 0, 1) := by decide +kernel
theorem dX1_allBy_28 : decode cX1_allBy 28 = .ok (.getfield 15, 3) := by decide +kernel
theorem dX1_allBy_31 : decode cX1_allBy 31 = .ok (.iload 4, 2) := by decide +kernel
theorem dX1_allBy_33 : decode cX1_allBy 33 = .ok (.iaload, 1) := by decide +kernel
theorem dX1_allBy_34 : decode cX1_allBy 34 = .ok (.aload_n 0, 1) := by decide +kernel
theorem dX1_allBy_35 : decode cX1_allBy 35 = .ok (.getfield 21, 3) := by decide +kernel
theorem dX1_allBy_38 : decode cX1_allBy 38 = .ok (.iload 4, 2) := by decide +kernel
theorem dX1_allBy_40 : decode cX1_allBy 40 = .ok (.iaload, 1) := by decide +kernel
theorem dX1_allBy_41 : decode cX1_allBy 41 = .ok (.iload_n 3, 1) := by decide +kernel
theorem dX1_allBy_42 : decode cX1_allBy 42 = .ok (.iconst 3, 1) := by decide +kernel
theorem dX1_allBy_43 : decode cX1_allBy 43 = .ok (.isub, 1) := by decide +kernel
theorem dX1_allBy_44 : decode cX1_allBy 44 = .ok (.imul, 1) := by decide +kernel
theorem dX1_allBy_45 : decode cX1_allBy 45 = .ok (.iadd, 1) := by decide +kernel
theorem dX1_allBy_46 : decode cX1_allBy 46 = .ok (.invokevirtual 28, 3) := by decide +kernel
theorem dX1_allBy_49 : decode cX1_allBy 49 = .ok (.aload_n 0, 1) := by decide +kernel
theorem dX1_allBy_50 : decode cX1_allBy 50 = .ok (.getfield 18, 3) := by decide +kernel
theorem dX1_allBy_53 : decode cX1_allBy 53 = .ok (.iload 4, 2) := by decide +kernel
theorem dX1_allBy_55 : decode cX1_allBy 55 = .ok (.iaload, 1) := by decide +kernel
theorem dX1_allBy_56 : decode cX1_allBy 56 = .ok (.if_icmp .eq 5, 3) := by decide +kernel
theorem dX1_allBy_59 : decode cX1_allBy 59 = .ok (.iconst 0, 1) := by decide +kernel
theorem dX1_allBy_60 : decode cX1_allBy 60 = .ok (.ireturn, 1) := by decide +kernel
theorem dX1_allBy_61 : decode cX1_allBy 61 = .ok (.iinc 4 1, 3) := by decide +kernel
theorem dX1_allBy_64 : decode cX1_allBy 64 = .ok (.goto (-61), 3) := by decide +kernel
theorem dX1_allBy_67 : decode cX1_allBy 67 = .ok (.iconst 1, 1) := by decide +kernel
theorem dX1_allBy_68 : decode cX1_allBy 68 = .ok (.ireturn, 1) := by decide +kernel
theorem dX2_init_0 : decode cX2_init 0 = .ok (.aload_n 0, 1) := by decide +kernel
theorem dX2_init_1 : decode cX2_init 1 = .ok (.invokespecial 3, 3) := by decide +kernel
theorem dX2_init_4 : decode cX2_init 4 = .ok (.aload_n 0, 1) := by decide +kernel
theorem dX2_init_5 : decode cX2_init 5 = .ok (.bipush 6, 2) := by decide +kernel
theorem dX2_init_7 : decode cX2_init 7 = .ok (.newarray .int, 2) := by decide +kernel
theorem dX2_init_9 : decode cX2_init 9 = .ok (.putfield 9, 3) := by decide +kernel
theorem dX2_init_12 : decode cX2_init 12 = .ok (.aload_n 0, 1) := by decide +kernel
theorem dX2_init_13 : decode cX2_init 13 = .ok (.bipush 6, 2) := by decide +kernel
theorem dX2_init_15 : decode cX2_init 15 = .ok (.newarray .int, 2) := by decide +kernel
theorem dX2_init_17 : decode cX2_init 17 = .ok (.putfield 15, 3) := by decide +kernel
theorem dX2_init_20 : decode cX2_init 20 = .ok (.aload_n 0, 1) := by decide +kernel
theorem dX2_init_21 : decode cX2_init 21 = .ok (.iconst 0, 1) := by decide +kernel
theorem dX2_init_22 : decode cX2_init 22 = .ok (.putfield 18, 3) := by decide +kernel
theorem dX2_init_25 : decode cX2_init 25 = .ok (.aload_n 0, 1) := by decide +kernel
theorem dX2_init_26 : decode cX2_init 26 = .ok (.iconst 0, 1) := by decide +kernel
theorem dX2_init_27 : decode cX2_init 27 = .ok (.putfield 22, 3) := by decide +kernel
theorem dX2_init_30 : decode cX2_init 30 = .ok (.aload_n 0, 1) := by decide +kernel
theorem dX2_init_31 : decode cX2_init 31 = .ok (.bipush (-4), 2) := by decide +kernel
theorem dX2_init_33 : decode cX2_init 33 = .ok (.putfield 25, 3) := by decide +kernel
theorem dX2_init_36 : decode cX2_init 36 = .ok (.aload_n 0, 1) := by decide +kernel
theorem dX2_init_37 : decode cX2_init 37 = .ok (.aload_n 1, 1) := by decide +kernel
theorem dX2_init_38 : decode cX2_init 38 = .ok (.putfield 28, 3) := by decide +kernel
theorem dX2_init_41 : decode cX2_init 41 = .ok (.aload_n 0, 1) := by decide +kernel
theorem dX2_init_42 : decode cX2_init 42 = .ok (.aload_n 2, 1) := by decide +kernel
theorem dX2_init_43 : decode cX2_init 43 = .ok (.putfield 32, 3) := by decide +kernel
theorem dX2_init_46 : decode cX2_init 46 = .ok (.return_, 1) := by decide +kernel
theorem dX2_add_0 : decode cX2_add 0 = .ok (.aload_n 0, 1) := by decide +kernel
theorem dX2_add_1 : decode cX2_add 1 = .ok (.getfield 18, 3) := by decide +kernel
theorem dX2_add_4 : decode cX2_add 4 = .ok (.bipush 6, 2) := by decide +kernel
theorem dX2_add_6 : decode cX2_add 6 = .ok (.if_icmp .lt 5, 3) := by decide +kernel
theorem dX2_add_9 : decode cX2_add 9 = .ok (.iconst 0, 1) := by decide +kernel
theorem dX2_add_10 : decode cX2_add 10 = .ok (.ireturn, 1) := by decide +kernel
theorem dX2_add_11 : decode cX2_add 11 = .ok (.aload_n 0, 1) := by decide +kernel
theorem dX2_add_12 : decode cX2_add 12 = .ok (.getfield 9, 3) := by decide +kernel
theorem dX2_add_15 : decode cX2_add 15 = .ok (.aload_n 0, 1) := by decide +kernel
theorem dX2_add_16 : decode cX2_add 16 = .ok (.getfield 18, 3) := by decide +kernel
theorem dX2_add_19 : decode cX2_add 19 = .ok (.iload_n 1, 1) := by decide +kernel
theorem dX2_add_20 : decode cX2_add 20 = .ok (.iastore, 1) := by decide +kernel
theorem dX2_add_21 : decode cX2_add 21 = .ok (.aload_n 0, 1) := by decide +kernel
theorem dX2_add_22 : decode cX2_add 22 = .ok (.getfield 15, 3) := by decide +kernel
theorem dX2_add_25 : decode cX2_add 25 = .ok (.aload_n 0, 1) := by decide +kernel
theorem dX2_add_26 : decode cX2_add 26 = .ok (.getfield 18, 3) := by decide +kernel
theorem dX2_add_29 : decode cX2_add 29 = .ok (.iload_n 2, 1) := by decide +kernel
theorem dX2_add_30 : decode cX2_add 30 = .ok (.iastore, 1) := by decide +kernel
theorem dX2_add_31 : decode cX2_add 31 = .ok (.aload_n 0, 1) := by decide +kernel
theorem dX2_add_32 : decode cX2_add 32 = .ok (.dup, 1) := by decide +kernel
theorem dX2_add_33 : decode cX2_add 33 = .ok (.getfield 18, 3) := by decide +kernel
theorem dX2_add_36 : decode cX2_add 36 = .ok (.iconst 1, 1) := by decide +kernel
theorem dX2_add_37 : decode cX2_add 37 = .ok (.iadd, 1) := by decide +kernel
theorem dX2_add_38 : decode cX2_add 38 = .ok (.putfield 18, 3) := by decide +kernel
theorem dX2_add_41 : decode cX2_add 41 = .ok (.iconst 1, 1) := by decide +kernel
theorem dX2_add_42 : decode cX2_add 42 = .ok (.ireturn, 1) := by decide +kernel
theorem dX2_empty_0 : decode cX2_empty 0 = .ok (.aload_n 0, 1) := by decide +kernel
theorem dX2_empty_1 : decode cX2_empty 1 = .ok (.getfield 18, 3) := by decide +kernel
theorem dX2_empty_4 : decode cX2_empty 4 = .ok (.istore_n 1, 1) := by decide +kernel
theorem dX2_empty_5 : decode cX2_empty 5 = .ok (.aload_n 0, 1) := by decide +kernel
theorem dX2_empty_6 : decode cX2_empty 6 = .ok (.iconst 0, 1) := by decide +kernel
theorem dX2_empty_7 : decode cX2_empty 7 = .ok (.putfield 18, 3) := by decide +kernel
theorem dX2_empty_10 : decode cX2_empty 10 = .ok (.iload_n 1, 1) := by decide +kernel
theorem dX2_empty_11 : decode cX2_empty 11 = .ok (.ireturn, 1) := by decide +kernel
theorem dX2_seek_0 : decode cX2_seek 0 = .ok (.aload_n 0, 1) := by decide +kernel
theorem dX2_seek_1 : decode cX2_seek 1 = .ok (.iconst 0, 1) := by decide +kernel
theorem dX2_seek_2 : decode cX2_seek 2 = .ok (.putfield 22, 3) := by decide +kernel
theorem dX2_seek_5 : decode cX2_seek 5 = .ok (.aload_n 0, 1) := by decide +kernel
theorem dX2_seek_6 : decode cX2_seek 6 = .ok (.bipush (-4), 2) := by decide +kernel
theorem dX2_seek_8 : decode cX2_seek 8 = .ok (.putfield 25, 3) := by decide +kernel
theorem dX2_seek_11 : decode cX2_seek 11 = .ok (.iconst 0, 1) := by decide +kernel
theorem dX2_seek_12 : decode cX2_seek 12 = .ok (.istore_n 1, 1) := by decide +kernel
theorem dX2_seek_13 : decode cX2_seek 13 = .ok (.iload_n 1, 1) := by decide +kernel
theorem dX2_seek_14 : decode cX2_seek 14 = .ok (.aload_n 0, 1) := by decide +kernel
theorem dX2_seek_15 : decode cX2_seek 15 = .ok (.getfield 28, 3) := by decide +kernel
theorem dX2_seek_18 : decode cX2_seek 18 = .ok (.getfield 36, 3) := by decide +kernel
theorem dX2_seek_21 : decode cX2_seek 21 = .ok (.getfield 42, 3) := by decide +kernel
theorem dX2_seek_24 : decode cX2_seek 24 = .ok (.if_icmp .ge 83, 3) := by decide +kernel
theorem dX2_seek_27 : decode cX2_seek 27 = .ok (.iconst 0, 1) := by decide +kernel
theorem dX2_seek_28 : decode cX2_seek 28 = .ok (.istore_n 2, 1) := by decide +kernel
theorem dX2_seek_29 : decode cX2_seek 29 = .ok (.iload_n 2, 1) := by decide +kernel
theorem dX2_seek_30 : decode cX2_seek 30 = .ok (.aload_n 0, 1) := by decide +kernel
theorem dX2_seek_31 : decode cX2_seek 31 = .ok (.getfield 28, 3) := by decide +kernel
theorem dX2_seek_34 : decode cX2_seek 34 = .ok (.getfield 36, 3) := by decide +kernel
theorem dX2_seek_37 : decode cX2_seek 37 = .ok (.getfield 47, 3) := by decide +kernel
theorem dX2_seek_40 : decode cX2_seek 40 = .ok (.if_icmp .ge 61, 3) := by decide +kernel
theorem dX2_seek_43 : decode cX2_seek 43 = .ok (.iload_n 1, 1) := by decide +kernel
theorem dX2_seek_44 : decode cX2_seek 44 = .ok (.iload_n 2, 1) := by decide +kernel
theorem dX2_seek_45 : decode cX2_seek 45 = .ok (.invokestatic 50, 3) := by decide +kernel
theorem dX2_seek_48 : decode cX2_seek 48 = .ok (.istore_n 3, 1) := by decide +kernel
theorem dX2_seek_49 : decode cX2_seek 49 = .ok (.aload_n 0, 1) := by decide +kernel
theorem dX2_seek_50 : decode cX2_seek 50 = .ok (.getfield 32, 3) := by decide +kernel
theorem dX2_seek_53 : decode cX2_seek 53 = .ok (.iload_n 3, 1) := by decide +kernel
theorem dX2_seek_54 : decode cX2_seek 54 = .ok (.invokevirtual 54, 3) := by decide +kernel
theorem dX2_seek_57 : decode cX2_seek 57 = .ok (.ifCond .eq 38, 3) := by decide +kernel
theorem dX2_seek_60 : decode cX2_seek 60 = .ok (.aload_n 0, 1) := by decide +kernel
theorem dX2_seek_61 : decode cX2_seek 61 = .ok (.iload_n 3, 1) := by decide +kernel
theorem dX2_seek_62 : decode cX2_seek 62 = .ok (.invokevirtual 60, 3) := by decide +kernel
theorem dX2_seek_65 : decode cX2_seek 65 = .ok (.ifCond .ne 6, 3) := by decide +kernel
theorem dX2_seek_68 : decode cX2_seek 68 = .ok (.goto 27, 3) := by decide +kernel
theorem dX2_seek_71 : decode cX2_seek 71 = .ok (.aload_n 0, 1) := by decide +kernel
theorem dX2_seek_72 : decode cX2_seek 72 = .ok (.getfield 25, 3) := by decide +kernel
theorem dX2_seek_75 : decode cX2_seek 75 = .ok (.bipush (-4), 2) := by decide +kernel
theorem dX2_seek_77 : decode cX2_seek 77 = .ok (.if_icmp .ne 8, 3) := by decide +kernel
theorem dX2_seek_80 : decode cX2_seek 80 = .ok (.aload_n 0, 1) := by decide +kernel
theorem dX2_seek_81 : decode cX2_seek 81 = .ok (.iload_n 3, 1) := by decide +kernel
theorem dX2_seek_82 : decode cX2_seek 82 = .ok (.putfield 25, 3) := by decide +kernel
theorem dX2_seek_85 : decode cX2_seek 85 = .ok (.aload_n 0, 1) := by decide +kernel
theorem dX2_seek_86 : decode cX2_seek 86 = .ok (.dup, 1) := by decide +kernel
theorem dX2_seek_87 : decode cX2_seek 87 = .ok (.getfield 22, 3) := by decide +kernel
theorem dX2_seek_90 : decode cX2_seek 90 = .ok (.iconst 1, 1) := by decide +kernel
theorem dX2_seek_91 : decode cX2_seek 91 = .ok (.iadd, 1) := by decide +kernel
theorem dX2_seek_92 : decode cX2_seek 92 = .ok (.putfield 22, 3) := by decide +kernel
theorem dX2_seek_95 : decode cX2_seek 95 = .ok (.iinc 2 1, 3) := by decide +kernel
theorem dX2_seek_98 : decode cX2_seek 98 = .ok (.goto (-69), 3) := by decide +kernel
theorem dX2_seek_101 : decode cX2_seek 101 = .ok (.iinc 1 1, 3) := by decide +kernel
theorem dX2_seek_104 : decode cX2_seek 104 = .ok (.goto (-91), 3) := by decide +kernel
theorem dX2_seek_107 : decode cX2_seek 107 = .ok (.return_, 1) := by decide +kernel
theorem dX2_canBeSource_0 : decode cX2_canBeSource 0 = .ok (.iconst 0, 1) := by decide +kernel
theorem dX2_canBeSource_1 : decode cX2_canBeSource 1 = .ok (.istore_n 2, 1) := by decide +kernel
theorem dX2_canBeSource_2 : decode cX2_canBeSource 2 = .ok (.iconst 0, 1) := by decide +kernel
theorem dX2_canBeSource_3 : decode cX2_canBeSource 3 = .ok (.istore_n 3, 1) := by decide +kernel
theorem dX2_canBeSource_4 : decode cX2_canBeSource 4 = .ok (.iload_n 3, 1) := by decide +kernel
theorem dX2_canBeSource_5 : decode cX2_canBeSource 5 = .ok (.aload_n 0, 1) := by decide +kernel
theorem dX2_canBeSource_6 : decode cX2_canBeSource 6 = .ok (.getfield 18, 3) := by decide +kernel
theorem dX2_canBeSource_9 : decode cX2_canBeSource 9 = .ok (.if_icmp .ge 73, 3) := by decide +kernel
theorem dX2_canBeSource_12 : decode cX2_canBeSource 12 = .ok (.aload_n 0, 1) := by decide +kernel
theorem dX2_canBeSource_13 : decode cX2_canBeSource 13 = .ok (.getfield 32, 3) := by decide +kernel
theorem dX2_canBeSource_16 : decode cX2_canBeSource 16 = .ok (.aload_n 0, 1) := by decide +kernel
theorem dX2_canBeSource_17 : decode cX2_canBeSource 17 = .ok (.getfield 28, 3) := by decide +kernel
theorem dX2_canBeSource_20 : decode cX2_canBeSource 20 = .ok (.aload_n 0, 1) := by decide +kernel
theorem dX2_canBeSource_21 : decode cX2_canBeSource 21 = .ok (.getfield 9, 3) := by decide +kernel
theorem dX2_canBeSource_24 : decode cX2_canBeSource 24 = .ok (.iload_n 3, 1) := by decide +kernel
theorem dX2_canBeSource_25 : decode cX2_canBeSource 25 = .ok (.iaload, 1) := by decide +kernel
theorem dX2_canBeSource_26 : decode cX2_canBeSource 26 = .ok (.invokevirtual 63, 3) := by decide +kernel
theorem dX2_canBeSource_29 : decode cX2_canBeSource 29 = .ok (.invokevirtual 67, 3) := by decide +kernel
theorem dX2_canBeSource_32 : decode cX2_canBeSource 32 = .ok (.iload_n 1, 1) := by decide +kernel
theorem dX2_canBeSource_33 : decode cX2_canBeSource 33 = .ok (.invokevirtual 71, 3) := by decide +kernel
theorem dX2_canBeSource_36 : decode cX2_canBeSource 36 = .ok (.istore 4, 2) := by decide +kernel
theorem dX2_canBeSource_38 : decode cX2_canBeSource 38 = .ok (.iload 4, 2) := by decide +kernel
theorem dX2_canBeSource_40 : decode cX2_canBeSource 40 = .ok (.ldc 76, 2) := by decide +kernel
theorem dX2_canBeSource_42 : decode cX2_canBeSource 42 = .ok (.if_icmp .lt 5, 3) := by decide +kernel
theorem dX2_canBeSource_45 : decode cX2_canBeSource 45 = .ok (.iconst 0, 1) := by decide +kernel
theorem dX2_canBeSource_46 : decode cX2_canBeSource 46 = .ok (.ireturn, 1) := by decide +kernel
theorem dX2_canBeSource_47 : decode cX2_canBeSource 47 = .ok (.iload_n 3, 1) := by decide +kernel
theorem dX2_canBeSource_48 : decode cX2_canBeSource 48 = .ok (.ifCond .le 18, 3) := by decide +kernel
theorem dX2_canBeSource_51 : decode cX2_canBeSource 51 = .ok (.aload_n 0, 1) := by decide +kernel
theorem dX2_canBeSource_52 : decode cX2_canBeSource 52 = .ok (.getfield 15, 3) := by decide +kernel
theorem dX2_canBeSource_55 : decode cX2_canBeSource 55 = .ok (.iload_n 3, 1) := by decide +kernel
theorem dX2_canBeSource_56 : decode cX2_canBeSource 56 = .ok (.iaload, 1) := by decide +kernel
theorem dX2_canBeSource_57 : decode cX2_canBeSource 57 = .ok (.iload 4, 2) := by decide +kernel
theorem dX2_canBeSource_59 : decode cX2_canBeSource 59 = .ok (.isub, 1) := by decide +kernel
theorem dX2_canBeSource_60 : decode cX2_canBeSource 60 = .ok (.iload_n 2, 1) := by decide +kernel
theorem dX2_canBeSource_61 : decode cX2_canBeSource 61 = .ok (.if_icmp .eq 5, 3) := by decide +kernel
theorem dX2_canBeSource_64 : decode cX2_canBeSource 64 = .ok (.iconst 0, 1) := by decide +kernel
theorem dX2_canBeSource_65 : decode cX2_canBeSource 65 = .ok (.ireturn, 1) := by decide +kernel
theorem dX2_canBeSource_66 : decode cX2_canBeSource 66 = .ok (.aload_n 0, 1) := by decide +kernel
theorem dX2_canBeSource_67 : decode cX2_canBeSource 67 = .ok (.getfield 15, 3) := by decide +kernel
theorem dX2_canBeSource_70 : decode cX2_canBeSource 70 = .ok (.iload_n 3, 1) := by decide +kernel
theorem dX2_canBeSource_71 : decode cX2_canBeSource 71 = .ok (.iaload, 1) := by decide +kernel
theorem dX2_canBeSource_72 : decode cX2_canBeSource 72 = .ok (.iload 4, 2) := by decide +kernel
theorem dX2_canBeSource_74 : decode cX2_canBeSource 74 = .ok (.isub, 1) := by decide +kernel
theorem dX2_canBeSource_75 : decode cX2_canBeSource 75 = .ok (.istore_n 2, 1) := by decide +kernel
theorem dX2_canBeSource_76 : decode cX2_canBeSource 76 = .ok (.iinc 3 1, 3) := by decide +kernel
theorem dX2_canBeSource_79 : decode cX2_canBeSource 79 = .ok (.goto (-75), 3) := by decide +kernel
theorem dX2_canBeSource_82 : decode cX2_canBeSource 82 = .ok (.iconst 1, 1) := by decide +kernel
theorem dX2_canBeSource_83 : decode cX2_canBeSource 83 = .ok (.ireturn, 1) := by decide +kernel
theorem dX3_init_0 : decode cX3_init 0 = .ok (.aload_n 0, 1) := by decide +kernel
theorem dX3_init_1 : decode cX3_init 1 = .ok (.invokespecial 3, 3) := by decide +kernel
theorem dX3_init_4 : decode cX3_init 4 = .ok (.aload_n 0, 1) := by decide +kernel
theorem dX3_init_5 : decode cX3_init 5 = .ok (.bipush 6, 2) := by decide +kernel
theorem dX3_init_7 : decode cX3_init 7 = .ok (.newarray .int, 2) := by decide +kernel
theorem dX3_init_9 : decode cX3_init 9 = .ok (.putfield 9, 3) := by decide +kernel
theorem dX3_init_12 : decode cX3_init 12 = .ok (.aload_n 0, 1) := by decide +kernel
theorem dX3_init_13 : decode cX3_init 13 = .ok (.bipush 6, 2) := by decide +kernel
theorem dX3_init_15 : decode cX3_init 15 = .ok (.anewarray 15, 3) := by decide +kernel
theorem dX3_init_18 : decode cX3_init 18 = .ok (.putfield 17, 3) := by decide +kernel
theorem dX3_init_21 : decode cX3_init 21 = .ok (.aload_n 0, 1) := by decide +kernel
theorem dX3_init_22 : decode cX3_init 22 = .ok (.iconst 0, 1) := by decide +kernel
theorem dX3_init_23 : decode cX3_init 23 = .ok (.putfield 21, 3) := by decide +kernel
theorem dX3_init_26 : decode cX3_init 26 = .ok (.aload_n 0, 1) := by decide +kernel
theorem dX3_init_27 : decode cX3_init 27 = .ok (.bipush (-4), 2) := by decide +kernel
theorem dX3_init_29 : decode cX3_init 29 = .ok (.putfield 25, 3) := by decide +kernel
theorem dX3_init_32 : decode cX3_init 32 = .ok (.aload_n 0, 1) := by decide +kernel
theorem dX3_init_33 : decode cX3_init 33 = .ok (.bipush (-4), 2) := by decide +kernel
theorem dX3_init_35 : decode cX3_init 35 = .ok (.putfield 28, 3) := by decide +kernel
theorem dX3_init_38 : decode cX3_init 38 = .ok (.aload_n 0, 1) := by decide +kernel
theorem dX3_init_39 : decode cX3_init 39 = .ok (.bipush (-4), 2) := by decide +kernel
theorem dX3_init_41 : decode cX3_init 41 = .ok (.putfield 31, 3) := by decide +kernel
theorem dX3_init_44 : decode cX3_init 44 = .ok (.aload_n 0, 1) := by decide +kernel
theorem dX3_init_45 : decode cX3_init 45 = .ok (.aload_n 1, 1) := by decide +kernel
theorem dX3_init_46 : decode cX3_init 46 = .ok (.putfield 34, 3) := by decide +kernel
theorem dX3_init_49 : decode cX3_init 49 = .ok (.aload_n 0, 1) := by decide +kernel
theorem dX3_init_50 : decode cX3_init 50 = .ok (.aload_n 2, 1) := by decide +kernel
theorem dX3_init_51 : decode cX3_init 51 = .ok (.putfield 38, 3) := by decide +kernel
theorem dX3_init_54 : decode cX3_init 54 = .ok (.return_, 1) := by decide +kernel
theorem dX3_seek_0 : decode cX3_seek 0 = .ok (.aload_n 0, 1) := by decide +kernel
theorem dX3_seek_1 : decode cX3_seek 1 = .ok (.iload_n 1, 1) := by decide +kernel
theorem dX3_seek_2 : decode cX3_seek 2 = .ok (.putfield 21, 3) := by decide +kernel
theorem dX3_seek_5 : decode cX3_seek 5 = .ok (.aload_n 0, 1) := by decide +kernel
theorem dX3_seek_6 : decode cX3_seek 6 = .ok (.bipush (-4), 2) := by decide +kernel
theorem dX3_seek_8 : decode cX3_seek 8 = .ok (.putfield 25, 3) := by decide +kernel
theorem dX3_seek_11 : decode cX3_seek 11 = .ok (.aload_n 0, 1) := by decide +kernel
theorem dX3_seek_12 : decode cX3_seek 12 = .ok (.bipush (-4), 2) := by decide +kernel
theorem dX3_seek_14 : decode cX3_seek 14 = .ok (.putfield 28, 3) := by decide +kernel
theorem dX3_seek_17 : decode cX3_seek 17 = .ok (.aload_n 0, 1) := by decide +kernel
theorem dX3_seek_18 : decode cX3_seek 18 = .ok (.bipush (-4), 2) := by decide +kernel
theorem dX3_seek_20 : decode cX3_seek 20 = .ok (.putfield 31, 3) := by decide +kernel
theorem dX3_seek_23 : decode cX3_seek 23 = .ok (.iconst 0, 1) := by decide +kernel
theorem dX3_seek_24 : decode cX3_seek 24 = .ok (.istore_n 2, 1) := by decide +kernel
theorem dX3_seek_25 : decode cX3_seek 25 = .ok (.iload_n 2, 1) := by decide +kernel
theorem dX3_seek_26 : decode cX3_seek 26 = .ok (.aload_n 0, 1) := by decide +kernel
theorem dX3_seek_27 : decode cX3_seek 27 = .ok (.getfield 34, 3) := by decide +kernel
theorem dX3_seek_30 : decode cX3_seek 30 = .ok (.getfield 42, 3) := by decide +kernel
theorem dX3_seek_33 : decode cX3_seek 33 = .ok (.getfield 48, 3) := by decide +kernel
theorem dX3_seek_36 : decode cX3_seek 36 = .ok (.if_icmp .ge 22, 3) := by decide +kernel
theorem dX3_seek_39 : decode cX3_seek 39 = .ok (.aload_n 0, 1) := by decide +kernel
theorem dX3_seek_40 : decode cX3_seek 40 = .ok (.iload_n 2, 1) := by decide +kernel
theorem dX3_seek_41 : decode cX3_seek 41 = .ok (.aload_n 0, 1) := by decide +kernel
theorem dX3_seek_42 : decode cX3_seek 42 = .ok (.getfield 34, 3) := by decide +kernel
theorem dX3_seek_45 : decode cX3_seek 45 = .ok (.iload_n 2, 1) := by decide +kernel
theorem dX3_seek_46 : decode cX3_seek 46 = .ok (.invokevirtual 53, 3) := by decide +kernel
theorem dX3_seek_49 : decode cX3_seek 49 = .ok (.invokevirtual 57, 3) := by decide +kernel
theorem dX3_seek_52 : decode cX3_seek 52 = .ok (.iinc 2 1, 3) := by decide +kernel
theorem dX3_seek_55 : decode cX3_seek 55 = .ok (.goto (-30), 3) := by decide +kernel
theorem dX3_seek_58 : decode cX3_seek 58 = .ok (.aload_n 0, 1) := by decide +kernel
theorem dX3_seek_59 : decode cX3_seek 59 = .ok (.iconst (-1), 1) := by decide +kernel
theorem dX3_seek_60 : decode cX3_seek 60 = .ok (.invokevirtual 61, 3) := by decide +kernel
theorem dX3_seek_63 : decode cX3_seek 63 = .ok (.ifCond .eq 11, 3) := by decide +kernel
theorem dX3_seek_66 : decode cX3_seek 66 = .ok (.aload_n 0, 1) := by decide +kernel
theorem dX3_seek_67 : decode cX3_seek 67 = .ok (.iconst 0, 1) := by decide +kernel
theorem dX3_seek_68 : decode cX3_seek 68 = .ok (.putfield 25, 3) := by decide +kernel
theorem dX3_seek_71 : decode cX3_seek 71 = .ok (.goto 30, 3) := by decide +kernel
theorem dX3_seek_74 : decode cX3_seek 74 = .ok (.aload_n 0, 1) := by decide +kernel
theorem dX3_seek_75 : decode cX3_seek 75 = .ok (.invokevirtual 65, 3) := by decide +kernel
theorem dX3_seek_78 : decode cX3_seek 78 = .ok (.ifCond .eq 11, 3) := by decide +kernel
theorem dX3_seek_81 : decode cX3_seek 81 = .ok (.aload_n 0, 1) := by decide +kernel
theorem dX3_seek_82 : decode cX3_seek 82 = .ok (.iconst 1, 1) := by decide +kernel
theorem dX3_seek_83 : decode cX3_seek 83 = .ok (.putfield 25, 3) := by decide +kernel
theorem dX3_seek_86 : decode cX3_seek 86 = .ok (.goto 15, 3) := by decide +kernel
theorem dX3_seek_89 : decode cX3_seek 89 = .ok (.aload_n 0, 1) := by decide +kernel
theorem dX3_seek_90 : decode cX3_seek 90 = .ok (.invokevirtual 69, 3) := by decide +kernel
theorem dX3_seek_93 : decode cX3_seek 93 = .ok (.ifCond .eq 8, 3) := by decide +kernel
theorem dX3_seek_96 : decode cX3_seek 96 = .ok (.aload_n 0, 1) := by decide +kernel
theorem dX3_seek_97 : decode cX3_seek 97 = .ok (.iconst 2, 1) := by decide +kernel
theorem dX3_seek_98 : decode cX3_seek 98 = .ok (.putfield 25, 3) := by decide +kernel
theorem dX3_seek_101 : decode cX3_seek 101 = .ok (.return_, 1) := by decide +kernel
theorem dX3_hangAt_0 : decode cX3_hangAt 0 = .ok (.aload_n 0, 1) := by decide +kernel
theorem dX3_hangAt_1 : decode cX3_hangAt 1 = .ok (.getfield 9, 3) := by decide +kernel
theorem dX3_hangAt_4 : decode cX3_hangAt 4 = .ok (.iload_n 1, 1) := by decide +kernel
theorem dX3_hangAt_5 : decode cX3_hangAt 5 = .ok (.iload_n 2, 1) := by decide +kernel
theorem dX3_hangAt_6 : decode cX3_hangAt 6 = .ok (.iastore, 1) := by decide +kernel
theorem dX3_hangAt_7 : decode cX3_hangAt 7 = .ok (.aload_n 0, 1) := by decide +kernel
theorem dX3_hangAt_8 : decode cX3_hangAt 8 = .ok (.getfield 17, 3) := by decide +kernel
theorem dX3_hangAt_11 : decode cX3_hangAt 11 = .ok (.iload_n 1, 1) := by decide +kernel
theorem dX3_hangAt_12 : decode cX3_hangAt 12 = .ok (.aload_n 0, 1) := by decide +kernel
theorem dX3_hangAt_13 : decode cX3_hangAt 13 = .ok (.getfield 38, 3) := by decide +kernel
theorem dX3_hangAt_16 : decode cX3_hangAt 16 = .ok (.iload_n 2, 1) := by decide +kernel
theorem dX3_hangAt_17 : decode cX3_hangAt 17 = .ok (.invokevirtual 72, 3) := by decide +kernel
theorem dX3_hangAt_20 : decode cX3_hangAt 20 = .ok (.aastore, 1) := by decide +kernel
theorem dX3_hangAt_21 : decode cX3_hangAt 21 = .ok (.return_, 1) := by decide +kernel
theorem dX3_seekOne_0 : decode cX3_seekOne 0 = .ok (.aload_n 0, 1) := by decide +kernel
theorem dX3_seekOne_1 : decode cX3_seekOne 1 = .ok (.aload_n 0, 1) := by decide +kernel
theorem dX3_seekOne_2 : decode cX3_seekOne 2 = .ok (.iconst (-1), 1) := by decide +kernel
theorem dX3_seekOne_3 : decode cX3_seekOne 3 = .ok (.invokevirtual 78, 3) := by decide +kernel
theorem dX3_seekOne_6 : decode cX3_seekOne 6 = .ok (.putfield 28, 3) := by decide +kernel
theorem dX3_seekOne_9 : decode cX3_seekOne 9 = .ok (.aload_n 0, 1) := by decide +kernel
theorem dX3_seekOne_10 : decode cX3_seekOne 10 = .ok (.getfield 28, 3) := by decide +kernel
theorem dX3_seekOne_13 : decode cX3_seekOne 13 = .ok (.bipush (-4), 2) := by decide +kernel
theorem dX3_seekOne_15 : decode cX3_seekOne 15 = .ok (.if_icmp .eq 7, 3) := by decide +kernel
theorem dX3_seekOne_18 : decode cX3_seekOne 18 = .ok (.iconst 1, 1) := by decide +kernel
theorem dX3_seekOne_19 : decode cX3_seekOne 19 = .ok (.goto 4, 3) := by decide +kernel
theorem dX3_seekOne_22 : decode cX3_seekOne 22 = .ok (.iconst 0, 1) := by decide +kernel
theorem dX3_seekOne_23 : decode cX3_seekOne 23 = .ok (.ireturn, 1) := by decide +kernel
theorem dX3_seekTwo_0 : decode cX3_seekTwo 0 = .ok (.iconst 0, 1) := by decide +kernel
theorem dX3_seekTwo_1 : decode cX3_seekTwo 1 = .ok (.istore_n 1, 1) := by decide +kernel
theorem dX3_seekTwo_2 : decode cX3_seekTwo 2 = .ok (.iload_n 1, 1) := by decide +kernel
theorem dX3_seekTwo_3 : decode cX3_seekTwo 3 = .ok (.aload_n 0, 1) := by decide +kernel
theorem dX3_seekTwo_4 : decode cX3_seekTwo 4 = .ok (.getfield 34, 3) := by decide +kernel
theorem dX3_seekTwo_7 : decode cX3_seekTwo 7 = .ok (.getfield 42, 3) := by decide +kernel
theorem dX3_seekTwo_10 : decode cX3_seekTwo 10 = .ok (.getfield 48, 3) := by decide +kernel
theorem dX3_seekTwo_13 : decode cX3_seekTwo 13 = .ok (.if_icmp .ge 34, 3) := by decide +kernel
theorem dX3_seekTwo_16 : decode cX3_seekTwo 16 = .ok (.aload_n 0, 1) := by decide +kernel
theorem dX3_seekTwo_17 : decode cX3_seekTwo 17 = .ok (.getfield 34, 3) := by decide +kernel
theorem dX3_seekTwo_20 : decode cX3_seekTwo 20 = .ok (.getfield 81, 3) := by decide +kernel
theorem dX3_seekTwo_23 : decode cX3_seekTwo 23 = .ok (.getfield 85, 3) := by decide +kernel
theorem dX3_seekTwo_26 : decode cX3_seekTwo 26 = .ok (.iload_n 1, 1) := by decide +kernel
theorem dX3_seekTwo_27 : decode cX3_seekTwo 27 = .ok (.baload, 1) := by decide +kernel
theorem dX3_seekTwo_28 : decode cX3_seekTwo 28 = .ok (.ifCond .ne 13, 3) := by decide +kernel
theorem dX3_seekTwo_31 : decode cX3_seekTwo 31 = .ok (.aload_n 0, 1) := by decide +kernel
theorem dX3_seekTwo_32 : decode cX3_seekTwo 32 = .ok (.iload_n 1, 1) := by decide +kernel
theorem dX3_seekTwo_33 : decode cX3_seekTwo 33 = .ok (.invokevirtual 91, 3) := by decide +kernel
theorem dX3_seekTwo_36 : decode cX3_seekTwo 36 = .ok (.ifCond .eq 5, 3) := by decide +kernel
theorem dX3_seekTwo_39 : decode cX3_seekTwo 39 = .ok (.iconst 1, 1) := by decide +kernel
theorem dX3_seekTwo_40 : decode cX3_seekTwo 40 = .ok (.ireturn, 1) := by decide +kernel
theorem dX3_seekTwo_41 : decode cX3_seekTwo 41 = .ok (.iinc 1 1, 3) := by decide +kernel
theorem dX3_seekTwo_44 : decode cX3_seekTwo 44 = .ok (.goto (-42), 3) := by decide +kernel
theorem dX3_seekTwo_47 : decode cX3_seekTwo 47 = .ok (.iconst 0, 1) := by decide +kernel
theorem dX3_seekTwo_48 : decode cX3_seekTwo 48 = .ok (.ireturn, 1) := by decide +kernel
theorem dX3_seekWith_0 : decode cX3_seekWith 0 = .ok (.aload_n 0, 1) := by decide +kernel
theorem dX3_seekWith_1 : decode cX3_seekWith 1 = .ok (.getfield 9, 3) := by decide +kernel
theorem dX3_seekWith_4 : decode cX3_seekWith 4 = .ok (.iload_n 1, 1) := by decide +kernel
theorem dX3_seekWith_5 : decode cX3_seekWith 5 = .ok (.iaload, 1) := by decide +kernel
theorem dX3_seekWith_6 : decode cX3_seekWith 6 = .ok (.istore_n 2, 1) := by decide +kernel
theorem dX3_seekWith_7 : decode cX3_seekWith 7 = .ok (.iconst 0, 1) := by decide +kernel
theorem dX3_seekWith_8 : decode cX3_seekWith 8 = .ok (.istore_n 3, 1) := by decide +kernel
theorem dX3_seekWith_9 : decode cX3_seekWith 9 = .ok (.iload_n 3, 1) := by decide +kernel
theorem dX3_seekWith_10 : decode cX3_seekWith 10 = .ok (.aload_n 0, 1) := by decide +kernel
theorem dX3_seekWith_11 : decode cX3_seekWith 11 = .ok (.getfield 34, 3) := by decide +kernel
theorem dX3_seekWith_14 : decode cX3_seekWith 14 = .ok (.getfield 42, 3) := by decide +kernel
theorem dX3_seekWith_17 : decode cX3_seekWith 17 = .ok (.getfield 94, 3) := by decide +kernel
theorem dX3_seekWith_20 : decode cX3_seekWith 20 = .ok (.if_icmp .ge 81, 3) := by decide +kernel
theorem dX3_seekWith_23 : decode cX3_seekWith 23 = .ok (.aload_n 0, 1) := by decide +kernel
theorem dX3_seekWith_24 : decode cX3_seekWith 24 = .ok (.iload_n 1, 1) := by decide +kernel
theorem dX3_seekWith_25 : decode cX3_seekWith 25 = .ok (.iload_n 3, 1) := by decide +kernel
theorem dX3_seekWith_26 : decode cX3_seekWith 26 = .ok (.invokevirtual 97, 3) := by decide +kernel
theorem dX3_seekWith_29 : decode cX3_seekWith 29 = .ok (.ifCond .ne 6, 3) := by decide +kernel
theorem dX3_seekWith_32 : decode cX3_seekWith 32 = .ok (.goto 63, 3) := by decide +kernel
theorem dX3_seekWith_35 : decode cX3_seekWith 35 = .ok (.aload_n 0, 1) := by decide +kernel
theorem dX3_seekWith_36 : decode cX3_seekWith 36 = .ok (.iload_n 1, 1) := by decide +kernel
theorem dX3_seekWith_37 : decode cX3_seekWith 37 = .ok (.aload_n 0, 1) := by decide +kernel
theorem dX3_seekWith_38 : decode cX3_seekWith 38 = .ok (.getfield 34, 3) := by decide +kernel
theorem dX3_seekWith_41 : decode cX3_seekWith 41 = .ok (.getfield 42, 3) := by decide +kernel
theorem dX3_seekWith_44 : decode cX3_seekWith 44 = .ok (.getfield 101, 3) := by decide +kernel
theorem dX3_seekWith_47 : decode cX3_seekWith 47 = .ok (.iload_n 1, 1) := by decide +kernel
theorem dX3_seekWith_48 : decode cX3_seekWith 48 = .ok (.iaload, 1) := by decide +kernel
theorem dX3_seekWith_49 : decode cX3_seekWith 49 = .ok (.iload_n 3, 1) := by decide +kernel
theorem dX3_seekWith_50 : decode cX3_seekWith 50 = .ok (.invokestatic 104, 3) := by decide +kernel
theorem dX3_seekWith_53 : decode cX3_seekWith 53 = .ok (.invokevirtual 57, 3) := by decide +kernel
theorem dX3_seekWith_56 : decode cX3_seekWith 56 = .ok (.aload_n 0, 1) := by decide +kernel
theorem dX3_seekWith_57 : decode cX3_seekWith 57 = .ok (.aload_n 0, 1) := by decide +kernel
theorem dX3_seekWith_58 : decode cX3_seekWith 58 = .ok (.iload_n 1, 1) := by decide +kernel
theorem dX3_seekWith_59 : decode cX3_seekWith 59 = .ok (.invokevirtual 78, 3) := by decide +kernel
theorem dX3_seekWith_62 : decode cX3_seekWith 62 = .ok (.putfield 31, 3) := by decide +kernel
theorem dX3_seekWith_65 : decode cX3_seekWith 65 = .ok (.aload_n 0, 1) := by decide +kernel
theorem dX3_seekWith_66 : decode cX3_seekWith 66 = .ok (.iload_n 1, 1) := by decide +kernel
theorem dX3_seekWith_67 : decode cX3_seekWith 67 = .ok (.iload_n 2, 1) := by decide +kernel
theorem dX3_seekWith_68 : decode cX3_seekWith 68 = .ok (.invokevirtual 57, 3) := by decide +kernel
theorem dX3_seekWith_71 : decode cX3_seekWith 71 = .ok (.aload_n 0, 1) := by decide +kernel
theorem dX3_seekWith_72 : decode cX3_seekWith 72 = .ok (.getfield 31, 3) := by decide +kernel
theorem dX3_seekWith_75 : decode cX3_seekWith 75 = .ok (.bipush (-4), 2) := by decide +kernel
theorem dX3_seekWith_77 : decode cX3_seekWith 77 = .ok (.if_icmp .ne 6, 3) := by decide +kernel
theorem dX3_seekWith_80 : decode cX3_seekWith 80 = .ok (.goto 15, 3) := by decide +kernel
theorem dX3_seekWith_83 : decode cX3_seekWith 83 = .ok (.aload_n 0, 1) := by decide +kernel
theorem dX3_seekWith_84 : decode cX3_seekWith 84 = .ok (.bipush 24, 2) := by decide +kernel
theorem dX3_seekWith_86 : decode cX3_seekWith 86 = .ok (.iload_n 1, 1) := by decide +kernel
theorem dX3_seekWith_87 : decode cX3_seekWith 87 = .ok (.imul, 1) := by decide +kernel
theorem dX3_seekWith_88 : decode cX3_seekWith 88 = .ok (.iload_n 3, 1) := by decide +kernel
theorem dX3_seekWith_89 : decode cX3_seekWith 89 = .ok (.iadd, 1) := by decide +kernel
theorem dX3_seekWith_90 : decode cX3_seekWith 90 = .ok (.putfield 28, 3) := by decide +kernel
theorem dX3_seekWith_93 : decode cX3_seekWith 93 = .ok (.iconst 1, 1) := by decide +kernel
theorem dX3_seekWith_94 : decode cX3_seekWith 94 = .ok (.ireturn, 1) := by decide +kernel
theorem dX3_seekWith_95 : decode cX3_seekWith 95 = .ok (.iinc 3 1, 3) := by decide +kernel
theorem dX3_seekWith_98 : decode cX3_seekWith 98 = .ok (.goto (-89), 3) := by decide +kernel
theorem dX3_seekWith_101 : decode cX3_seekWith 101 = .ok (.iconst 0, 1) := by decide +kernel
theorem dX3_seekWith_102 : decode cX3_seekWith 102 = .ok (.ireturn, 1) := by decide +kernel
theorem dX3_seekAbove_0 : decode cX3_seekAbove 0 = .ok (.iload_n 1, 1) := by decide +kernel
theorem dX3_seekAbove_1 : decode cX3_seekAbove 1 = .ok (.iconst 1, 1) := by decide +kernel
theorem dX3_seekAbove_2 : decode cX3_seekAbove 2 = .ok (.iadd, 1) := by decide +kernel
theorem dX3_seekAbove_3 : decode cX3_seekAbove 3 = .ok (.istore_n 2, 1) := by decide +kernel
theorem dX3_seekAbove_4 : decode cX3_seekAbove 4 = .ok (.iload_n 2, 1) := by decide +kernel
theorem dX3_seekAbove_5 : decode cX3_seekAbove 5 = .ok (.aload_n 0, 1) := by decide +kernel
theorem dX3_seekAbove_6 : decode cX3_seekAbove 6 = .ok (.getfield 34, 3) := by decide +kernel
theorem dX3_seekAbove_9 : decode cX3_seekAbove 9 = .ok (.getfield 42, 3) := by decide +kernel
theorem dX3_seekAbove_12 : decode cX3_seekAbove 12 = .ok (.getfield 48, 3) := by decide +kernel
theorem dX3_seekAbove_15 : decode cX3_seekAbove 15 = .ok (.if_icmp .ge 54, 3) := by decide +kernel
theorem dX3_seekAbove_18 : decode cX3_seekAbove 18 = .ok (.aload_n 0, 1) := by decide +kernel
theorem dX3_seekAbove_19 : decode cX3_seekAbove 19 = .ok (.getfield 34, 3) := by decide +kernel
theorem dX3_seekAbove_22 : decode cX3_seekAbove 22 = .ok (.getfield 81, 3) := by decide +kernel
theorem dX3_seekAbove_25 : decode cX3_seekAbove 25 = .ok (.getfield 85, 3) := by decide +kernel
theorem dX3_seekAbove_28 : decode cX3_seekAbove 28 = .ok (.iload_n 2, 1) := by decide +kernel
theorem dX3_seekAbove_29 : decode cX3_seekAbove 29 = .ok (.baload, 1) := by decide +kernel
theorem dX3_seekAbove_30 : decode cX3_seekAbove 30 = .ok (.ifCond .ne 33, 3) := by decide +kernel
theorem dX3_seekAbove_33 : decode cX3_seekAbove 33 = .ok (.aload_n 0, 1) := by decide +kernel
theorem dX3_seekAbove_34 : decode cX3_seekAbove 34 = .ok (.iload_n 2, 1) := by decide +kernel
theorem dX3_seekAbove_35 : decode cX3_seekAbove 35 = .ok (.invokevirtual 61, 3) := by decide +kernel
theorem dX3_seekAbove_38 : decode cX3_seekAbove 38 = .ok (.ifCond .ne 6, 3) := by decide +kernel
theorem dX3_seekAbove_41 : decode cX3_seekAbove 41 = .ok (.goto 22, 3) := by decide +kernel
theorem dX3_seekAbove_44 : decode cX3_seekAbove 44 = .ok (.aload_n 0, 1) := by decide +kernel
theorem dX3_seekAbove_45 : decode cX3_seekAbove 45 = .ok (.iload_n 2, 1) := by decide +kernel
theorem dX3_seekAbove_46 : decode cX3_seekAbove 46 = .ok (.invokevirtual 108, 3) := by decide +kernel
theorem dX3_seekAbove_49 : decode cX3_seekAbove 49 = .ok (.istore_n 3, 1) := by decide +kernel
theorem dX3_seekAbove_50 : decode cX3_seekAbove 50 = .ok (.iload_n 3, 1) := by decide +kernel
theorem dX3_seekAbove_51 : decode cX3_seekAbove 51 = .ok (.bipush (-4), 2) := by decide +kernel
theorem dX3_seekAbove_53 : decode cX3_seekAbove 53 = .ok (.if_icmp .eq 10, 3) := by decide +kernel
theorem dX3_seekAbove_56 : decode cX3_seekAbove 56 = .ok (.bipush 24, 2) := by decide +kernel
theorem dX3_seekAbove_58 : decode cX3_seekAbove 58 = .ok (.iload_n 2, 1) := by decide +kernel
theorem dX3_seekAbove_59 : decode cX3_seekAbove 59 = .ok (.imul, 1) := by decide +kernel
theorem dX3_seekAbove_60 : decode cX3_seekAbove 60 = .ok (.iload_n 3, 1) := by decide +kernel
theorem dX3_seekAbove_61 : decode cX3_seekAbove 61 = .ok (.iadd, 1) := by decide +kernel
theorem dX3_seekAbove_62 : decode cX3_seekAbove 62 = .ok (.ireturn, 1) := by decide +kernel
theorem dX3_seekAbove_63 : decode cX3_seekAbove 63 = .ok (.iinc 2 1, 3) := by decide +kernel
theorem dX3_seekAbove_66 : decode cX3_seekAbove 66 = .ok (.goto (-62), 3) := by decide +kernel
theorem dX3_seekAbove_69 : decode cX3_seekAbove 69 = .ok (.bipush (-4), 2) := by decide +kernel
theorem dX3_seekAbove_71 : decode cX3_seekAbove 71 = .ok (.ireturn, 1) := by decide +kernel
theorem dX3_placeFor_0 : decode cX3_placeFor 0 = .ok (.iconst 0, 1) := by decide +kernel
theorem dX3_placeFor_1 : decode cX3_placeFor 1 = .ok (.istore_n 2, 1) := by decide +kernel
theorem dX3_placeFor_2 : decode cX3_placeFor 2 = .ok (.iload_n 2, 1) := by decide +kernel
theorem dX3_placeFor_3 : decode cX3_placeFor 3 = .ok (.aload_n 0, 1) := by decide +kernel
theorem dX3_placeFor_4 : decode cX3_placeFor 4 = .ok (.getfield 34, 3) := by decide +kernel
theorem dX3_placeFor_7 : decode cX3_placeFor 7 = .ok (.getfield 42, 3) := by decide +kernel
theorem dX3_placeFor_10 : decode cX3_placeFor 10 = .ok (.getfield 94, 3) := by decide +kernel
theorem dX3_placeFor_13 : decode cX3_placeFor 13 = .ok (.if_icmp .ge 44, 3) := by decide +kernel
theorem dX3_placeFor_16 : decode cX3_placeFor 16 = .ok (.aload_n 0, 1) := by decide +kernel
theorem dX3_placeFor_17 : decode cX3_placeFor 17 = .ok (.iload_n 1, 1) := by decide +kernel
theorem dX3_placeFor_18 : decode cX3_placeFor 18 = .ok (.iload_n 2, 1) := by decide +kernel
theorem dX3_placeFor_19 : decode cX3_placeFor 19 = .ok (.invokevirtual 97, 3) := by decide +kernel
theorem dX3_placeFor_22 : decode cX3_placeFor 22 = .ok (.ifCond .eq 29, 3) := by decide +kernel
theorem dX3_placeFor_25 : decode cX3_placeFor 25 = .ok (.aload_n 0, 1) := by decide +kernel
theorem dX3_placeFor_26 : decode cX3_placeFor 26 = .ok (.iload_n 1, 1) := by decide +kernel
theorem dX3_placeFor_27 : decode cX3_placeFor 27 = .ok (.aload_n 0, 1) := by decide +kernel
theorem dX3_placeFor_28 : decode cX3_placeFor 28 = .ok (.getfield 34, 3) := by decide +kernel
theorem dX3_placeFor_31 : decode cX3_placeFor 31 = .ok (.getfield 42, 3) := by decide +kernel
theorem dX3_placeFor_34 : decode cX3_placeFor 34 = .ok (.getfield 101, 3) := by decide +kernel
theorem dX3_placeFor_37 : decode cX3_placeFor 37 = .ok (.iload_n 1, 1) := by decide +kernel
theorem dX3_placeFor_38 : decode cX3_placeFor 38 = .ok (.iaload, 1) := by decide +kernel
theorem dX3_placeFor_39 : decode cX3_placeFor 39 = .ok (.iload_n 2, 1) := by decide +kernel
theorem dX3_placeFor_40 : decode cX3_placeFor 40 = .ok (.invokestatic 104, 3) := by decide +kernel
theorem dX3_placeFor_43 : decode cX3_placeFor 43 = .ok (.invokevirtual 111, 3) := by decide +kernel
theorem dX3_placeFor_46 : decode cX3_placeFor 46 = .ok (.ifCond .eq 5, 3) := by decide +kernel
theorem dX3_placeFor_49 : decode cX3_placeFor 49 = .ok (.iload_n 2, 1) := by decide +kernel
theorem dX3_placeFor_50 : decode cX3_placeFor 50 = .ok (.ireturn, 1) := by decide +kernel
theorem dX3_placeFor_51 : decode cX3_placeFor 51 = .ok (.iinc 2 1, 3) := by decide +kernel
theorem dX3_placeFor_54 : decode cX3_placeFor 54 = .ok (.goto (-52), 3) := by decide +kernel
theorem dX3_placeFor_57 : decode cX3_placeFor 57 = .ok (.bipush (-4), 2) := by decide +kernel
theorem dX3_placeFor_59 : decode cX3_placeFor 59 = .ok (.ireturn, 1) := by decide +kernel
theorem dX3_isFree_0 : decode cX3_isFree 0 = .ok (.aload_n 0, 1) := by decide +kernel
theorem dX3_isFree_1 : decode cX3_isFree 1 = .ok (.getfield 34, 3) := by decide +kernel
theorem dX3_isFree_4 : decode cX3_isFree 4 = .ok (.getfield 42, 3) := by decide +kernel
theorem dX3_isFree_7 : decode cX3_isFree 7 = .ok (.getfield 101, 3) := by decide +kernel
theorem dX3_isFree_10 : decode cX3_isFree 10 = .ok (.iload_n 1, 1) := by decide +kernel
theorem dX3_isFree_11 : decode cX3_isFree 11 = .ok (.iaload, 1) := by decide +kernel
theorem dX3_isFree_12 : decode cX3_isFree 12 = .ok (.iload_n 2, 1) := by decide +kernel
theorem dX3_isFree_13 : decode cX3_isFree 13 = .ok (.invokestatic 104, 3) := by decide +kernel
theorem dX3_isFree_16 : decode cX3_isFree 16 = .ok (.istore_n 3, 1) := by decide +kernel
theorem dX3_isFree_17 : decode cX3_isFree 17 = .ok (.aload_n 0, 1) := by decide +kernel
theorem dX3_isFree_18 : decode cX3_isFree 18 = .ok (.getfield 38, 3) := by decide +kernel
theorem dX3_isFree_21 : decode cX3_isFree 21 = .ok (.iload_n 3, 1) := by decide +kernel
theorem dX3_isFree_22 : decode cX3_isFree 22 = .ok (.invokevirtual 114, 3) := by decide +kernel
theorem dX3_isFree_25 : decode cX3_isFree 25 = .ok (.ifCond .ne 5, 3) := by decide +kernel
theorem dX3_isFree_28 : decode cX3_isFree 28 = .ok (.iconst 0, 1) := by decide +kernel
theorem dX3_isFree_29 : decode cX3_isFree 29 = .ok (.ireturn, 1) := by decide +kernel
theorem dX3_isFree_30 : decode cX3_isFree 30 = .ok (.iconst 0, 1) := by decide +kernel
theorem dX3_isFree_31 : decode cX3_isFree 31 = .ok (.istore 4, 2) := by decide +kernel
theorem dX3_isFree_33 : decode cX3_isFree 33 = .ok (.iload 4, 2) := by decide +kernel
theorem dX3_isFree_35 : decode cX3_isFree 35 = .ok (.aload_n 0, 1) := by decide +kernel
theorem dX3_isFree_36 : decode cX3_isFree 36 = .ok (.getfield 34, 3) := by decide +kernel
theorem dX3_isFree_39 : decode cX3_isFree 39 = .ok (.getfield 42, 3) := by decide +kernel
theorem dX3_isFree_42 : decode cX3_isFree 42 = .ok (.getfield 48, 3) := by decide +kernel
theorem dX3_isFree_45 : decode cX3_isFree 45 = .ok (.if_icmp .ge 38, 3) := by decide +kernel
theorem dX3_isFree_48 : decode cX3_isFree 48 = .ok (.aload_n 0, 1) := by decide +kernel
theorem dX3_isFree_49 : decode cX3_isFree 49 = .ok (.getfield 34, 3) := by decide +kernel
theorem dX3_isFree_52 : decode cX3_isFree 52 = .ok (.getfield 81, 3) := by decide +kernel
theorem dX3_isFree_55 : decode cX3_isFree 55 = .ok (.getfield 85, 3) := by decide +kernel
theorem dX3_isFree_58 : decode cX3_isFree 58 = .ok (.iload 4, 2) := by decide +kernel
theorem dX3_isFree_60 : decode cX3_isFree 60 = .ok (.baload, 1) := by decide +kernel
theorem dX3_isFree_61 : decode cX3_isFree 61 = .ok (.ifCond .ne 16, 3) := by decide +kernel
theorem dX3_isFree_64 : decode cX3_isFree 64 = .ok (.aload_n 0, 1) := by decide +kernel
theorem dX3_isFree_65 : decode cX3_isFree 65 = .ok (.getfield 9, 3) := by decide +kernel
theorem dX3_isFree_68 : decode cX3_isFree 68 = .ok (.iload 4, 2) := by decide +kernel
theorem dX3_isFree_70 : decode cX3_isFree 70 = .ok (.iaload, 1) := by decide +kernel
theorem dX3_isFree_71 : decode cX3_isFree 71 = .ok (.iload_n 3, 1) := by decide +kernel
theorem dX3_isFree_72 : decode cX3_isFree 72 = .ok (.if_icmp .ne 5, 3) := by decide +kernel
theorem dX3_isFree_75 : decode cX3_isFree 75 = .ok (.iconst 0, 1) := by decide +kernel
theorem dX3_isFree_76 : decode cX3_isFree 76 = .ok (.ireturn, 1) := by decide +kernel
theorem dX3_isFree_77 : decode cX3_isFree 77 = .ok (.iinc 4 1, 3) := by decide +kernel
theorem dX3_isFree_80 : decode cX3_isFree 80 = .ok (.goto (-47), 3) := by decide +kernel
theorem dX3_isFree_83 : decode cX3_isFree 83 = .ok (.iconst 1, 1) := by decide +kernel
theorem dX3_isFree_84 : decode cX3_isFree 84 = .ok (.ireturn, 1) := by decide +kernel
theorem dX3_allHear_0 : decode cX3_allHear 0 = .ok (.iconst 1, 1) := by decide +kernel
theorem dX3_allHear_1 : decode cX3_allHear 1 = .ok (.istore_n 2, 1) := by decide +kernel
theorem dX3_allHear_2 : decode cX3_allHear 2 = .ok (.iload_n 2, 1) := by decide +kernel
theorem dX3_allHear_3 : decode cX3_allHear 3 = .ok (.aload_n 0, 1) := by decide +kernel
theorem dX3_allHear_4 : decode cX3_allHear 4 = .ok (.getfield 34, 3) := by decide +kernel
theorem dX3_allHear_7 : decode cX3_allHear 7 = .ok (.getfield 42, 3) := by decide +kernel
theorem dX3_allHear_10 : decode cX3_allHear 10 = .ok (.getfield 48, 3) := by decide +kernel
theorem dX3_allHear_13 : decode cX3_allHear 13 = .ok (.if_icmp .ge 88, 3) := by decide +kernel
theorem dX3_allHear_16 : decode cX3_allHear 16 = .ok (.iload_n 2, 1) := by decide +kernel
theorem dX3_allHear_17 : decode cX3_allHear 17 = .ok (.iload_n 1, 1) := by decide +kernel
theorem dX3_allHear_18 : decode cX3_allHear 18 = .ok (.if_icmp .eq 77, 3) := by decide +kernel
theorem dX3_allHear_21 : decode cX3_allHear 21 = .ok (.aload_n 0, 1) := by decide +kernel
theorem dX3_allHear_22 : decode cX3_allHear 22 = .ok (.getfield 34, 3) := by decide +kernel
theorem dX3_allHear_25 : decode cX3_allHear 25 = .ok (.getfield 81, 3) := by decide +kernel
theorem dX3_allHear_28 : decode cX3_allHear 28 = .ok (.getfield 85, 3) := by decide +kernel
theorem dX3_allHear_31 : decode cX3_allHear 31 = .ok (.iload_n 2, 1) := by decide +kernel
theorem dX3_allHear_32 : decode cX3_allHear 32 = .ok (.baload, 1) := by decide +kernel
theorem dX3_allHear_33 : decode cX3_allHear 33 = .ok (.ifCond .eq 6, 3) := by decide +kernel
theorem dX3_allHear_36 : decode cX3_allHear 36 = .ok (.goto 59, 3) := by decide +kernel
theorem dX3_allHear_39 : decode cX3_allHear 39 = .ok (.iconst 0, 1) := by decide +kernel
theorem dX3_allHear_40 : decode cX3_allHear 40 = .ok (.istore_n 3, 1) := by decide +kernel
theorem dX3_allHear_41 : decode cX3_allHear 41 = .ok (.iload_n 3, 1) := by decide +kernel
theorem dX3_allHear_42 : decode cX3_allHear 42 = .ok (.iload_n 2, 1) := by decide +kernel
theorem dX3_allHear_43 : decode cX3_allHear 43 = .ok (.if_icmp .ge 52, 3) := by decide +kernel
theorem dX3_allHear_46 : decode cX3_allHear 46 = .ok (.iload_n 3, 1) := by decide +kernel
theorem dX3_allHear_47 : decode cX3_allHear 47 = .ok (.iload_n 1, 1) := by decide +kernel
theorem dX3_allHear_48 : decode cX3_allHear 48 = .ok (.if_icmp .eq 41, 3) := by decide +kernel
theorem dX3_allHear_51 : decode cX3_allHear 51 = .ok (.aload_n 0, 1) := by decide +kernel
theorem dX3_allHear_52 : decode cX3_allHear 52 = .ok (.getfield 34, 3) := by decide +kernel
theorem dX3_allHear_55 : decode cX3_allHear 55 = .ok (.getfield 81, 3) := by decide +kernel
theorem dX3_allHear_58 : decode cX3_allHear 58 = .ok (.getfield 85, 3) := by decide +kernel
theorem dX3_allHear_61 : decode cX3_allHear 61 = .ok (.iload_n 3, 1) := by decide +kernel
theorem dX3_allHear_62 : decode cX3_allHear 62 = .ok (.baload, 1) := by decide +kernel
theorem dX3_allHear_63 : decode cX3_allHear 63 = .ok (.ifCond .eq 6, 3) := by decide +kernel
theorem dX3_allHear_66 : decode cX3_allHear 66 = .ok (.goto 23, 3) := by decide +kernel
theorem dX3_allHear_69 : decode cX3_allHear 69 = .ok (.aload_n 0, 1) := by decide +kernel
theorem dX3_allHear_70 : decode cX3_allHear 70 = .ok (.iload_n 3, 1) := by decide +kernel
theorem dX3_allHear_71 : decode cX3_allHear 71 = .ok (.aload_n 0, 1) := by decide +kernel
theorem dX3_allHear_72 : decode cX3_allHear 72 = .ok (.getfield 9, 3) := by decide +kernel
theorem dX3_allHear_75 : decode cX3_allHear 75 = .ok (.iload_n 2, 1) := by decide +kernel
theorem dX3_allHear_76 : decode cX3_allHear 76 = .ok (.iaload, 1) := by decide +kernel
theorem dX3_allHear_77 : decode cX3_allHear 77 = .ok (.invokevirtual 117, 3) := by decide +kernel
theorem dX3_allHear_80 : decode cX3_allHear 80 = .ok (.aload_n 0, 1) := by decide +kernel
theorem dX3_allHear_81 : decode cX3_allHear 81 = .ok (.getfield 21, 3) := by decide +kernel
theorem dX3_allHear_84 : decode cX3_allHear 84 = .ok (.if_icmp .le 5, 3) := by decide +kernel
theorem dX3_allHear_87 : decode cX3_allHear 87 = .ok (.iconst 0, 1) := by decide +kernel
theorem dX3_allHear_88 : decode cX3_allHear 88 = .ok (.ireturn, 1) := by decide +kernel
theorem dX3_allHear_89 : decode cX3_allHear 89 = .ok (.iinc 3 1, 3) := by decide +kernel
theorem dX3_allHear_92 : decode cX3_allHear 92 = .ok (.goto (-51), 3) := by decide +kernel
theorem dX3_allHear_95 : decode cX3_allHear 95 = .ok (.iinc 2 1, 3) := by decide +kernel
theorem dX3_allHear_98 : decode cX3_allHear 98 = .ok (.goto (-96), 3) := by decide +kernel
theorem dX3_allHear_101 : decode cX3_allHear 101 = .ok (.iconst 1, 1) := by decide +kernel
theorem dX3_allHear_102 : decode cX3_allHear 102 = .ok (.ireturn, 1) := by decide +kernel
theorem dX3_allHearAt_0 : decode cX3_allHearAt 0 = .ok (.iconst 0, 1) := by decide +kernel
theorem dX3_allHearAt_1 : decode cX3_allHearAt 1 = .ok (.istore_n 3, 1) := by decide +kernel
theorem dX3_allHearAt_2 : decode cX3_allHearAt 2 = .ok (.iload_n 3, 1) := by decide +kernel
theorem dX3_allHearAt_3 : decode cX3_allHearAt 3 = .ok (.aload_n 0, 1) := by decide +kernel
theorem dX3_allHearAt_4 : decode cX3_allHearAt 4 = .ok (.getfield 34, 3) := by decide +kernel
theorem dX3_allHearAt_7 : decode cX3_allHearAt 7 = .ok (.getfield 42, 3) := by decide +kernel
theorem dX3_allHearAt_10 : decode cX3_allHearAt 10 = .ok (.getfield 48, 3) := by decide +kernel
theorem dX3_allHearAt_13 : decode cX3_allHearAt 13 = .ok (.if_icmp .ge 47, 3) := by decide +kernel
theorem dX3_allHearAt_16 : decode cX3_allHearAt 16 = .ok (.iload_n 3, 1) := by decide +kernel
theorem dX3_allHearAt_17 : decode cX3_allHearAt 17 = .ok (.iload_n 1, 1) := by decide +kernel
theorem dX3_allHearAt_18 : decode cX3_allHearAt 18 = .ok (.if_icmp .eq 36, 3) := by decide +kernel
theorem dX3_allHearAt_21 : decode cX3_allHearAt 21 = .ok (.aload_n 0, 1) := by decide +kernel
theorem dX3_allHearAt_22 : decode cX3_allHearAt 22 = .ok (.getfield 34, 3) := by decide +kernel
theorem dX3_allHearAt_25 : decode cX3_allHearAt 25 = .ok (.getfield 81, 3) := by decide +kernel
theorem dX3_allHearAt_28 : decode cX3_allHearAt 28 = .ok (.getfield 85, 3) := by decide +kernel
theorem dX3_allHearAt_31 : decode cX3_allHearAt 31 = .ok (.iload_n 3, 1) := by decide +kernel
theorem dX3_allHearAt_32 : decode cX3_allHearAt 32 = .ok (.baload, 1) := by decide +kernel
theorem dX3_allHearAt_33 : decode cX3_allHearAt 33 = .ok (.ifCond .eq 6, 3) := by decide +kernel
theorem dX3_allHearAt_36 : decode cX3_allHearAt 36 = .ok (.goto 18, 3) := by decide +kernel
theorem dX3_allHearAt_39 : decode cX3_allHearAt 39 = .ok (.aload_n 0, 1) := by decide +kernel
theorem dX3_allHearAt_40 : decode cX3_allHearAt 40 = .ok (.iload_n 3, 1) := by decide +kernel
theorem dX3_allHearAt_41 : decode cX3_allHearAt 41 = .ok (.iload_n 2, 1) := by decide +kernel
theorem dX3_allHearAt_42 : decode cX3_allHearAt 42 = .ok (.invokevirtual 117, 3) := by decide +kernel
theorem dX3_allHearAt_45 : decode cX3_allHearAt 45 = .ok (.aload_n 0, 1) := by decide +kernel
theorem dX3_allHearAt_46 : decode cX3_allHearAt 46 = .ok (.getfield 21, 3) := by decide +kernel
theorem dX3_allHearAt_49 : decode cX3_allHearAt 49 = .ok (.if_icmp .le 5, 3) := by decide +kernel
theorem dX3_allHearAt_52 : decode cX3_allHearAt 52 = .ok (.iconst 0, 1) := by decide +kernel
theorem dX3_allHearAt_53 : decode cX3_allHearAt 53 = .ok (.ireturn, 1) := by decide +kernel
theorem dX3_allHearAt_54 : decode cX3_allHearAt 54 = .ok (.iinc 3 1, 3) := by decide +kernel
theorem dX3_allHearAt_57 : decode cX3_allHearAt 57 = .ok (.goto (-55), 3) := by decide +kernel
theorem dX3_allHearAt_60 : decode cX3_allHearAt 60 = .ok (.iconst 1, 1) := by decide +kernel
theorem dX3_allHearAt_61 : decode cX3_allHearAt 61 = .ok (.ireturn, 1) := by decide +kernel
theorem dX3_beatsFrom_0 : decode cX3_beatsFrom 0 = .ok (.aload_n 0, 1) := by decide +kernel
theorem dX3_beatsFrom_1 : decode cX3_beatsFrom 1 = .ok (.getfield 17, 3) := by decide +kernel
theorem dX3_beatsFrom_4 : decode cX3_beatsFrom 4 = .ok (.iload_n 1, 1) := by decide +kernel
theorem dX3_beatsFrom_5 : decode cX3_beatsFrom 5 = .ok (.aaload, 1) := by decide +kernel
theorem dX3_beatsFrom_6 : decode cX3_beatsFrom 6 = .ok (.astore_n 3, 1) := by decide +kernel
theorem dX3_beatsFrom_7 : decode cX3_beatsFrom 7 = .ok (.aload_n 3, 1) := by decide +kernel
theorem dX3_beatsFrom_8 : decode cX3_beatsFrom 8 = .ok (.ifnull 23, 3) := by decide +kernel
theorem dX3_beatsFrom_11 : decode cX3_beatsFrom 11 = .ok (.iload_n 2, 1) := by decide +kernel
theorem dX3_beatsFrom_12 : decode cX3_beatsFrom 12 = .ok (.ifCond .lt 19, 3) := by decide +kernel
theorem dX3_beatsFrom_15 : decode cX3_beatsFrom 15 = .ok (.iload_n 2, 1) := by decide +kernel
theorem dX3_beatsFrom_16 : decode cX3_beatsFrom 16 = .ok (.sipush 192, 3) := by decide +kernel
theorem dX3_beatsFrom_19 : decode cX3_beatsFrom 19 = .ok (.if_icmp .ge 12, 3) := by decide +kernel
theorem dX3_beatsFrom_22 : decode cX3_beatsFrom 22 = .ok (.aload_n 3, 1) := by decide +kernel
theorem dX3_beatsFrom_23 : decode cX3_beatsFrom 23 = .ok (.getfield 120, 3) := by decide +kernel
theorem dX3_beatsFrom_26 : decode cX3_beatsFrom 26 = .ok (.iload_n 2, 1) := by decide +kernel
theorem dX3_beatsFrom_27 : decode cX3_beatsFrom 27 = .ok (.iaload, 1) := by decide +kernel
theorem dX3_beatsFrom_28 : decode cX3_beatsFrom 28 = .ok (.goto 5, 3) := by decide +kernel
theorem dX3_beatsFrom_31 : decode cX3_beatsFrom 31 = .ok (.ldc 123, 2) := by decide +kernel
theorem dX3_beatsFrom_33 : decode cX3_beatsFrom 33 = .ok (.ireturn, 1) := by decide +kernel
theorem dX4_init_0 : decode cX4_init 0 = .ok (.aload_n 0, 1) := by decide +kernel
theorem dX4_init_1 : decode cX4_init 1 = .ok (.invokespecial 1, 3) := by decide +kernel
theorem dX4_init_4 : decode cX4_init 4 = .ok (.aload_n 0, 1) := by decide +kernel
theorem dX4_init_5 : decode cX4_init 5 = .ok (.iconst 0, 1) := by decide +kernel
theorem dX4_init_6 : decode cX4_init 6 = .ok (.putfield 7, 3) := by decide +kernel
theorem dX4_init_9 : decode cX4_init 9 = .ok (.aload_n 0, 1) := by decide +kernel
theorem dX4_init_10 : decode cX4_init 10 = .ok (.iconst 0, 1) := by decide +kernel
theorem dX4_init_11 : decode cX4_init 11 = .ok (.putfield 13, 3) := by decide +kernel
theorem dX4_init_14 : decode cX4_init 14 = .ok (.aload_n 0, 1) := by decide +kernel
theorem dX4_init_15 : decode cX4_init 15 = .ok (.iconst 1, 1) := by decide +kernel
theorem dX4_init_16 : decode cX4_init 16 = .ok (.iload_n 1, 1) := by decide +kernel
theorem dX4_init_17 : decode cX4_init 17 = .ok (.invokestatic 16, 3) := by decide +kernel
theorem dX4_init_20 : decode cX4_init 20 = .ok (.anewarray 22, 3) := by decide +kernel
theorem dX4_init_23 : decode cX4_init 23 = .ok (.putfield 24, 3) := by decide +kernel
theorem dX4_init_26 : decode cX4_init 26 = .ok (.iconst 0, 1) := by decide +kernel
theorem dX4_init_27 : decode cX4_init 27 = .ok (.istore_n 2, 1) := by decide +kernel
theorem dX4_init_28 : decode cX4_init 28 = .ok (.iload_n 2, 1) := by decide +kernel
theorem dX4_init_29 : decode cX4_init 29 = .ok (.aload_n 0, 1) := by decide +kernel
theorem dX4_init_30 : decode cX4_init 30 = .ok (.getfield 24, 3) := by decide +kernel
theorem dX4_init_33 : decode cX4_init 33 = .ok (.arraylength, 1) := by decide +kernel
theorem dX4_init_34 : decode cX4_init 34 = .ok (.if_icmp .ge 22, 3) := by decide +kernel
theorem dX4_init_37 : decode cX4_init 37 = .ok (.aload_n 0, 1) := by decide +kernel
theorem dX4_init_38 : decode cX4_init 38 = .ok (.getfield 24, 3) := by decide +kernel
theorem dX4_init_41 : decode cX4_init 41 = .ok (.iload_n 2, 1) := by decide +kernel
theorem dX4_init_42 : decode cX4_init 42 = .ok (.new 22, 3) := by decide +kernel
theorem dX4_init_45 : decode cX4_init 45 = .ok (.dup, 1) := by decide +kernel
theorem dX4_init_46 : decode cX4_init 46 = .ok (.invokespecial 28, 3) := by decide +kernel
theorem dX4_init_49 : decode cX4_init 49 = .ok (.aastore, 1) := by decide +kernel
theorem dX4_init_50 : decode cX4_init 50 = .ok (.iinc 2 1, 3) := by decide +kernel
theorem dX4_init_53 : decode cX4_init 53 = .ok (.goto (-25), 3) := by decide +kernel
theorem dX4_init_56 : decode cX4_init 56 = .ok (.return_, 1) := by decide +kernel
theorem dX4_empty_0 : decode cX4_empty 0 = .ok (.aload_n 0, 1) := by decide +kernel
theorem dX4_empty_1 : decode cX4_empty 1 = .ok (.iconst 0, 1) := by decide +kernel
theorem dX4_empty_2 : decode cX4_empty 2 = .ok (.putfield 7, 3) := by decide +kernel
theorem dX4_empty_5 : decode cX4_empty 5 = .ok (.aload_n 0, 1) := by decide +kernel
theorem dX4_empty_6 : decode cX4_empty 6 = .ok (.iconst 0, 1) := by decide +kernel
theorem dX4_empty_7 : decode cX4_empty 7 = .ok (.putfield 13, 3) := by decide +kernel
theorem dX4_empty_10 : decode cX4_empty 10 = .ok (.return_, 1) := by decide +kernel
theorem dX4_push_0 : decode cX4_push 0 = .ok (.aload_n 0, 1) := by decide +kernel
theorem dX4_push_1 : decode cX4_push 1 = .ok (.getfield 13, 3) := by decide +kernel
theorem dX4_push_4 : decode cX4_push 4 = .ok (.aload_n 0, 1) := by decide +kernel
theorem dX4_push_5 : decode cX4_push 5 = .ok (.getfield 24, 3) := by decide +kernel
theorem dX4_push_8 : decode cX4_push 8 = .ok (.arraylength, 1) := by decide +kernel
theorem dX4_push_9 : decode cX4_push 9 = .ok (.if_icmp .lt 22, 3) := by decide +kernel
theorem dX4_push_12 : decode cX4_push 12 = .ok (.aload_n 0, 1) := by decide +kernel
theorem dX4_push_13 : decode cX4_push 13 = .ok (.aload_n 0, 1) := by decide +kernel
theorem dX4_push_14 : decode cX4_push 14 = .ok (.iconst 1, 1) := by decide +kernel
theorem dX4_push_15 : decode cX4_push 15 = .ok (.invokevirtual 29, 3) := by decide +kernel
theorem dX4_push_18 : decode cX4_push 18 = .ok (.putfield 7, 3) := by decide +kernel
theorem dX4_push_21 : decode cX4_push 21 = .ok (.aload_n 0, 1) := by decide +kernel
theorem dX4_push_22 : decode cX4_push 22 = .ok (.dup, 1) := by decide +kernel
theorem dX4_push_23 : decode cX4_push 23 = .ok (.getfield 13, 3) := by decide +kernel
theorem dX4_push_26 : decode cX4_push 26 = .ok (.iconst 1, 1) := by decide +kernel
theorem dX4_push_27 : decode cX4_push 27 = .ok (.isub, 1) := by decide +kernel
theorem dX4_push_28 : decode cX4_push 28 = .ok (.putfield 13, 3) := by decide +kernel
theorem dX4_push_31 : decode cX4_push 31 = .ok (.aload_n 0, 1) := by decide +kernel
theorem dX4_push_32 : decode cX4_push 32 = .ok (.getfield 24, 3) := by decide +kernel
theorem dX4_push_35 : decode cX4_push 35 = .ok (.aload_n 0, 1) := by decide +kernel
theorem dX4_push_36 : decode cX4_push 36 = .ok (.aload_n 0, 1) := by decide +kernel
theorem dX4_push_37 : decode cX4_push 37 = .ok (.getfield 13, 3) := by decide +kernel
theorem dX4_push_40 : decode cX4_push 40 = .ok (.invokevirtual 29, 3) := by decide +kernel
theorem dX4_push_43 : decode cX4_push 43 = .ok (.aaload, 1) := by decide +kernel
theorem dX4_push_44 : decode cX4_push 44 = .ok (.aload_n 1, 1) := by decide +kernel
theorem dX4_push_45 : decode cX4_push 45 = .ok (.invokevirtual 33, 3) := by decide +kernel
theorem dX4_push_48 : decode cX4_push 48 = .ok (.aload_n 0, 1) := by decide +kernel
theorem dX4_push_49 : decode cX4_push 49 = .ok (.dup, 1) := by decide +kernel
theorem dX4_push_50 : decode cX4_push 50 = .ok (.getfield 13, 3) := by decide +kernel
theorem dX4_push_53 : decode cX4_push 53 = .ok (.iconst 1, 1) := by decide +kernel
theorem dX4_push_54 : decode cX4_push 54 = .ok (.iadd, 1) := by decide +kernel
theorem dX4_push_55 : decode cX4_push 55 = .ok (.putfield 13, 3) := by decide +kernel
theorem dX4_push_58 : decode cX4_push 58 = .ok (.return_, 1) := by decide +kernel
theorem dX4_pop_0 : decode cX4_pop 0 = .ok (.aload_n 0, 1) := by decide +kernel
theorem dX4_pop_1 : decode cX4_pop 1 = .ok (.getfield 13, 3) := by decide +kernel
theorem dX4_pop_4 : decode cX4_pop 4 = .ok (.iconst 1, 1) := by decide +kernel
theorem dX4_pop_5 : decode cX4_pop 5 = .ok (.if_icmp .ge 5, 3) := by decide +kernel
theorem dX4_pop_8 : decode cX4_pop 8 = .ok (.iconst 0, 1) := by decide +kernel
theorem dX4_pop_9 : decode cX4_pop 9 = .ok (.ireturn, 1) := by decide +kernel
theorem dX4_pop_10 : decode cX4_pop 10 = .ok (.aload_n 0, 1) := by decide +kernel
theorem dX4_pop_11 : decode cX4_pop 11 = .ok (.dup, 1) := by decide +kernel
theorem dX4_pop_12 : decode cX4_pop 12 = .ok (.getfield 13, 3) := by decide +kernel
theorem dX4_pop_15 : decode cX4_pop 15 = .ok (.iconst 1, 1) := by decide +kernel
theorem dX4_pop_16 : decode cX4_pop 16 = .ok (.isub, 1) := by decide +kernel
theorem dX4_pop_17 : decode cX4_pop 17 = .ok (.putfield 13, 3) := by decide +kernel
theorem dX4_pop_20 : decode cX4_pop 20 = .ok (.aload_n 1, 1) := by decide +kernel
theorem dX4_pop_21 : decode cX4_pop 21 = .ok (.aload_n 0, 1) := by decide +kernel
theorem dX4_pop_22 : decode cX4_pop 22 = .ok (.getfield 24, 3) := by decide +kernel
theorem dX4_pop_25 : decode cX4_pop 25 = .ok (.aload_n 0, 1) := by decide +kernel
theorem dX4_pop_26 : decode cX4_pop 26 = .ok (.aload_n 0, 1) := by decide +kernel
theorem dX4_pop_27 : decode cX4_pop 27 = .ok (.getfield 13, 3) := by decide +kernel
theorem dX4_pop_30 : decode cX4_pop 30 = .ok (.invokevirtual 29, 3) := by decide +kernel
theorem dX4_pop_33 : decode cX4_pop 33 = .ok (.aaload, 1) := by decide +kernel
theorem dX4_pop_34 : decode cX4_pop 34 = .ok (.invokevirtual 33, 3) := by decide +kernel
theorem dX4_pop_37 : decode cX4_pop 37 = .ok (.iconst 1, 1) := by decide +kernel
theorem dX4_pop_38 : decode cX4_pop 38 = .ok (.ireturn, 1) := by decide +kernel
theorem dX4_slot_0 : decode cX4_slot 0 = .ok (.aload_n 0, 1) := by decide +kernel
theorem dX4_slot_1 : decode cX4_slot 1 = .ok (.getfield 7, 3) := by decide +kernel
theorem dX4_slot_4 : decode cX4_slot 4 = .ok (.iload_n 1, 1) := by decide +kernel
theorem dX4_slot_5 : decode cX4_slot 5 = .ok (.iadd, 1) := by decide +kernel
theorem dX4_slot_6 : decode cX4_slot 6 = .ok (.istore_n 2, 1) := by decide +kernel
theorem dX4_slot_7 : decode cX4_slot 7 = .ok (.iload_n 2, 1) := by decide +kernel
theorem dX4_slot_8 : decode cX4_slot 8 = .ok (.aload_n 0, 1) := by decide +kernel
theorem dX4_slot_9 : decode cX4_slot 9 = .ok (.getfield 24, 3) := by decide +kernel
theorem dX4_slot_12 : decode cX4_slot 12 = .ok (.arraylength, 1) := by decide +kernel
theorem dX4_slot_13 : decode cX4_slot 13 = .ok (.if_icmp .ge 7, 3) := by decide +kernel
theorem dX4_slot_16 : decode cX4_slot 16 = .ok (.iload_n 2, 1) := by decide +kernel
theorem dX4_slot_17 : decode cX4_slot 17 = .ok (.goto 10, 3) := by decide +kernel
theorem dX4_slot_20 : decode cX4_slot 20 = .ok (.iload_n 2, 1) := by decide +kernel
theorem dX4_slot_21 : decode cX4_slot 21 = .ok (.aload_n 0, 1) := by decide +kernel
theorem dX4_slot_22 : decode cX4_slot 22 = .ok (.getfield 24, 3) := by decide +kernel
theorem dX4_slot_25 : decode cX4_slot 25 = .ok (.arraylength, 1) := by decide +kernel
theorem dX4_slot_26 : decode cX4_slot 26 = .ok (.isub, 1) := by decide +kernel
theorem dX4_slot_27 : decode cX4_slot 27 = .ok (.ireturn, 1) := by decide +kernel
theorem dX5_init_0 : decode cX5_init 0 = .ok (.aload_n 0, 1) := by decide +kernel
theorem dX5_init_1 : decode cX5_init 1 = .ok (.invokespecial 3, 3) := by decide +kernel
theorem dX5_init_4 : decode cX5_init 4 = .ok (.aload_n 0, 1) := by decide +kernel
theorem dX5_init_5 : decode cX5_init 5 = .ok (.sipush 192, 3) := by decide +kernel
theorem dX5_init_8 : decode cX5_init 8 = .ok (.newarray .int, 2) := by decide +kernel
theorem dX5_init_10 : decode cX5_init 10 = .ok (.putfield 9, 3) := by decide +kernel
theorem dX5_init_13 : decode cX5_init 13 = .ok (.aload_n 0, 1) := by decide +kernel
theorem dX5_init_14 : decode cX5_init 14 = .ok (.iconst 0, 1) := by decide +kernel
theorem dX5_init_15 : decode cX5_init 15 = .ok (.putfield 15, 3) := by decide +kernel
theorem dX5_init_18 : decode cX5_init 18 = .ok (.return_, 1) := by decide +kernel
theorem dX5_silence_0 : decode cX5_silence 0 = .ok (.iconst 0, 1) := by decide +kernel
theorem dX5_silence_1 : decode cX5_silence 1 = .ok (.istore_n 1, 1) := by decide +kernel
theorem dX5_silence_2 : decode cX5_silence 2 = .ok (.iload_n 1, 1) := by decide +kernel
theorem dX5_silence_3 : decode cX5_silence 3 = .ok (.sipush 192, 3) := by decide +kernel
theorem dX5_silence_6 : decode cX5_silence 6 = .ok (.if_icmp .ge 17, 3) := by decide +kernel
theorem dX5_silence_9 : decode cX5_silence 9 = .ok (.aload_n 0, 1) := by decide +kernel
theorem dX5_silence_10 : decode cX5_silence 10 = .ok (.getfield 9, 3) := by decide +kernel
theorem dX5_silence_13 : decode cX5_silence 13 = .ok (.iload_n 1, 1) := by decide +kernel
theorem dX5_silence_14 : decode cX5_silence 14 = .ok (.ldc 19, 2) := by decide +kernel
theorem dX5_silence_16 : decode cX5_silence 16 = .ok (.iastore, 1) := by decide +kernel
theorem dX5_silence_17 : decode cX5_silence 17 = .ok (.iinc 1 1, 3) := by decide +kernel
theorem dX5_silence_20 : decode cX5_silence 20 = .ok (.goto (-18), 3) := by decide +kernel
theorem dX5_silence_23 : decode cX5_silence 23 = .ok (.return_, 1) := by decide +kernel
theorem dX5_beatsTo_0 : decode cX5_beatsTo 0 = .ok (.iload_n 1, 1) := by decide +kernel
theorem dX5_beatsTo_1 : decode cX5_beatsTo 1 = .ok (.ifCond .lt 19, 3) := by decide +kernel
theorem dX5_beatsTo_4 : decode cX5_beatsTo 4 = .ok (.iload_n 1, 1) := by decide +kernel
theorem dX5_beatsTo_5 : decode cX5_beatsTo 5 = .ok (.sipush 192, 3) := by decide +kernel
theorem dX5_beatsTo_8 : decode cX5_beatsTo 8 = .ok (.if_icmp .ge 12, 3) := by decide +kernel
theorem dX5_beatsTo_11 : decode cX5_beatsTo 11 = .ok (.aload_n 0, 1) := by decide +kernel
theorem dX5_beatsTo_12 : decode cX5_beatsTo 12 = .ok (.getfield 9, 3) := by decide +kernel
theorem dX5_beatsTo_15 : decode cX5_beatsTo 15 = .ok (.iload_n 1, 1) := by decide +kernel
theorem dX5_beatsTo_16 : decode cX5_beatsTo 16 = .ok (.iaload, 1) := by decide +kernel
theorem dX5_beatsTo_17 : decode cX5_beatsTo 17 = .ok (.goto 5, 3) := by decide +kernel
theorem dX5_beatsTo_20 : decode cX5_beatsTo 20 = .ok (.ldc 19, 2) := by decide +kernel
theorem dX5_beatsTo_22 : decode cX5_beatsTo 22 = .ok (.ireturn, 1) := by decide +kernel
theorem dX6_init_0 : decode cX6_init 0 = .ok (.aload_n 0, 1) := by decide +kernel
theorem dX6_init_1 : decode cX6_init 1 = .ok (.invokespecial 3, 3) := by decide +kernel
theorem dX6_init_4 : decode cX6_init 4 = .ok (.aload_n 0, 1) := by decide +kernel
theorem dX6_init_5 : decode cX6_init 5 = .ok (.new 9, 3) := by decide +kernel
theorem dX6_init_8 : decode cX6_init 8 = .ok (.dup, 1) := by decide +kernel
theorem dX6_init_9 : decode cX6_init 9 = .ok (.invokespecial 11, 3) := by decide +kernel
theorem dX6_init_12 : decode cX6_init 12 = .ok (.putfield 12, 3) := by decide +kernel
theorem dX6_init_15 : decode cX6_init 15 = .ok (.aload_n 0, 1) := by decide +kernel
theorem dX6_init_16 : decode cX6_init 16 = .ok (.new 18, 3) := by decide +kernel
theorem dX6_init_19 : decode cX6_init 19 = .ok (.dup, 1) := by decide +kernel
theorem dX6_init_20 : decode cX6_init 20 = .ok (.invokespecial 20, 3) := by decide +kernel
theorem dX6_init_23 : decode cX6_init 23 = .ok (.putfield 21, 3) := by decide +kernel
theorem dX6_init_26 : decode cX6_init 26 = .ok (.return_, 1) := by decide +kernel
theorem dX6_start_0 : decode cX6_start 0 = .ok (.aload_n 0, 1) := by decide +kernel
theorem dX6_start_1 : decode cX6_start 1 = .ok (.getfield 21, 3) := by decide +kernel
theorem dX6_start_4 : decode cX6_start 4 = .ok (.aload_n 0, 1) := by decide +kernel
theorem dX6_start_5 : decode cX6_start 5 = .ok (.getfield 12, 3) := by decide +kernel
theorem dX6_start_8 : decode cX6_start 8 = .ok (.invokevirtual 25, 3) := by decide +kernel
theorem dX6_start_11 : decode cX6_start 11 = .ok (.return_, 1) := by decide +kernel
theorem dX6_isLevel_0 : decode cX6_isLevel 0 = .ok (.iload_n 1, 1) := by decide +kernel
theorem dX6_isLevel_1 : decode cX6_isLevel 1 = .ok (.ifCond .lt 18, 3) := by decide +kernel
theorem dX6_isLevel_4 : decode cX6_isLevel 4 = .ok (.iload_n 1, 1) := by decide +kernel
theorem dX6_isLevel_5 : decode cX6_isLevel 5 = .ok (.aload_n 0, 1) := by decide +kernel
theorem dX6_isLevel_6 : decode cX6_isLevel 6 = .ok (.getfield 12, 3) := by decide +kernel
theorem dX6_isLevel_9 : decode cX6_isLevel 9 = .ok (.getfield 29, 3) := by decide +kernel
theorem dX6_isLevel_12 : decode cX6_isLevel 12 = .ok (.if_icmp .ge 7, 3) := by decide +kernel
theorem dX6_isLevel_15 : decode cX6_isLevel 15 = .ok (.iconst 1, 1) := by decide +kernel
theorem dX6_isLevel_16 : decode cX6_isLevel 16 = .ok (.goto 4, 3) := by decide +kernel
theorem dX6_isLevel_19 : decode cX6_isLevel 19 = .ok (.iconst 0, 1) := by decide +kernel
theorem dX6_isLevel_20 : decode cX6_isLevel 20 = .ok (.ireturn, 1) := by decide +kernel
theorem dX6_isPlace_0 : decode cX6_isPlace 0 = .ok (.iload_n 1, 1) := by decide +kernel
theorem dX6_isPlace_1 : decode cX6_isPlace 1 = .ok (.ifCond .lt 18, 3) := by decide +kernel
theorem dX6_isPlace_4 : decode cX6_isPlace 4 = .ok (.iload_n 1, 1) := by decide +kernel
theorem dX6_isPlace_5 : decode cX6_isPlace 5 = .ok (.aload_n 0, 1) := by decide +kernel
theorem dX6_isPlace_6 : decode cX6_isPlace 6 = .ok (.getfield 12, 3) := by decide +kernel
theorem dX6_isPlace_9 : decode cX6_isPlace 9 = .ok (.getfield 33, 3) := by decide +kernel
theorem dX6_isPlace_12 : decode cX6_isPlace 12 = .ok (.if_icmp .ge 7, 3) := by decide +kernel
theorem dX6_isPlace_15 : decode cX6_isPlace 15 = .ok (.iconst 1, 1) := by decide +kernel
theorem dX6_isPlace_16 : decode cX6_isPlace 16 = .ok (.goto 4, 3) := by decide +kernel
theorem dX6_isPlace_19 : decode cX6_isPlace 19 = .ok (.iconst 0, 1) := by decide +kernel
theorem dX6_isPlace_20 : decode cX6_isPlace 20 = .ok (.ireturn, 1) := by decide +kernel
theorem dX6_isTown_0 : decode cX6_isTown 0 = .ok (.iload_n 1, 1) := by decide +kernel
theorem dX6_isTown_1 : decode cX6_isTown 1 = .ok (.ifCond .lt 18, 3) := by decide +kernel
theorem dX6_isTown_4 : decode cX6_isTown 4 = .ok (.iload_n 1, 1) := by decide +kernel
theorem dX6_isTown_5 : decode cX6_isTown 5 = .ok (.aload_n 0, 1) := by decide +kernel
theorem dX6_isTown_6 : decode cX6_isTown 6 = .ok (.getfield 12, 3) := by decide +kernel
theorem dX6_isTown_9 : decode cX6_isTown 9 = .ok (.getfield 36, 3) := by decide +kernel
theorem dX6_isTown_12 : decode cX6_isTown 12 = .ok (.if_icmp .ge 7, 3) := by decide +kernel
theorem dX6_isTown_15 : decode cX6_isTown 15 = .ok (.iconst 1, 1) := by decide +kernel
theorem dX6_isTown_16 : decode cX6_isTown 16 = .ok (.goto 4, 3) := by decide +kernel
theorem dX6_isTown_19 : decode cX6_isTown 19 = .ok (.iconst 0, 1) := by decide +kernel
theorem dX6_isTown_20 : decode cX6_isTown 20 = .ok (.ireturn, 1) := by decide +kernel
theorem dX6_isThing_0 : decode cX6_isThing 0 = .ok (.iload_n 1, 1) := by decide +kernel
theorem dX6_isThing_1 : decode cX6_isThing 1 = .ok (.ifCond .lt 18, 3) := by decide +kernel
theorem dX6_isThing_4 : decode cX6_isThing 4 = .ok (.iload_n 1, 1) := by decide +kernel
theorem dX6_isThing_5 : decode cX6_isThing 5 = .ok (.aload_n 0, 1) := by decide +kernel
theorem dX6_isThing_6 : decode cX6_isThing 6 = .ok (.getfield 21, 3) := by decide +kernel
theorem dX6_isThing_9 : decode cX6_isThing 9 = .ok (.getfield 39, 3) := by decide +kernel
theorem dX6_isThing_12 : decode cX6_isThing 12 = .ok (.if_icmp .ge 7, 3) := by decide +kernel
theorem dX6_isThing_15 : decode cX6_isThing 15 = .ok (.iconst 1, 1) := by decide +kernel
theorem dX6_isThing_16 : decode cX6_isThing 16 = .ok (.goto 4, 3) := by decide +kernel
theorem dX6_isThing_19 : decode cX6_isThing 19 = .ok (.iconst 0, 1) := by decide +kernel
theorem dX6_isThing_20 : decode cX6_isThing 20 = .ok (.ireturn, 1) := by decide +kernel
theorem dX6_townSpot_0 : decode cX6_townSpot 0 = .ok (.aload_n 0, 1) := by decide +kernel
theorem dX6_townSpot_1 : decode cX6_townSpot 1 = .ok (.getfield 12, 3) := by decide +kernel
theorem dX6_townSpot_4 : decode cX6_townSpot 4 = .ok (.getfield 42, 3) := by decide +kernel
theorem dX6_townSpot_7 : decode cX6_townSpot 7 = .ok (.iload_n 1, 1) := by decide +kernel
theorem dX6_townSpot_8 : decode cX6_townSpot 8 = .ok (.iaload, 1) := by decide +kernel
theorem dX6_townSpot_9 : decode cX6_townSpot 9 = .ok (.aload_n 0, 1) := by decide +kernel
theorem dX6_townSpot_10 : decode cX6_townSpot 10 = .ok (.getfield 21, 3) := by decide +kernel
theorem dX6_townSpot_13 : decode cX6_townSpot 13 = .ok (.getfield 46, 3) := by decide +kernel
theorem dX6_townSpot_16 : decode cX6_townSpot 16 = .ok (.iload_n 1, 1) := by decide +kernel
theorem dX6_townSpot_17 : decode cX6_townSpot 17 = .ok (.iaload, 1) := by decide +kernel
theorem dX6_townSpot_18 : decode cX6_townSpot 18 = .ok (.invokestatic 49, 3) := by decide +kernel
theorem dX6_townSpot_21 : decode cX6_townSpot 21 = .ok (.ireturn, 1) := by decide +kernel
theorem dX6_townAt_0 : decode cX6_townAt 0 = .ok (.iconst 0, 1) := by decide +kernel
theorem dX6_townAt_1 : decode cX6_townAt 1 = .ok (.istore 4, 2) := by decide +kernel
theorem dX6_townAt_3 : decode cX6_townAt 3 = .ok (.iload 4, 2) := by decide +kernel
theorem dX6_townAt_5 : decode cX6_townAt 5 = .ok (.aload_n 0, 1) := by decide +kernel
theorem dX6_townAt_6 : decode cX6_townAt 6 = .ok (.getfield 12, 3) := by decide +kernel
theorem dX6_townAt_9 : decode cX6_townAt 9 = .ok (.getfield 36, 3) := by decide +kernel
theorem dX6_townAt_12 : decode cX6_townAt 12 = .ok (.if_icmp .ge 62, 3) := by decide +kernel
theorem dX6_townAt_15 : decode cX6_townAt 15 = .ok (.iload 4, 2) := by decide +kernel
theorem dX6_townAt_17 : decode cX6_townAt 17 = .ok (.iload_n 3, 1) := by decide +kernel
theorem dX6_townAt_18 : decode cX6_townAt 18 = .ok (.if_icmp .eq 50, 3) := by decide +kernel
theorem dX6_townAt_21 : decode cX6_townAt 21 = .ok (.aload_n 0, 1) := by decide +kernel
theorem dX6_townAt_22 : decode cX6_townAt 22 = .ok (.getfield 21, 3) := by decide +kernel
theorem dX6_townAt_25 : decode cX6_townAt 25 = .ok (.getfield 53, 3) := by decide +kernel
theorem dX6_townAt_28 : decode cX6_townAt 28 = .ok (.iload 4, 2) := by decide +kernel
theorem dX6_townAt_30 : decode cX6_townAt 30 = .ok (.baload, 1) := by decide +kernel
theorem dX6_townAt_31 : decode cX6_townAt 31 = .ok (.ifCond .eq 6, 3) := by decide +kernel
theorem dX6_townAt_34 : decode cX6_townAt 34 = .ok (.goto 34, 3) := by decide +kernel
theorem dX6_townAt_37 : decode cX6_townAt 37 = .ok (.aload_n 0, 1) := by decide +kernel
theorem dX6_townAt_38 : decode cX6_townAt 38 = .ok (.getfield 12, 3) := by decide +kernel
theorem dX6_townAt_41 : decode cX6_townAt 41 = .ok (.getfield 42, 3) := by decide +kernel
theorem dX6_townAt_44 : decode cX6_townAt 44 = .ok (.iload 4, 2) := by decide +kernel
theorem dX6_townAt_46 : decode cX6_townAt 46 = .ok (.iaload, 1) := by decide +kernel
theorem dX6_townAt_47 : decode cX6_townAt 47 = .ok (.iload_n 1, 1) := by decide +kernel
theorem dX6_townAt_48 : decode cX6_townAt 48 = .ok (.if_icmp .ne 20, 3) := by decide +kernel
theorem dX6_townAt_51 : decode cX6_townAt 51 = .ok (.aload_n 0, 1) := by decide +kernel
theorem dX6_townAt_52 : decode cX6_townAt 52 = .ok (.getfield 21, 3) := by decide +kernel
theorem dX6_townAt_55 : decode cX6_townAt 55 = .ok (.getfield 46, 3) := by decide +kernel
theorem dX6_townAt_58 : decode cX6_townAt 58 = .ok (.iload 4, 2) := by decide +kernel
theorem dX6_townAt_60 : decode cX6_townAt 60 = .ok (.iaload, 1) := by decide +kernel
theorem dX6_townAt_61 : decode cX6_townAt 61 = .ok (.iload_n 2, 1) := by decide +kernel
theorem dX6_townAt_62 : decode cX6_townAt 62 = .ok (.if_icmp .ne 6, 3) := by decide +kernel
theorem dX6_townAt_65 : decode cX6_townAt 65 = .ok (.iload 4, 2) := by decide +kernel
theorem dX6_townAt_67 : decode cX6_townAt 67 = .ok (.ireturn, 1) := by decide +kernel
theorem dX6_townAt_68 : decode cX6_townAt 68 = .ok (.iinc 4 1, 3) := by decide +kernel
theorem dX6_townAt_71 : decode cX6_townAt 71 = .ok (.goto (-68), 3) := by decide +kernel
theorem dX6_townAt_74 : decode cX6_townAt 74 = .ok (.bipush (-4), 2) := by decide +kernel
theorem dX6_townAt_76 : decode cX6_townAt 76 = .ok (.ireturn, 1) := by decide +kernel
theorem dX7_init_0 : decode cX7_init 0 = .ok (.aload_n 0, 1) := by decide +kernel
theorem dX7_init_1 : decode cX7_init 1 = .ok (.invokespecial 3, 3) := by decide +kernel
theorem dX7_init_4 : decode cX7_init 4 = .ok (.aload_n 0, 1) := by decide +kernel
theorem dX7_init_5 : decode cX7_init 5 = .ok (.sipush 192, 3) := by decide +kernel
theorem dX7_init_8 : decode cX7_init 8 = .ok (.anewarray 9, 3) := by decide +kernel
theorem dX7_init_11 : decode cX7_init 11 = .ok (.putfield 11, 3) := by decide +kernel
theorem dX7_init_14 : decode cX7_init 14 = .ok (.aload_n 0, 1) := by decide +kernel
theorem dX7_init_15 : decode cX7_init 15 = .ok (.new 9, 3) := by decide +kernel
theorem dX7_init_18 : decode cX7_init 18 = .ok (.dup, 1) := by decide +kernel
theorem dX7_init_19 : decode cX7_init 19 = .ok (.invokespecial 17, 3) := by decide +kernel
theorem dX7_init_22 : decode cX7_init 22 = .ok (.putfield 18, 3) := by decide +kernel
theorem dX7_init_25 : decode cX7_init 25 = .ok (.aload_n 0, 1) := by decide +kernel
theorem dX7_init_26 : decode cX7_init 26 = .ok (.sipush 192, 3) := by decide +kernel
theorem dX7_init_29 : decode cX7_init 29 = .ok (.newarray .boolean, 2) := by decide +kernel
theorem dX7_init_31 : decode cX7_init 31 = .ok (.putfield 22, 3) := by decide +kernel
theorem dX7_init_34 : decode cX7_init 34 = .ok (.aload_n 0, 1) := by decide +kernel
theorem dX7_init_35 : decode cX7_init 35 = .ok (.aload_n 1, 1) := by decide +kernel
theorem dX7_init_36 : decode cX7_init 36 = .ok (.putfield 26, 3) := by decide +kernel
theorem dX7_init_39 : decode cX7_init 39 = .ok (.aload_n 0, 1) := by decide +kernel
theorem dX7_init_40 : decode cX7_init 40 = .ok (.getfield 18, 3) := by decide +kernel
theorem dX7_init_43 : decode cX7_init 43 = .ok (.invokevirtual 30, 3) := by decide +kernel
theorem dX7_init_46 : decode cX7_init 46 = .ok (.return_, 1) := by decide +kernel
theorem dX7_start_0 : decode cX7_start 0 = .ok (.iconst 0, 1) := by decide +kernel
theorem dX7_start_1 : decode cX7_start 1 = .ok (.istore_n 1, 1) := by decide +kernel
theorem dX7_start_2 : decode cX7_start 2 = .ok (.iload_n 1, 1) := by decide +kernel
theorem dX7_start_3 : decode cX7_start 3 = .ok (.sipush 192, 3) := by decide +kernel
theorem dX7_start_6 : decode cX7_start 6 = .ok (.if_icmp .ge 35, 3) := by decide +kernel
theorem dX7_start_9 : decode cX7_start 9 = .ok (.aload_n 0, 1) := by decide +kernel
theorem dX7_start_10 : decode cX7_start 10 = .ok (.getfield 22, 3) := by decide +kernel
theorem dX7_start_13 : decode cX7_start 13 = .ok (.iload_n 1, 1) := by decide +kernel
theorem dX7_start_14 : decode cX7_start 14 = .ok (.iconst 0, 1) := by decide +kernel
theorem dX7_start_15 : decode cX7_start 15 = .ok (.bastore, 1) := by decide +kernel
theorem dX7_start_16 : decode cX7_start 16 = .ok (.aload_n 0, 1) := by decide +kernel
theorem dX7_start_17 : decode cX7_start 17 = .ok (.getfield 11, 3) := by decide +kernel
theorem dX7_start_20 : decode cX7_start 20 = .ok (.iload_n 1, 1) := by decide +kernel
theorem dX7_start_21 : decode cX7_start 21 = .ok (.aaload, 1) := by decide +kernel
theorem dX7_start_22 : decode cX7_start 22 = .ok (.ifnull 13, 3) := by decide +kernel
theorem dX7_start_25 : decode cX7_start 25 = .ok (.aload_n 0, 1) := by decide +kernel
theorem dX7_start_26 : decode cX7_start 26 = .ok (.getfield 11, 3) := by decide +kernel
theorem dX7_start_29 : decode cX7_start 29 = .ok (.iload_n 1, 1) := by decide +kernel
theorem dX7_start_30 : decode cX7_start 30 = .ok (.aaload, 1) := by decide +kernel
theorem dX7_start_31 : decode cX7_start 31 = .ok (.iconst 0, 1) := by decide +kernel
theorem dX7_start_32 : decode cX7_start 32 = .ok (.putfield 33, 3) := by decide +kernel
theorem dX7_start_35 : decode cX7_start 35 = .ok (.iinc 1 1, 3) := by decide +kernel
theorem dX7_start_38 : decode cX7_start 38 = .ok (.goto (-36), 3) := by decide +kernel
theorem dX7_start_41 : decode cX7_start 41 = .ok (.iconst 0, 1) := by decide +kernel
theorem dX7_start_42 : decode cX7_start 42 = .ok (.istore_n 1, 1) := by decide +kernel
theorem dX7_start_43 : decode cX7_start 43 = .ok (.iload_n 1, 1) := by decide +kernel
theorem dX7_start_44 : decode cX7_start 44 = .ok (.aload_n 0, 1) := by decide +kernel
theorem dX7_start_45 : decode cX7_start 45 = .ok (.getfield 26, 3) := by decide +kernel
theorem dX7_start_48 : decode cX7_start 48 = .ok (.getfield 37, 3) := by decide +kernel
theorem dX7_start_51 : decode cX7_start 51 = .ok (.getfield 43, 3) := by decide +kernel
theorem dX7_start_54 : decode cX7_start 54 = .ok (.if_icmp .ge 42, 3) := by decide +kernel
theorem dX7_start_57 : decode cX7_start 57 = .ok (.aload_n 0, 1) := by decide +kernel
theorem dX7_start_58 : decode cX7_start 58 = .ok (.getfield 22, 3) := by decide +kernel
theorem dX7_start_61 : decode cX7_start 61 = .ok (.aload_n 0, 1) := by decide +kernel
theorem dX7_start_62 : decode cX7_start 62 = .ok (.getfield 26, 3) := by decide +kernel
theorem dX7_start_65 : decode cX7_start 65 = .ok (.getfield 37, 3) := by decide +kernel
theorem dX7_start_68 : decode cX7_start 68 = .ok (.getfield 49, 3) := by decide +kernel
theorem dX7_start_71 : decode cX7_start 71 = .ok (.iload_n 1, 1) := by decide +kernel
theorem dX7_start_72 : decode cX7_start 72 = .ok (.iaload, 1) := by decide +kernel
theorem dX7_start_73 : decode cX7_start 73 = .ok (.aload_n 0, 1) := by decide +kernel
theorem dX7_start_74 : decode cX7_start 74 = .ok (.getfield 26, 3) := by decide +kernel
theorem dX7_start_77 : decode cX7_start 77 = .ok (.getfield 37, 3) := by decide +kernel
theorem dX7_start_80 : decode cX7_start 80 = .ok (.getfield 53, 3) := by decide +kernel
theorem dX7_start_83 : decode cX7_start 83 = .ok (.iload_n 1, 1) := by decide +kernel
theorem dX7_start_84 : decode cX7_start 84 = .ok (.iaload, 1) := by decide +kernel
theorem dX7_start_85 : decode cX7_start 85 = .ok (.invokestatic 56, 3) := by decide +kernel
theorem dX7_start_88 : decode cX7_start 88 = .ok (.iconst 1, 1) := by decide +kernel
theorem dX7_start_89 : decode cX7_start 89 = .ok (.bastore, 1) := by decide +kernel
theorem dX7_start_90 : decode cX7_start 90 = .ok (.iinc 1 1, 3) := by decide +kernel
theorem dX7_start_93 : decode cX7_start 93 = .ok (.goto (-50), 3) := by decide +kernel
theorem dX7_start_96 : decode cX7_start 96 = .ok (.return_, 1) := by decide +kernel
theorem dX7_isOpen_0 : decode cX7_isOpen 0 = .ok (.iload_n 1, 1) := by decide +kernel
theorem dX7_isOpen_1 : decode cX7_isOpen 1 = .ok (.ifCond .lt 23, 3) := by decide +kernel
theorem dX7_isOpen_4 : decode cX7_isOpen 4 = .ok (.iload_n 1, 1) := by decide +kernel
theorem dX7_isOpen_5 : decode cX7_isOpen 5 = .ok (.sipush 192, 3) := by decide +kernel
theorem dX7_isOpen_8 : decode cX7_isOpen 8 = .ok (.if_icmp .ge 16, 3) := by decide +kernel
theorem dX7_isOpen_11 : decode cX7_isOpen 11 = .ok (.aload_n 0, 1) := by decide +kernel
theorem dX7_isOpen_12 : decode cX7_isOpen 12 = .ok (.getfield 22, 3) := by decide +kernel
theorem dX7_isOpen_15 : decode cX7_isOpen 15 = .ok (.iload_n 1, 1) := by decide +kernel
theorem dX7_isOpen_16 : decode cX7_isOpen 16 = .ok (.baload, 1) := by decide +kernel
theorem dX7_isOpen_17 : decode cX7_isOpen 17 = .ok (.ifCond .ne 7, 3) := by decide +kernel
theorem dX7_isOpen_20 : decode cX7_isOpen 20 = .ok (.iconst 1, 1) := by decide +kernel
theorem dX7_isOpen_21 : decode cX7_isOpen 21 = .ok (.goto 4, 3) := by decide +kernel
theorem dX7_isOpen_24 : decode cX7_isOpen 24 = .ok (.iconst 0, 1) := by decide +kernel
theorem dX7_isOpen_25 : decode cX7_isOpen 25 = .ok (.ireturn, 1) := by decide +kernel
theorem dX7_rowFrom_0 : decode cX7_rowFrom 0 = .ok (.aload_n 0, 1) := by decide +kernel
theorem dX7_rowFrom_1 : decode cX7_rowFrom 1 = .ok (.iload_n 1, 1) := by decide +kernel
theorem dX7_rowFrom_2 : decode cX7_rowFrom 2 = .ok (.invokevirtual 60, 3) := by decide +kernel
theorem dX7_rowFrom_5 : decode cX7_rowFrom 5 = .ok (.ifCond .ne 8, 3) := by decide +kernel
theorem dX7_rowFrom_8 : decode cX7_rowFrom 8 = .ok (.aload_n 0, 1) := by decide +kernel
theorem dX7_rowFrom_9 : decode cX7_rowFrom 9 = .ok (.getfield 18, 3) := by decide +kernel
theorem dX7_rowFrom_12 : decode cX7_rowFrom 12 = .ok (.areturn, 1) := by decide +kernel
theorem dX7_rowFrom_13 : decode cX7_rowFrom 13 = .ok (.aload_n 0, 1) := by decide +kernel
theorem dX7_rowFrom_14 : decode cX7_rowFrom 14 = .ok (.getfield 11, 3) := by decide +kernel
theorem dX7_rowFrom_17 : decode cX7_rowFrom 17 = .ok (.iload_n 1, 1) := by decide +kernel
theorem dX7_rowFrom_18 : decode cX7_rowFrom 18 = .ok (.aaload, 1) := by decide +kernel
theorem dX7_rowFrom_19 : decode cX7_rowFrom 19 = .ok (.astore_n 2, 1) := by decide +kernel
theorem dX7_rowFrom_20 : decode cX7_rowFrom 20 = .ok (.aload_n 2, 1) := by decide +kernel
theorem dX7_rowFrom_21 : decode cX7_rowFrom 21 = .ok (.ifnonnull 18, 3) := by decide +kernel
theorem dX7_rowFrom_24 : decode cX7_rowFrom 24 = .ok (.new 9, 3) := by decide +kernel
theorem dX7_rowFrom_27 : decode cX7_rowFrom 27 = .ok (.dup, 1) := by decide +kernel
theorem dX7_rowFrom_28 : decode cX7_rowFrom 28 = .ok (.invokespecial 17, 3) := by decide +kernel
theorem dX7_rowFrom_31 : decode cX7_rowFrom 31 = .ok (.astore_n 2, 1) := by decide +kernel
theorem dX7_rowFrom_32 : decode cX7_rowFrom 32 = .ok (.aload_n 0, 1) := by decide +kernel
theorem dX7_rowFrom_33 : decode cX7_rowFrom 33 = .ok (.getfield 11, 3) := by decide +kernel
theorem dX7_rowFrom_36 : decode cX7_rowFrom 36 = .ok (.iload_n 1, 1) := by decide +kernel
theorem dX7_rowFrom_37 : decode cX7_rowFrom 37 = .ok (.aload_n 2, 1) := by decide +kernel
theorem dX7_rowFrom_38 : decode cX7_rowFrom 38 = .ok (.aastore, 1) := by decide +kernel
theorem dX7_rowFrom_39 : decode cX7_rowFrom 39 = .ok (.aload_n 2, 1) := by decide +kernel
theorem dX7_rowFrom_40 : decode cX7_rowFrom 40 = .ok (.getfield 33, 3) := by decide +kernel
theorem dX7_rowFrom_43 : decode cX7_rowFrom 43 = .ok (.ifCond .ne 9, 3) := by decide +kernel
theorem dX7_rowFrom_46 : decode cX7_rowFrom 46 = .ok (.aload_n 0, 1) := by decide +kernel
theorem dX7_rowFrom_47 : decode cX7_rowFrom 47 = .ok (.aload_n 2, 1) := by decide +kernel
theorem dX7_rowFrom_48 : decode cX7_rowFrom 48 = .ok (.iload_n 1, 1) := by decide +kernel
theorem dX7_rowFrom_49 : decode cX7_rowFrom 49 = .ok (.invokevirtual 64, 3) := by decide +kernel
theorem dX7_rowFrom_52 : decode cX7_rowFrom 52 = .ok (.aload_n 2, 1) := by decide +kernel
theorem dX7_rowFrom_53 : decode cX7_rowFrom 53 = .ok (.areturn, 1) := by decide +kernel
theorem dX7_fill_0 : decode cX7_fill 0 = .ok (.aload_n 0, 1) := by decide +kernel
theorem dX7_fill_1 : decode cX7_fill 1 = .ok (.getfield 26, 3) := by decide +kernel
theorem dX7_fill_4 : decode cX7_fill 4 = .ok (.getfield 37, 3) := by decide +kernel
theorem dX7_fill_7 : decode cX7_fill 7 = .ok (.getfield 68, 3) := by decide +kernel
theorem dX7_fill_10 : decode cX7_fill 10 = .ok (.iconst 1, 1) := by decide +kernel
theorem dX7_fill_11 : decode cX7_fill 11 = .ok (.isub, 1) := by decide +kernel
theorem dX7_fill_12 : decode cX7_fill 12 = .ok (.istore_n 3, 1) := by decide +kernel
theorem dX7_fill_13 : decode cX7_fill 13 = .ok (.aload_n 0, 1) := by decide +kernel
theorem dX7_fill_14 : decode cX7_fill 14 = .ok (.getfield 26, 3) := by decide +kernel
theorem dX7_fill_17 : decode cX7_fill 17 = .ok (.getfield 37, 3) := by decide +kernel
theorem dX7_fill_20 : decode cX7_fill 20 = .ok (.getfield 71, 3) := by decide +kernel
theorem dX7_fill_23 : decode cX7_fill 23 = .ok (.iconst 1, 1) := by decide +kernel
theorem dX7_fill_24 : decode cX7_fill 24 = .ok (.isub, 1) := by decide +kernel
theorem dX7_fill_25 : decode cX7_fill 25 = .ok (.istore 4, 2) := by decide +kernel
theorem dX7_fill_27 : decode cX7_fill 27 = .ok (.aload_n 1, 1) := by decide +kernel
theorem dX7_fill_28 : decode cX7_fill 28 = .ok (.invokevirtual 30, 3) := by decide +kernel
theorem dX7_fill_31 : decode cX7_fill 31 = .ok (.aload_n 1, 1) := by decide +kernel
theorem dX7_fill_32 : decode cX7_fill 32 = .ok (.getfield 74, 3) := by decide +kernel
theorem dX7_fill_35 : decode cX7_fill 35 = .ok (.iload_n 2, 1) := by decide +kernel
theorem dX7_fill_36 : decode cX7_fill 36 = .ok (.iconst 0, 1) := by decide +kernel
theorem dX7_fill_37 : decode cX7_fill 37 = .ok (.iastore, 1) := by decide +kernel
theorem dX7_fill_38 : decode cX7_fill 38 = .ok (.iconst 1, 1) := by decide +kernel
theorem dX7_fill_39 : decode cX7_fill 39 = .ok (.istore 5, 2) := by decide +kernel
theorem dX7_fill_41 : decode cX7_fill 41 = .ok (.iconst 0, 1) := by decide +kernel
theorem dX7_fill_42 : decode cX7_fill 42 = .ok (.istore 6, 2) := by decide +kernel
theorem dX7_fill_44 : decode cX7_fill 44 = .ok (.iload 5, 2) := by decide +kernel
theorem dX7_fill_46 : decode cX7_fill 46 = .ok (.ifCond .eq 108, 3) := by decide +kernel
theorem dX7_fill_49 : decode cX7_fill 49 = .ok (.iload 6, 2) := by decide +kernel
theorem dX7_fill_51 : decode cX7_fill 51 = .ok (.sipush 192, 3) := by decide +kernel
theorem dX7_fill_54 : decode cX7_fill 54 = .ok (.if_icmp .gt 100, 3) := by decide +kernel
theorem dX7_fill_57 : decode cX7_fill 57 = .ok (.iload 6, 2) := by decide +kernel
theorem dX7_fill_59 : decode cX7_fill 59 = .ok (.iconst 2, 1) := by decide +kernel
theorem dX7_fill_60 : decode cX7_fill 60 = .ok (.irem, 1) := by decide +kernel
theorem dX7_fill_61 : decode cX7_fill 61 = .ok (.ifCond .ne 7, 3) := by decide +kernel
theorem dX7_fill_64 : decode cX7_fill 64 = .ok (.iconst 1, 1) := by decide +kernel
theorem dX7_fill_65 : decode cX7_fill 65 = .ok (.goto 4, 3) := by decide +kernel
theorem dX7_fill_68 : decode cX7_fill 68 = .ok (.iconst 0, 1) := by decide +kernel
theorem dX7_fill_69 : decode cX7_fill 69 = .ok (.istore 7, 2) := by decide +kernel
theorem dX7_fill_71 : decode cX7_fill 71 = .ok (.iconst 0, 1) := by decide +kernel
theorem dX7_fill_72 : decode cX7_fill 72 = .ok (.istore 5, 2) := by decide +kernel
theorem dX7_fill_74 : decode cX7_fill 74 = .ok (.iconst 0, 1) := by decide +kernel
theorem dX7_fill_75 : decode cX7_fill 75 = .ok (.istore 8, 2) := by decide +kernel
theorem dX7_fill_77 : decode cX7_fill 77 = .ok (.iload 8, 2) := by decide +kernel
theorem dX7_fill_79 : decode cX7_fill 79 = .ok (.iload_n 3, 1) := by decide +kernel
theorem dX7_fill_80 : decode cX7_fill 80 = .ok (.if_icmp .gt 68, 3) := by decide +kernel
theorem dX7_fill_83 : decode cX7_fill 83 = .ok (.iconst 0, 1) := by decide +kernel
theorem dX7_fill_84 : decode cX7_fill 84 = .ok (.istore 9, 2) := by decide +kernel
theorem dX7_fill_86 : decode cX7_fill 86 = .ok (.iload 9, 2) := by decide +kernel
theorem dX7_fill_88 : decode cX7_fill 88 = .ok (.iload 4, 2) := by decide +kernel
theorem dX7_fill_90 : decode cX7_fill 90 = .ok (.if_icmp .gt 52, 3) := by decide +kernel
theorem dX7_fill_93 : decode cX7_fill 93 = .ok (.aload_n 0, 1) := by decide +kernel
theorem dX7_fill_94 : decode cX7_fill 94 = .ok (.aload_n 1, 1) := by decide +kernel
theorem dX7_fill_95 : decode cX7_fill 95 = .ok (.getfield 74, 3) := by decide +kernel
theorem dX7_fill_98 : decode cX7_fill 98 = .ok (.iload 7, 2) := by decide +kernel
theorem dX7_fill_100 : decode cX7_fill 100 = .ok (.ifCond .eq 8, 3) := by decide +kernel
theorem dX7_fill_103 : decode cX7_fill 103 = .ok (.iload 8, 2) := by decide +kernel
theorem dX7_fill_105 : decode cX7_fill 105 = .ok (.goto 7, 3) := by decide +kernel
theorem dX7_fill_108 : decode cX7_fill 108 = .ok (.iload_n 3, 1) := by decide +kernel
theorem dX7_fill_109 : decode cX7_fill 109 = .ok (.iload 8, 2) := by decide +kernel
theorem dX7_fill_111 : decode cX7_fill 111 = .ok (.isub, 1) := by decide +kernel
theorem dX7_fill_112 : decode cX7_fill 112 = .ok (.iload 7, 2) := by decide +kernel
theorem dX7_fill_114 : decode cX7_fill 114 = .ok (.ifCond .eq 8, 3) := by decide +kernel
theorem dX7_fill_117 : decode cX7_fill 117 = .ok (.iload 9, 2) := by decide +kernel
theorem dX7_fill_119 : decode cX7_fill 119 = .ok (.goto 8, 3) := by decide +kernel
theorem dX7_fill_122 : decode cX7_fill 122 = .ok (.iload 4, 2) := by decide +kernel
theorem dX7_fill_124 : decode cX7_fill 124 = .ok (.iload 9, 2) := by decide +kernel
theorem dX7_fill_126 : decode cX7_fill 126 = .ok (.isub, 1) := by decide +kernel
theorem dX7_fill_127 : decode cX7_fill 127 = .ok (.invokevirtual 77, 3) := by decide +kernel
theorem dX7_fill_130 : decode cX7_fill 130 = .ok (.ifCond .eq 6, 3) := by decide +kernel
theorem dX7_fill_133 : decode cX7_fill 133 = .ok (.iconst 1, 1) := by decide +kernel
theorem dX7_fill_134 : decode cX7_fill 134 = .ok (.istore 5, 2) := by decide +kernel
theorem dX7_fill_136 : decode cX7_fill 136 = .ok (.iinc 9 1, 3) := by decide +kernel
theorem dX7_fill_139 : decode cX7_fill 139 = .ok (.goto (-53), 3) := by decide +kernel
theorem dX7_fill_142 : decode cX7_fill 142 = .ok (.iinc 8 1, 3) := by decide +kernel
theorem dX7_fill_145 : decode cX7_fill 145 = .ok (.goto (-68), 3) := by decide +kernel
theorem dX7_fill_148 : decode cX7_fill 148 = .ok (.iinc 6 1, 3) := by decide +kernel
theorem dX7_fill_151 : decode cX7_fill 151 = .ok (.goto (-107), 3) := by decide +kernel
theorem dX7_fill_154 : decode cX7_fill 154 = .ok (.aload_n 1, 1) := by decide +kernel
theorem dX7_fill_155 : decode cX7_fill 155 = .ok (.iconst 1, 1) := by decide +kernel
theorem dX7_fill_156 : decode cX7_fill 156 = .ok (.putfield 33, 3) := by decide +kernel
theorem dX7_fill_159 : decode cX7_fill 159 = .ok (.return_, 1) := by decide +kernel
theorem dX7_improve_0 : decode cX7_improve 0 = .ok (.aload_n 0, 1) := by decide +kernel
theorem dX7_improve_1 : decode cX7_improve 1 = .ok (.getfield 26, 3) := by decide +kernel
theorem dX7_improve_4 : decode cX7_improve 4 = .ok (.getfield 37, 3) := by decide +kernel
theorem dX7_improve_7 : decode cX7_improve 7 = .ok (.astore 4, 2) := by decide +kernel
theorem dX7_improve_9 : decode cX7_improve 9 = .ok (.bipush 24, 2) := by decide +kernel
theorem dX7_improve_11 : decode cX7_improve 11 = .ok (.iload_n 2, 1) := by decide +kernel
theorem dX7_improve_12 : decode cX7_improve 12 = .ok (.imul, 1) := by decide +kernel
theorem dX7_improve_13 : decode cX7_improve 13 = .ok (.iload_n 3, 1) := by decide +kernel
theorem dX7_improve_14 : decode cX7_improve 14 = .ok (.iadd, 1) := by decide +kernel
theorem dX7_improve_15 : decode cX7_improve 15 = .ok (.istore 5, 2) := by decide +kernel
theorem dX7_improve_17 : decode cX7_improve 17 = .ok (.aload_n 0, 1) := by decide +kernel
theorem dX7_improve_18 : decode cX7_improve 18 = .ok (.getfield 22, 3) := by decide +kernel
theorem dX7_improve_21 : decode cX7_improve 21 = .ok (.iload 5, 2) := by decide +kernel
theorem dX7_improve_23 : decode cX7_improve 23 = .ok (.baload, 1) := by decide +kernel
theorem dX7_improve_24 : decode cX7_improve 24 = .ok (.ifCond .eq 5, 3) := by decide +kernel
theorem dX7_improve_27 : decode cX7_improve 27 = .ok (.iconst 0, 1) := by decide +kernel
theorem dX7_improve_28 : decode cX7_improve 28 = .ok (.ireturn, 1) := by decide +kernel
theorem dX7_improve_29 : decode cX7_improve 29 = .ok (.iload_n 3, 1) := by decide +kernel
theorem dX7_improve_30 : decode cX7_improve 30 = .ok (.iconst 1, 1) := by decide +kernel
theorem dX7_improve_31 : decode cX7_improve 31 = .ok (.iadd, 1) := by decide +kernel
theorem dX7_improve_32 : decode cX7_improve 32 = .ok (.aload 4, 2) := by decide +kernel
theorem dX7_improve_34 : decode cX7_improve 34 = .ok (.getfield 71, 3) := by decide +kernel
theorem dX7_improve_37 : decode cX7_improve 37 = .ok (.if_icmp .ge 10, 3) := by decide +kernel
theorem dX7_improve_40 : decode cX7_improve 40 = .ok (.iload 5, 2) := by decide +kernel
theorem dX7_improve_42 : decode cX7_improve 42 = .ok (.iconst 1, 1) := by decide +kernel
theorem dX7_improve_43 : decode cX7_improve 43 = .ok (.iadd, 1) := by decide +kernel
theorem dX7_improve_44 : decode cX7_improve 44 = .ok (.goto 7, 3) := by decide +kernel
theorem dX7_improve_47 : decode cX7_improve 47 = .ok (.iload 5, 2) := by decide +kernel
theorem dX7_improve_49 : decode cX7_improve 49 = .ok (.iload_n 3, 1) := by decide +kernel
theorem dX7_improve_50 : decode cX7_improve 50 = .ok (.isub, 1) := by decide +kernel
theorem dX7_improve_51 : decode cX7_improve 51 = .ok (.istore 6, 2) := by decide +kernel
theorem dX7_improve_53 : decode cX7_improve 53 = .ok (.iload_n 3, 1) := by decide +kernel
theorem dX7_improve_54 : decode cX7_improve 54 = .ok (.ifCond .le 10, 3) := by decide +kernel
theorem dX7_improve_57 : decode cX7_improve 57 = .ok (.iload 5, 2) := by decide +kernel
theorem dX7_improve_59 : decode cX7_improve 59 = .ok (.iconst 1, 1) := by decide +kernel
theorem dX7_improve_60 : decode cX7_improve 60 = .ok (.isub, 1) := by decide +kernel
theorem dX7_improve_61 : decode cX7_improve 61 = .ok (.goto 13, 3) := by decide +kernel
theorem dX7_improve_64 : decode cX7_improve 64 = .ok (.iload 5, 2) := by decide +kernel
theorem dX7_improve_66 : decode cX7_improve 66 = .ok (.aload 4, 2) := by decide +kernel
theorem dX7_improve_68 : decode cX7_improve 68 = .ok (.getfield 71, 3) := by decide +kernel
theorem dX7_improve_71 : decode cX7_improve 71 = .ok (.iadd, 1) := by decide +kernel
theorem dX7_improve_72 : decode cX7_improve 72 = .ok (.iconst 1, 1) := by decide +kernel
theorem dX7_improve_73 : decode cX7_improve 73 = .ok (.isub, 1) := by decide +kernel
theorem dX7_improve_74 : decode cX7_improve 74 = .ok (.istore 7, 2) := by decide +kernel
theorem dX7_improve_76 : decode cX7_improve 76 = .ok (.aload_n 1, 1) := by decide +kernel
theorem dX7_improve_77 : decode cX7_improve 77 = .ok (.iload 6, 2) := by decide +kernel
theorem dX7_improve_79 : decode cX7_improve 79 = .ok (.iaload, 1) := by decide +kernel
theorem dX7_improve_80 : decode cX7_improve 80 = .ok (.aload_n 1, 1) := by decide +kernel
theorem dX7_improve_81 : decode cX7_improve 81 = .ok (.iload 7, 2) := by decide +kernel
theorem dX7_improve_83 : decode cX7_improve 83 = .ok (.iaload, 1) := by decide +kernel
theorem dX7_improve_84 : decode cX7_improve 84 = .ok (.if_icmp .ge 12, 3) := by decide +kernel
theorem dX7_improve_87 : decode cX7_improve 87 = .ok (.aload_n 1, 1) := by decide +kernel
theorem dX7_improve_88 : decode cX7_improve 88 = .ok (.iload 6, 2) := by decide +kernel
theorem dX7_improve_90 : decode cX7_improve 90 = .ok (.iaload, 1) := by decide +kernel
theorem dX7_improve_91 : decode cX7_improve 91 = .ok (.iconst 1, 1) := by decide +kernel
theorem dX7_improve_92 : decode cX7_improve 92 = .ok (.iadd, 1) := by decide +kernel
theorem dX7_improve_93 : decode cX7_improve 93 = .ok (.goto 9, 3) := by decide +kernel
theorem dX7_improve_96 : decode cX7_improve 96 = .ok (.aload_n 1, 1) := by decide +kernel
theorem dX7_improve_97 : decode cX7_improve 97 = .ok (.iload 7, 2) := by decide +kernel
theorem dX7_improve_99 : decode cX7_improve 99 = .ok (.iaload, 1) := by decide +kernel
theorem dX7_improve_100 : decode cX7_improve 100 = .ok (.iconst 1, 1) := by decide +kernel
theorem dX7_improve_101 : decode cX7_improve 101 = .ok (.iadd, 1) := by decide +kernel
theorem dX7_improve_102 : decode cX7_improve 102 = .ok (.istore 8, 2) := by decide +kernel
theorem dX7_improve_104 : decode cX7_improve 104 = .ok (.iload_n 2, 1) := by decide +kernel
theorem dX7_improve_105 : decode cX7_improve 105 = .ok (.ifCond .le 44, 3) := by decide +kernel
theorem dX7_improve_108 : decode cX7_improve 108 = .ok (.aload_n 1, 1) := by decide +kernel
theorem dX7_improve_109 : decode cX7_improve 109 = .ok (.iload 5, 2) := by decide +kernel
theorem dX7_improve_111 : decode cX7_improve 111 = .ok (.bipush 24, 2) := by decide +kernel
theorem dX7_improve_113 : decode cX7_improve 113 = .ok (.isub, 1) := by decide +kernel
theorem dX7_improve_114 : decode cX7_improve 114 = .ok (.iaload, 1) := by decide +kernel
theorem dX7_improve_115 : decode cX7_improve 115 = .ok (.aload 4, 2) := by decide +kernel
theorem dX7_improve_117 : decode cX7_improve 117 = .ok (.getfield 81, 3) := by decide +kernel
theorem dX7_improve_120 : decode cX7_improve 120 = .ok (.iload_n 2, 1) := by decide +kernel
theorem dX7_improve_121 : decode cX7_improve 121 = .ok (.iconst 1, 1) := by decide +kernel
theorem dX7_improve_122 : decode cX7_improve 122 = .ok (.isub, 1) := by decide +kernel
theorem dX7_improve_123 : decode cX7_improve 123 = .ok (.iaload, 1) := by decide +kernel
theorem dX7_improve_124 : decode cX7_improve 124 = .ok (.iadd, 1) := by decide +kernel
theorem dX7_improve_125 : decode cX7_improve 125 = .ok (.iload 8, 2) := by decide +kernel
theorem dX7_improve_127 : decode cX7_improve 127 = .ok (.if_icmp .ge 22, 3) := by decide +kernel
theorem dX7_improve_130 : decode cX7_improve 130 = .ok (.aload_n 1, 1) := by decide +kernel
theorem dX7_improve_131 : decode cX7_improve 131 = .ok (.iload 5, 2) := by decide +kernel
theorem dX7_improve_133 : decode cX7_improve 133 = .ok (.bipush 24, 2) := by decide +kernel
theorem dX7_improve_135 : decode cX7_improve 135 = .ok (.isub, 1) := by decide +kernel
theorem dX7_improve_136 : decode cX7_improve 136 = .ok (.iaload, 1) := by decide +kernel
theorem dX7_improve_137 : decode cX7_improve 137 = .ok (.aload 4, 2) := by decide +kernel
theorem dX7_improve_139 : decode cX7_improve 139 = .ok (.getfield 81, 3) := by decide +kernel
theorem dX7_improve_142 : decode cX7_improve 142 = .ok (.iload_n 2, 1) := by decide +kernel
theorem dX7_improve_143 : decode cX7_improve 143 = .ok (.iconst 1, 1) := by decide +kernel
theorem dX7_improve_144 : decode cX7_improve 144 = .ok (.isub, 1) := by decide +kernel
theorem dX7_improve_145 : decode cX7_improve 145 = .ok (.iaload, 1) := by decide +kernel
theorem dX7_improve_146 : decode cX7_improve 146 = .ok (.iadd, 1) := by decide +kernel
theorem dX7_improve_147 : decode cX7_improve 147 = .ok (.istore 8, 2) := by decide +kernel
theorem dX7_improve_149 : decode cX7_improve 149 = .ok (.iload_n 2, 1) := by decide +kernel
theorem dX7_improve_150 : decode cX7_improve 150 = .ok (.iconst 1, 1) := by decide +kernel
theorem dX7_improve_151 : decode cX7_improve 151 = .ok (.iadd, 1) := by decide +kernel
theorem dX7_improve_152 : decode cX7_improve 152 = .ok (.aload 4, 2) := by decide +kernel
theorem dX7_improve_154 : decode cX7_improve 154 = .ok (.getfield 68, 3) := by decide +kernel
theorem dX7_improve_157 : decode cX7_improve 157 = .ok (.if_icmp .ge 40, 3) := by decide +kernel
theorem dX7_improve_160 : decode cX7_improve 160 = .ok (.aload_n 1, 1) := by decide +kernel
theorem dX7_improve_161 : decode cX7_improve 161 = .ok (.iload 5, 2) := by decide +kernel
theorem dX7_improve_163 : decode cX7_improve 163 = .ok (.bipush 24, 2) := by decide +kernel
theorem dX7_improve_165 : decode cX7_improve 165 = .ok (.iadd, 1) := by decide +kernel
theorem dX7_improve_166 : decode cX7_improve 166 = .ok (.iaload, 1) := by decide +kernel
theorem dX7_improve_167 : decode cX7_improve 167 = .ok (.aload 4, 2) := by decide +kernel
theorem dX7_improve_169 : decode cX7_improve 169 = .ok (.getfield 81, 3) := by decide +kernel
theorem dX7_improve_172 : decode cX7_improve 172 = .ok (.iload_n 2, 1) := by decide +kernel
theorem dX7_improve_173 : decode cX7_improve 173 = .ok (.iaload, 1) := by decide +kernel
theorem dX7_improve_174 : decode cX7_improve 174 = .ok (.iadd, 1) := by decide +kernel
theorem dX7_improve_175 : decode cX7_improve 175 = .ok (.iload 8, 2) := by decide +kernel
theorem dX7_improve_177 : decode cX7_improve 177 = .ok (.if_icmp .ge 20, 3) := by decide +kernel
theorem dX7_improve_180 : decode cX7_improve 180 = .ok (.aload_n 1, 1) := by decide +kernel
theorem dX7_improve_181 : decode cX7_improve 181 = .ok (.iload 5, 2) := by decide +kernel
theorem dX7_improve_183 : decode cX7_improve 183 = .ok (.bipush 24, 2) := by decide +kernel
theorem dX7_improve_185 : decode cX7_improve 185 = .ok (.iadd, 1) := by decide +kernel
theorem dX7_improve_186 : decode cX7_improve 186 = .ok (.iaload, 1) := by decide +kernel
theorem dX7_improve_187 : decode cX7_improve 187 = .ok (.aload 4, 2) := by decide +kernel
theorem dX7_improve_189 : decode cX7_improve 189 = .ok (.getfield 81, 3) := by decide +kernel
theorem dX7_improve_192 : decode cX7_improve 192 = .ok (.iload_n 2, 1) := by decide +kernel
theorem dX7_improve_193 : decode cX7_improve 193 = .ok (.iaload, 1) := by decide +kernel
theorem dX7_improve_194 : decode cX7_improve 194 = .ok (.iadd, 1) := by decide +kernel
theorem dX7_improve_195 : decode cX7_improve 195 = .ok (.istore 8, 2) := by decide +kernel
theorem dX7_improve_197 : decode cX7_improve 197 = .ok (.iload 8, 2) := by decide +kernel
theorem dX7_improve_199 : decode cX7_improve 199 = .ok (.aload_n 1, 1) := by decide +kernel
theorem dX7_improve_200 : decode cX7_improve 200 = .ok (.iload 5, 2) := by decide +kernel
theorem dX7_improve_202 : decode cX7_improve 202 = .ok (.iaload, 1) := by decide +kernel
theorem dX7_improve_203 : decode cX7_improve 203 = .ok (.if_icmp .lt 5, 3) := by decide +kernel
theorem dX7_improve_206 : decode cX7_improve 206 = .ok (.iconst 0, 1) := by decide +kernel
theorem dX7_improve_207 : decode cX7_improve 207 = .ok (.ireturn, 1) := by decide +kernel
theorem dX7_improve_208 : decode cX7_improve 208 = .ok (.aload_n 1, 1) := by decide +kernel
theorem dX7_improve_209 : decode cX7_improve 209 = .ok (.iload 5, 2) := by decide +kernel
theorem dX7_improve_211 : decode cX7_improve 211 = .ok (.iload 8, 2) := by decide +kernel
theorem dX7_improve_213 : decode cX7_improve 213 = .ok (.iastore, 1) := by decide +kernel
theorem dX7_improve_214 : decode cX7_improve 214 = .ok (.iconst 1, 1) := by decide +kernel
theorem dX7_improve_215 : decode cX7_improve 215 = .ok (.ireturn, 1) := by decide +kernel
theorem dX8_init_0 : decode cX8_init 0 = .ok (.aload_n 0, 1) := by decide +kernel
theorem dX8_init_1 : decode cX8_init 1 = .ok (.invokespecial 3, 3) := by decide +kernel
theorem dX8_init_4 : decode cX8_init 4 = .ok (.aload_n 0, 1) := by decide +kernel
theorem dX8_init_5 : decode cX8_init 5 = .ok (.iconst 0, 1) := by decide +kernel
theorem dX8_init_6 : decode cX8_init 6 = .ok (.putfield 9, 3) := by decide +kernel
theorem dX8_init_9 : decode cX8_init 9 = .ok (.aload_n 0, 1) := by decide +kernel
theorem dX8_init_10 : decode cX8_init 10 = .ok (.iconst 0, 1) := by decide +kernel
theorem dX8_init_11 : decode cX8_init 11 = .ok (.putfield 15, 3) := by decide +kernel
theorem dX8_init_14 : decode cX8_init 14 = .ok (.aload_n 0, 1) := by decide +kernel
theorem dX8_init_15 : decode cX8_init 15 = .ok (.bipush 6, 2) := by decide +kernel
theorem dX8_init_17 : decode cX8_init 17 = .ok (.newarray .int, 2) := by decide +kernel
theorem dX8_init_19 : decode cX8_init 19 = .ok (.putfield 18, 3) := by decide +kernel
theorem dX8_init_22 : decode cX8_init 22 = .ok (.aload_n 0, 1) := by decide +kernel
theorem dX8_init_23 : decode cX8_init 23 = .ok (.bipush 6, 2) := by decide +kernel
theorem dX8_init_25 : decode cX8_init 25 = .ok (.newarray .boolean, 2) := by decide +kernel
theorem dX8_init_27 : decode cX8_init 27 = .ok (.putfield 22, 3) := by decide +kernel
theorem dX8_init_30 : decode cX8_init 30 = .ok (.aload_n 0, 1) := by decide +kernel
theorem dX8_init_31 : decode cX8_init 31 = .ok (.bipush 7, 2) := by decide +kernel
theorem dX8_init_33 : decode cX8_init 33 = .ok (.newarray .int, 2) := by decide +kernel
theorem dX8_init_35 : decode cX8_init 35 = .ok (.putfield 26, 3) := by decide +kernel
theorem dX8_init_38 : decode cX8_init 38 = .ok (.aload_n 0, 1) := by decide +kernel
theorem dX8_init_39 : decode cX8_init 39 = .ok (.bipush 7, 2) := by decide +kernel
theorem dX8_init_41 : decode cX8_init 41 = .ok (.newarray .int, 2) := by decide +kernel
theorem dX8_init_43 : decode cX8_init 43 = .ok (.putfield 29, 3) := by decide +kernel
theorem dX8_init_46 : decode cX8_init 46 = .ok (.aload_n 0, 1) := by decide +kernel
theorem dX8_init_47 : decode cX8_init 47 = .ok (.bipush 7, 2) := by decide +kernel
theorem dX8_init_49 : decode cX8_init 49 = .ok (.newarray .int, 2) := by decide +kernel
theorem dX8_init_51 : decode cX8_init 51 = .ok (.putfield 32, 3) := by decide +kernel
theorem dX8_init_54 : decode cX8_init 54 = .ok (.aload_n 0, 1) := by decide +kernel
theorem dX8_init_55 : decode cX8_init 55 = .ok (.bipush 7, 2) := by decide +kernel
theorem dX8_init_57 : decode cX8_init 57 = .ok (.newarray .int, 2) := by decide +kernel
theorem dX8_init_59 : decode cX8_init 59 = .ok (.putfield 35, 3) := by decide +kernel
theorem dX8_init_62 : decode cX8_init 62 = .ok (.return_, 1) := by decide +kernel
theorem dX8_start_0 : decode cX8_start 0 = .ok (.aload_n 0, 1) := by decide +kernel
theorem dX8_start_1 : decode cX8_start 1 = .ok (.iconst 0, 1) := by decide +kernel
theorem dX8_start_2 : decode cX8_start 2 = .ok (.putfield 9, 3) := by decide +kernel
theorem dX8_start_5 : decode cX8_start 5 = .ok (.aload_n 0, 1) := by decide +kernel
theorem dX8_start_6 : decode cX8_start 6 = .ok (.iconst 0, 1) := by decide +kernel
theorem dX8_start_7 : decode cX8_start 7 = .ok (.putfield 15, 3) := by decide +kernel
theorem dX8_start_10 : decode cX8_start 10 = .ok (.iconst 0, 1) := by decide +kernel
theorem dX8_start_11 : decode cX8_start 11 = .ok (.istore_n 2, 1) := by decide +kernel
theorem dX8_start_12 : decode cX8_start 12 = .ok (.iload_n 2, 1) := by decide +kernel
theorem dX8_start_13 : decode cX8_start 13 = .ok (.bipush 6, 2) := by decide +kernel
theorem dX8_start_15 : decode cX8_start 15 = .ok (.if_icmp .ge 28, 3) := by decide +kernel
theorem dX8_start_18 : decode cX8_start 18 = .ok (.aload_n 0, 1) := by decide +kernel
theorem dX8_start_19 : decode cX8_start 19 = .ok (.getfield 18, 3) := by decide +kernel
theorem dX8_start_22 : decode cX8_start 22 = .ok (.iload_n 2, 1) := by decide +kernel
theorem dX8_start_23 : decode cX8_start 23 = .ok (.aload_n 1, 1) := by decide +kernel
theorem dX8_start_24 : decode cX8_start 24 = .ok (.getfield 38, 3) := by decide +kernel
theorem dX8_start_27 : decode cX8_start 27 = .ok (.iload_n 2, 1) := by decide +kernel
theorem dX8_start_28 : decode cX8_start 28 = .ok (.iaload, 1) := by decide +kernel
theorem dX8_start_29 : decode cX8_start 29 = .ok (.iastore, 1) := by decide +kernel
theorem dX8_start_30 : decode cX8_start 30 = .ok (.aload_n 0, 1) := by decide +kernel
theorem dX8_start_31 : decode cX8_start 31 = .ok (.getfield 22, 3) := by decide +kernel
theorem dX8_start_34 : decode cX8_start 34 = .ok (.iload_n 2, 1) := by decide +kernel
theorem dX8_start_35 : decode cX8_start 35 = .ok (.iconst 0, 1) := by decide +kernel
theorem dX8_start_36 : decode cX8_start 36 = .ok (.bastore, 1) := by decide +kernel
theorem dX8_start_37 : decode cX8_start 37 = .ok (.iinc 2 1, 3) := by decide +kernel
theorem dX8_start_40 : decode cX8_start 40 = .ok (.goto (-28), 3) := by decide +kernel
theorem dX8_start_43 : decode cX8_start 43 = .ok (.iconst 0, 1) := by decide +kernel
theorem dX8_start_44 : decode cX8_start 44 = .ok (.istore_n 2, 1) := by decide +kernel
theorem dX8_start_45 : decode cX8_start 45 = .ok (.iload_n 2, 1) := by decide +kernel
theorem dX8_start_46 : decode cX8_start 46 = .ok (.aload_n 1, 1) := by decide +kernel
theorem dX8_start_47 : decode cX8_start 47 = .ok (.getfield 41, 3) := by decide +kernel
theorem dX8_start_50 : decode cX8_start 50 = .ok (.if_icmp .ge 32, 3) := by decide +kernel
theorem dX8_start_53 : decode cX8_start 53 = .ok (.aload_n 0, 1) := by decide +kernel
theorem dX8_start_54 : decode cX8_start 54 = .ok (.aload_n 1, 1) := by decide +kernel
theorem dX8_start_55 : decode cX8_start 55 = .ok (.getfield 42, 3) := by decide +kernel
theorem dX8_start_58 : decode cX8_start 58 = .ok (.iload_n 2, 1) := by decide +kernel
theorem dX8_start_59 : decode cX8_start 59 = .ok (.iaload, 1) := by decide +kernel
theorem dX8_start_60 : decode cX8_start 60 = .ok (.aload_n 1, 1) := by decide +kernel
theorem dX8_start_61 : decode cX8_start 61 = .ok (.getfield 43, 3) := by decide +kernel
theorem dX8_start_64 : decode cX8_start 64 = .ok (.iload_n 2, 1) := by decide +kernel
theorem dX8_start_65 : decode cX8_start 65 = .ok (.iaload, 1) := by decide +kernel
theorem dX8_start_66 : decode cX8_start 66 = .ok (.aload_n 1, 1) := by decide +kernel
theorem dX8_start_67 : decode cX8_start 67 = .ok (.getfield 44, 3) := by decide +kernel
theorem dX8_start_70 : decode cX8_start 70 = .ok (.iload_n 2, 1) := by decide +kernel
theorem dX8_start_71 : decode cX8_start 71 = .ok (.iaload, 1) := by decide +kernel
theorem dX8_start_72 : decode cX8_start 72 = .ok (.invokevirtual 45, 3) := by decide +kernel
theorem dX8_start_75 : decode cX8_start 75 = .ok (.pop, 1) := by decide +kernel
theorem dX8_start_76 : decode cX8_start 76 = .ok (.iinc 2 1, 3) := by decide +kernel
theorem dX8_start_79 : decode cX8_start 79 = .ok (.goto (-34), 3) := by decide +kernel
theorem dX8_start_82 : decode cX8_start 82 = .ok (.return_, 1) := by decide +kernel
theorem dX8_copyFrom_0 : decode cX8_copyFrom 0 = .ok (.aload_n 0, 1) := by decide +kernel
theorem dX8_copyFrom_1 : decode cX8_copyFrom 1 = .ok (.aload_n 1, 1) := by decide +kernel
theorem dX8_copyFrom_2 : decode cX8_copyFrom 2 = .ok (.getfield 9, 3) := by decide +kernel
theorem dX8_copyFrom_5 : decode cX8_copyFrom 5 = .ok (.putfield 9, 3) := by decide +kernel
theorem dX8_copyFrom_8 : decode cX8_copyFrom 8 = .ok (.aload_n 0, 1) := by decide +kernel
theorem dX8_copyFrom_9 : decode cX8_copyFrom 9 = .ok (.aload_n 1, 1) := by decide +kernel
theorem dX8_copyFrom_10 : decode cX8_copyFrom 10 = .ok (.getfield 15, 3) := by decide +kernel
theorem dX8_copyFrom_13 : decode cX8_copyFrom 13 = .ok (.putfield 15, 3) := by decide +kernel
theorem dX8_copyFrom_16 : decode cX8_copyFrom 16 = .ok (.iconst 0, 1) := by decide +kernel
theorem dX8_copyFrom_17 : decode cX8_copyFrom 17 = .ok (.istore_n 2, 1) := by decide +kernel
theorem dX8_copyFrom_18 : decode cX8_copyFrom 18 = .ok (.iload_n 2, 1) := by decide +kernel
theorem dX8_copyFrom_19 : decode cX8_copyFrom 19 = .ok (.bipush 6, 2) := by decide +kernel
theorem dX8_copyFrom_21 : decode cX8_copyFrom 21 = .ok (.if_icmp .ge 33, 3) := by decide +kernel
theorem dX8_copyFrom_24 : decode cX8_copyFrom 24 = .ok (.aload_n 0, 1) := by decide +kernel
theorem dX8_copyFrom_25 : decode cX8_copyFrom 25 = .ok (.getfield 18, 3) := by decide +kernel
theorem dX8_copyFrom_28 : decode cX8_copyFrom 28 = .ok (.iload_n 2, 1) := by decide +kernel
theorem dX8_copyFrom_29 : decode cX8_copyFrom 29 = .ok (.aload_n 1, 1) := by decide +kernel
theorem dX8_copyFrom_30 : decode cX8_copyFrom 30 = .ok (.getfield 18, 3) := by decide +kernel
theorem dX8_copyFrom_33 : decode cX8_copyFrom 33 = .ok (.iload_n 2, 1) := by decide +kernel
theorem dX8_copyFrom_34 : decode cX8_copyFrom 34 = .ok (.iaload, 1) := by decide +kernel
theorem dX8_copyFrom_35 : decode cX8_copyFrom 35 = .ok (.iastore, 1) := by decide +kernel
theorem dX8_copyFrom_36 : decode cX8_copyFrom 36 = .ok (.aload_n 0, 1) := by decide +kernel
theorem dX8_copyFrom_37 : decode cX8_copyFrom 37 = .ok (.getfield 22, 3) := by decide +kernel
theorem dX8_copyFrom_40 : decode cX8_copyFrom 40 = .ok (.iload_n 2, 1) := by decide +kernel
theorem dX8_copyFrom_41 : decode cX8_copyFrom 41 = .ok (.aload_n 1, 1) := by decide +kernel
theorem dX8_copyFrom_42 : decode cX8_copyFrom 42 = .ok (.getfield 22, 3) := by decide +kernel
theorem dX8_copyFrom_45 : decode cX8_copyFrom 45 = .ok (.iload_n 2, 1) := by decide +kernel
theorem dX8_copyFrom_46 : decode cX8_copyFrom 46 = .ok (.baload, 1) := by decide +kernel
theorem dX8_copyFrom_47 : decode cX8_copyFrom 47 = .ok (.bastore, 1) := by decide +kernel
theorem dX8_copyFrom_48 : decode cX8_copyFrom 48 = .ok (.iinc 2 1, 3) := by decide +kernel
theorem dX8_copyFrom_51 : decode cX8_copyFrom 51 = .ok (.goto (-33), 3) := by decide +kernel
theorem dX8_copyFrom_54 : decode cX8_copyFrom 54 = .ok (.iconst 0, 1) := by decide +kernel
theorem dX8_copyFrom_55 : decode cX8_copyFrom 55 = .ok (.istore_n 2, 1) := by decide +kernel
theorem dX8_copyFrom_56 : decode cX8_copyFrom 56 = .ok (.iload_n 2, 1) := by decide +kernel
theorem dX8_copyFrom_57 : decode cX8_copyFrom 57 = .ok (.bipush 7, 2) := by decide +kernel
theorem dX8_copyFrom_59 : decode cX8_copyFrom 59 = .ok (.if_icmp .ge 57, 3) := by decide +kernel
theorem dX8_copyFrom_62 : decode cX8_copyFrom 62 = .ok (.aload_n 0, 1) := by decide +kernel
theorem dX8_copyFrom_63 : decode cX8_copyFrom 63 = .ok (.getfield 26, 3) := by decide +kernel
theorem dX8_copyFrom_66 : decode cX8_copyFrom 66 = .ok (.iload_n 2, 1) := by decide +kernel
theorem dX8_copyFrom_67 : decode cX8_copyFrom 67 = .ok (.aload_n 1, 1) := by decide +kernel
theorem dX8_copyFrom_68 : decode cX8_copyFrom 68 = .ok (.getfield 26, 3) := by decide +kernel
theorem dX8_copyFrom_71 : decode cX8_copyFrom 71 = .ok (.iload_n 2, 1) := by decide +kernel
theorem dX8_copyFrom_72 : decode cX8_copyFrom 72 = .ok (.iaload, 1) := by decide +kernel
theorem dX8_copyFrom_73 : decode cX8_copyFrom 73 = .ok (.iastore, 1) := by decide +kernel
theorem dX8_copyFrom_74 : decode cX8_copyFrom 74 = .ok (.aload_n 0, 1) := by decide +kernel
theorem dX8_copyFrom_75 : decode cX8_copyFrom 75 = .ok (.getfield 29, 3) := by decide +kernel
theorem dX8_copyFrom_78 : decode cX8_copyFrom 78 = .ok (.iload_n 2, 1) := by decide +kernel
theorem dX8_copyFrom_79 : decode cX8_copyFrom 79 = .ok (.aload_n 1, 1) := by decide +kernel
theorem dX8_copyFrom_80 : decode cX8_copyFrom 80 = .ok (.getfield 29, 3) := by decide +kernel
theorem dX8_copyFrom_83 : decode cX8_copyFrom 83 = .ok (.iload_n 2, 1) := by decide +kernel
theorem dX8_copyFrom_84 : decode cX8_copyFrom 84 = .ok (.iaload, 1) := by decide +kernel
theorem dX8_copyFrom_85 : decode cX8_copyFrom 85 = .ok (.iastore, 1) := by decide +kernel
theorem dX8_copyFrom_86 : decode cX8_copyFrom 86 = .ok (.aload_n 0, 1) := by decide +kernel
theorem dX8_copyFrom_87 : decode cX8_copyFrom 87 = .ok (.getfield 32, 3) := by decide +kernel
theorem dX8_copyFrom_90 : decode cX8_copyFrom 90 = .ok (.iload_n 2, 1) := by decide +kernel
theorem dX8_copyFrom_91 : decode cX8_copyFrom 91 = .ok (.aload_n 1, 1) := by decide +kernel
theorem dX8_copyFrom_92 : decode cX8_copyFrom 92 = .ok (.getfield 32, 3) := by decide +kernel
theorem dX8_copyFrom_95 : decode cX8_copyFrom 95 = .ok (.iload_n 2, 1) := by decide +kernel
theorem dX8_copyFrom_96 : decode cX8_copyFrom 96 = .ok (.iaload, 1) := by decide +kernel
theorem dX8_copyFrom_97 : decode cX8_copyFrom 97 = .ok (.iastore, 1) := by decide +kernel
theorem dX8_copyFrom_98 : decode cX8_copyFrom 98 = .ok (.aload_n 0, 1) := by decide +kernel
theorem dX8_copyFrom_99 : decode cX8_copyFrom 99 = .ok (.getfield 35, 3) := by decide +kernel
theorem dX8_copyFrom_102 : decode cX8_copyFrom 102 = .ok (.iload_n 2, 1) := by decide +kernel
theorem dX8_copyFrom_103 : decode cX8_copyFrom 103 = .ok (.aload_n 1, 1) := by decide +kernel
theorem dX8_copyFrom_104 : decode cX8_copyFrom 104 = .ok (.getfield 35, 3) := by decide +kernel
theorem dX8_copyFrom_107 : decode cX8_copyFrom 107 = .ok (.iload_n 2, 1) := by decide +kernel
theorem dX8_copyFrom_108 : decode cX8_copyFrom 108 = .ok (.iaload, 1) := by decide +kernel
theorem dX8_copyFrom_109 : decode cX8_copyFrom 109 = .ok (.iastore, 1) := by decide +kernel
theorem dX8_copyFrom_110 : decode cX8_copyFrom 110 = .ok (.iinc 2 1, 3) := by decide +kernel
theorem dX8_copyFrom_113 : decode cX8_copyFrom 113 = .ok (.goto (-57), 3) := by decide +kernel
theorem dX8_copyFrom_116 : decode cX8_copyFrom 116 = .ok (.return_, 1) := by decide +kernel
theorem dX8_addThing_0 : decode cX8_addThing 0 = .ok (.aload_n 0, 1) := by decide +kernel
theorem dX8_addThing_1 : decode cX8_addThing 1 = .ok (.getfield 15, 3) := by decide +kernel
theorem dX8_addThing_4 : decode cX8_addThing 4 = .ok (.bipush 7, 2) := by decide +kernel
theorem dX8_addThing_6 : decode cX8_addThing 6 = .ok (.if_icmp .lt 6, 3) := by decide +kernel
theorem dX8_addThing_9 : decode cX8_addThing 9 = .ok (.bipush (-3), 2) := by decide +kernel
theorem dX8_addThing_11 : decode cX8_addThing 11 = .ok (.ireturn, 1) := by decide +kernel
theorem dX8_addThing_12 : decode cX8_addThing 12 = .ok (.aload_n 0, 1) := by decide +kernel
theorem dX8_addThing_13 : decode cX8_addThing 13 = .ok (.getfield 26, 3) := by decide +kernel
theorem dX8_addThing_16 : decode cX8_addThing 16 = .ok (.aload_n 0, 1) := by decide +kernel
theorem dX8_addThing_17 : decode cX8_addThing 17 = .ok (.getfield 15, 3) := by decide +kernel
theorem dX8_addThing_20 : decode cX8_addThing 20 = .ok (.iload_n 1, 1) := by decide +kernel
theorem dX8_addThing_21 : decode cX8_addThing 21 = .ok (.iastore, 1) := by decide +kernel
theorem dX8_addThing_22 : decode cX8_addThing 22 = .ok (.aload_n 0, 1) := by decide +kernel
theorem dX8_addThing_23 : decode cX8_addThing 23 = .ok (.getfield 29, 3) := by decide +kernel
theorem dX8_addThing_26 : decode cX8_addThing 26 = .ok (.aload_n 0, 1) := by decide +kernel
theorem dX8_addThing_27 : decode cX8_addThing 27 = .ok (.getfield 15, 3) := by decide +kernel
theorem dX8_addThing_30 : decode cX8_addThing 30 = .ok (.iload_n 2, 1) := by decide +kernel
theorem dX8_addThing_31 : decode cX8_addThing 31 = .ok (.iastore, 1) := by decide +kernel
theorem dX8_addThing_32 : decode cX8_addThing 32 = .ok (.aload_n 0, 1) := by decide +kernel
theorem dX8_addThing_33 : decode cX8_addThing 33 = .ok (.getfield 32, 3) := by decide +kernel
theorem dX8_addThing_36 : decode cX8_addThing 36 = .ok (.aload_n 0, 1) := by decide +kernel
theorem dX8_addThing_37 : decode cX8_addThing 37 = .ok (.getfield 15, 3) := by decide +kernel
theorem dX8_addThing_40 : decode cX8_addThing 40 = .ok (.iload_n 3, 1) := by decide +kernel
theorem dX8_addThing_41 : decode cX8_addThing 41 = .ok (.iastore, 1) := by decide +kernel
theorem dX8_addThing_42 : decode cX8_addThing 42 = .ok (.aload_n 0, 1) := by decide +kernel
theorem dX8_addThing_43 : decode cX8_addThing 43 = .ok (.getfield 35, 3) := by decide +kernel
theorem dX8_addThing_46 : decode cX8_addThing 46 = .ok (.aload_n 0, 1) := by decide +kernel
theorem dX8_addThing_47 : decode cX8_addThing 47 = .ok (.getfield 15, 3) := by decide +kernel
theorem dX8_addThing_50 : decode cX8_addThing 50 = .ok (.bipush (-4), 2) := by decide +kernel
theorem dX8_addThing_52 : decode cX8_addThing 52 = .ok (.iastore, 1) := by decide +kernel
theorem dX8_addThing_53 : decode cX8_addThing 53 = .ok (.aload_n 0, 1) := by decide +kernel
theorem dX8_addThing_54 : decode cX8_addThing 54 = .ok (.dup, 1) := by decide +kernel
theorem dX8_addThing_55 : decode cX8_addThing 55 = .ok (.getfield 15, 3) := by decide +kernel
theorem dX8_addThing_58 : decode cX8_addThing 58 = .ok (.iconst 1, 1) := by decide +kernel
theorem dX8_addThing_59 : decode cX8_addThing 59 = .ok (.iadd, 1) := by decide +kernel
theorem dX8_addThing_60 : decode cX8_addThing 60 = .ok (.putfield 15, 3) := by decide +kernel
theorem dX8_addThing_63 : decode cX8_addThing 63 = .ok (.aload_n 0, 1) := by decide +kernel
theorem dX8_addThing_64 : decode cX8_addThing 64 = .ok (.getfield 15, 3) := by decide +kernel
theorem dX8_addThing_67 : decode cX8_addThing 67 = .ok (.iconst 1, 1) := by decide +kernel
theorem dX8_addThing_68 : decode cX8_addThing 68 = .ok (.isub, 1) := by decide +kernel
theorem dX8_addThing_69 : decode cX8_addThing 69 = .ok (.ireturn, 1) := by decide +kernel
theorem dX8_hangTown_0 : decode cX8_hangTown 0 = .ok (.aload_n 0, 1) := by decide +kernel
theorem dX8_hangTown_1 : decode cX8_hangTown 1 = .ok (.getfield 18, 3) := by decide +kernel
theorem dX8_hangTown_4 : decode cX8_hangTown 4 = .ok (.iload_n 1, 1) := by decide +kernel
theorem dX8_hangTown_5 : decode cX8_hangTown 5 = .ok (.iload_n 2, 1) := by decide +kernel
theorem dX8_hangTown_6 : decode cX8_hangTown 6 = .ok (.iastore, 1) := by decide +kernel
theorem dX8_hangTown_7 : decode cX8_hangTown 7 = .ok (.iconst 0, 1) := by decide +kernel
theorem dX8_hangTown_8 : decode cX8_hangTown 8 = .ok (.istore_n 3, 1) := by decide +kernel
theorem dX8_hangTown_9 : decode cX8_hangTown 9 = .ok (.iload_n 3, 1) := by decide +kernel
theorem dX8_hangTown_10 : decode cX8_hangTown 10 = .ok (.aload_n 0, 1) := by decide +kernel
theorem dX8_hangTown_11 : decode cX8_hangTown 11 = .ok (.getfield 15, 3) := by decide +kernel
theorem dX8_hangTown_14 : decode cX8_hangTown 14 = .ok (.if_icmp .ge 26, 3) := by decide +kernel
theorem dX8_hangTown_17 : decode cX8_hangTown 17 = .ok (.aload_n 0, 1) := by decide +kernel
theorem dX8_hangTown_18 : decode cX8_hangTown 18 = .ok (.getfield 35, 3) := by decide +kernel
theorem dX8_hangTown_21 : decode cX8_hangTown 21 = .ok (.iload_n 3, 1) := by decide +kernel
theorem dX8_hangTown_22 : decode cX8_hangTown 22 = .ok (.iaload, 1) := by decide +kernel
theorem dX8_hangTown_23 : decode cX8_hangTown 23 = .ok (.iload_n 1, 1) := by decide +kernel
theorem dX8_hangTown_24 : decode cX8_hangTown 24 = .ok (.if_icmp .ne 10, 3) := by decide +kernel
theorem dX8_hangTown_27 : decode cX8_hangTown 27 = .ok (.aload_n 0, 1) := by decide +kernel
theorem dX8_hangTown_28 : decode cX8_hangTown 28 = .ok (.getfield 29, 3) := by decide +kernel
theorem dX8_hangTown_31 : decode cX8_hangTown 31 = .ok (.iload_n 3, 1) := by decide +kernel
theorem dX8_hangTown_32 : decode cX8_hangTown 32 = .ok (.iload_n 2, 1) := by decide +kernel
theorem dX8_hangTown_33 : decode cX8_hangTown 33 = .ok (.iastore, 1) := by decide +kernel
theorem dX8_hangTown_34 : decode cX8_hangTown 34 = .ok (.iinc 3 1, 3) := by decide +kernel
theorem dX8_hangTown_37 : decode cX8_hangTown 37 = .ok (.goto (-28), 3) := by decide +kernel
theorem dX8_hangTown_40 : decode cX8_hangTown 40 = .ok (.return_, 1) := by decide +kernel
theorem dX8_cutTown_0 : decode cX8_cutTown 0 = .ok (.aload_n 0, 1) := by decide +kernel
theorem dX8_cutTown_1 : decode cX8_cutTown 1 = .ok (.getfield 22, 3) := by decide +kernel
theorem dX8_cutTown_4 : decode cX8_cutTown 4 = .ok (.iload_n 1, 1) := by decide +kernel
theorem dX8_cutTown_5 : decode cX8_cutTown 5 = .ok (.iconst 1, 1) := by decide +kernel
theorem dX8_cutTown_6 : decode cX8_cutTown 6 = .ok (.bastore, 1) := by decide +kernel
theorem dX8_cutTown_7 : decode cX8_cutTown 7 = .ok (.iconst 0, 1) := by decide +kernel
theorem dX8_cutTown_8 : decode cX8_cutTown 8 = .ok (.istore_n 2, 1) := by decide +kernel
theorem dX8_cutTown_9 : decode cX8_cutTown 9 = .ok (.iload_n 2, 1) := by decide +kernel
theorem dX8_cutTown_10 : decode cX8_cutTown 10 = .ok (.aload_n 0, 1) := by decide +kernel
theorem dX8_cutTown_11 : decode cX8_cutTown 11 = .ok (.getfield 15, 3) := by decide +kernel
theorem dX8_cutTown_14 : decode cX8_cutTown 14 = .ok (.if_icmp .ge 27, 3) := by decide +kernel
theorem dX8_cutTown_17 : decode cX8_cutTown 17 = .ok (.aload_n 0, 1) := by decide +kernel
theorem dX8_cutTown_18 : decode cX8_cutTown 18 = .ok (.getfield 35, 3) := by decide +kernel
theorem dX8_cutTown_21 : decode cX8_cutTown 21 = .ok (.iload_n 2, 1) := by decide +kernel
theorem dX8_cutTown_22 : decode cX8_cutTown 22 = .ok (.iaload, 1) := by decide +kernel
theorem dX8_cutTown_23 : decode cX8_cutTown 23 = .ok (.iload_n 1, 1) := by decide +kernel
theorem dX8_cutTown_24 : decode cX8_cutTown 24 = .ok (.if_icmp .ne 11, 3) := by decide +kernel
theorem dX8_cutTown_27 : decode cX8_cutTown 27 = .ok (.aload_n 0, 1) := by decide +kernel
theorem dX8_cutTown_28 : decode cX8_cutTown 28 = .ok (.getfield 35, 3) := by decide +kernel
theorem dX8_cutTown_31 : decode cX8_cutTown 31 = .ok (.iload_n 2, 1) := by decide +kernel
theorem dX8_cutTown_32 : decode cX8_cutTown 32 = .ok (.bipush (-4), 2) := by decide +kernel
theorem dX8_cutTown_34 : decode cX8_cutTown 34 = .ok (.iastore, 1) := by decide +kernel
theorem dX8_cutTown_35 : decode cX8_cutTown 35 = .ok (.iinc 2 1, 3) := by decide +kernel
theorem dX8_cutTown_38 : decode cX8_cutTown 38 = .ok (.goto (-29), 3) := by decide +kernel
theorem dX8_cutTown_41 : decode cX8_cutTown 41 = .ok (.return_, 1) := by decide +kernel
theorem dX9_init_0 : decode cX9_init 0 = .ok (.aload_n 0, 1) := by decide +kernel
theorem dX9_init_1 : decode cX9_init 1 = .ok (.invokespecial 3, 3) := by decide +kernel
theorem dX9_init_4 : decode cX9_init 4 = .ok (.aload_n 0, 1) := by decide +kernel
theorem dX9_init_5 : decode cX9_init 5 = .ok (.sipush 200, 3) := by decide +kernel
theorem dX9_init_8 : decode cX9_init 8 = .ok (.newarray .int, 2) := by decide +kernel
theorem dX9_init_10 : decode cX9_init 10 = .ok (.putfield 9, 3) := by decide +kernel
theorem dX9_init_13 : decode cX9_init 13 = .ok (.aload_n 0, 1) := by decide +kernel
theorem dX9_init_14 : decode cX9_init 14 = .ok (.iconst 4, 1) := by decide +kernel
theorem dX9_init_15 : decode cX9_init 15 = .ok (.newarray .int, 2) := by decide +kernel
theorem dX9_init_17 : decode cX9_init 17 = .ok (.putfield 15, 3) := by decide +kernel
theorem dX9_init_20 : decode cX9_init 20 = .ok (.aload_n 0, 1) := by decide +kernel
theorem dX9_init_21 : decode cX9_init 21 = .ok (.iconst 0, 1) := by decide +kernel
theorem dX9_init_22 : decode cX9_init 22 = .ok (.putfield 18, 3) := by decide +kernel
theorem dX9_init_25 : decode cX9_init 25 = .ok (.aload_n 0, 1) := by decide +kernel
theorem dX9_init_26 : decode cX9_init 26 = .ok (.iconst 0, 1) := by decide +kernel
theorem dX9_init_27 : decode cX9_init 27 = .ok (.putfield 22, 3) := by decide +kernel
theorem dX9_init_30 : decode cX9_init 30 = .ok (.return_, 1) := by decide +kernel
theorem dX9_add_0 : decode cX9_add 0 = .ok (.aload_n 0, 1) := by decide +kernel
theorem dX9_add_1 : decode cX9_add 1 = .ok (.getfield 22, 3) := by decide +kernel
theorem dX9_add_4 : decode cX9_add 4 = .ok (.sipush 200, 3) := by decide +kernel
theorem dX9_add_7 : decode cX9_add 7 = .ok (.if_icmp .lt 5, 3) := by decide +kernel
theorem dX9_add_10 : decode cX9_add 10 = .ok (.iconst 0, 1) := by decide +kernel
theorem dX9_add_11 : decode cX9_add 11 = .ok (.ireturn, 1) := by decide +kernel
theorem dX9_add_12 : decode cX9_add 12 = .ok (.aload_n 0, 1) := by decide +kernel
theorem dX9_add_13 : decode cX9_add 13 = .ok (.getfield 9, 3) := by decide +kernel
theorem dX9_add_16 : decode cX9_add 16 = .ok (.aload_n 0, 1) := by decide +kernel
theorem dX9_add_17 : decode cX9_add 17 = .ok (.getfield 22, 3) := by decide +kernel
theorem dX9_add_20 : decode cX9_add 20 = .ok (.iload_n 1, 1) := by decide +kernel
theorem dX9_add_21 : decode cX9_add 21 = .ok (.iastore, 1) := by decide +kernel
theorem dX9_add_22 : decode cX9_add 22 = .ok (.aload_n 0, 1) := by decide +kernel
theorem dX9_add_23 : decode cX9_add 23 = .ok (.dup, 1) := by decide +kernel
theorem dX9_add_24 : decode cX9_add 24 = .ok (.getfield 22, 3) := by decide +kernel
theorem dX9_add_27 : decode cX9_add 27 = .ok (.iconst 1, 1) := by decide +kernel
theorem dX9_add_28 : decode cX9_add 28 = .ok (.iadd, 1) := by decide +kernel
theorem dX9_add_29 : decode cX9_add 29 = .ok (.putfield 22, 3) := by decide +kernel
theorem dX9_add_32 : decode cX9_add 32 = .ok (.iconst 1, 1) := by decide +kernel
theorem dX9_add_33 : decode cX9_add 33 = .ok (.ireturn, 1) := by decide +kernel
theorem dX9_empty_0 : decode cX9_empty 0 = .ok (.aload_n 0, 1) := by decide +kernel
theorem dX9_empty_1 : decode cX9_empty 1 = .ok (.getfield 22, 3) := by decide +kernel
theorem dX9_empty_4 : decode cX9_empty 4 = .ok (.istore_n 1, 1) := by decide +kernel
theorem dX9_empty_5 : decode cX9_empty 5 = .ok (.aload_n 0, 1) := by decide +kernel
theorem dX9_empty_6 : decode cX9_empty 6 = .ok (.iconst 0, 1) := by decide +kernel
theorem dX9_empty_7 : decode cX9_empty 7 = .ok (.putfield 22, 3) := by decide +kernel
theorem dX9_empty_10 : decode cX9_empty 10 = .ok (.iload_n 1, 1) := by decide +kernel
theorem dX9_empty_11 : decode cX9_empty 11 = .ok (.ireturn, 1) := by decide +kernel
theorem dX9_readInto_0 : decode cX9_readInto 0 = .ok (.aload_n 1, 1) := by decide +kernel
theorem dX9_readInto_1 : decode cX9_readInto 1 = .ok (.invokevirtual 25, 3) := by decide +kernel
theorem dX9_readInto_4 : decode cX9_readInto 4 = .ok (.iconst 0, 1) := by decide +kernel
theorem dX9_readInto_5 : decode cX9_readInto 5 = .ok (.istore_n 2, 1) := by decide +kernel
theorem dX9_readInto_6 : decode cX9_readInto 6 = .ok (.iconst 0, 1) := by decide +kernel
theorem dX9_readInto_7 : decode cX9_readInto 7 = .ok (.istore_n 3, 1) := by decide +kernel
theorem dX9_readInto_8 : decode cX9_readInto 8 = .ok (.iload_n 2, 1) := by decide +kernel
theorem dX9_readInto_9 : decode cX9_readInto 9 = .ok (.aload_n 0, 1) := by decide +kernel
theorem dX9_readInto_10 : decode cX9_readInto 10 = .ok (.getfield 22, 3) := by decide +kernel
theorem dX9_readInto_13 : decode cX9_readInto 13 = .ok (.if_icmp .ge 56, 3) := by decide +kernel
theorem dX9_readInto_16 : decode cX9_readInto 16 = .ok (.iload_n 3, 1) := by decide +kernel
theorem dX9_readInto_17 : decode cX9_readInto 17 = .ok (.sipush 200, 3) := by decide +kernel
theorem dX9_readInto_20 : decode cX9_readInto 20 = .ok (.if_icmp .ge 49, 3) := by decide +kernel
theorem dX9_readInto_23 : decode cX9_readInto 23 = .ok (.aload_n 0, 1) := by decide +kernel
theorem dX9_readInto_24 : decode cX9_readInto 24 = .ok (.iload_n 2, 1) := by decide +kernel
theorem dX9_readInto_25 : decode cX9_readInto 25 = .ok (.invokevirtual 30, 3) := by decide +kernel
theorem dX9_readInto_28 : decode cX9_readInto 28 = .ok (.istore 4, 2) := by decide +kernel
theorem dX9_readInto_30 : decode cX9_readInto 30 = .ok (.iload 4, 2) := by decide +kernel
theorem dX9_readInto_32 : decode cX9_readInto 32 = .ok (.bipush (-2), 2) := by decide +kernel
theorem dX9_readInto_34 : decode cX9_readInto 34 = .ok (.if_icmp .eq 24, 3) := by decide +kernel
theorem dX9_readInto_37 : decode cX9_readInto 37 = .ok (.aload_n 1, 1) := by decide +kernel
theorem dX9_readInto_38 : decode cX9_readInto 38 = .ok (.aload_n 0, 1) := by decide +kernel
theorem dX9_readInto_39 : decode cX9_readInto 39 = .ok (.getfield 9, 3) := by decide +kernel
theorem dX9_readInto_42 : decode cX9_readInto 42 = .ok (.iload_n 2, 1) := by decide +kernel
theorem dX9_readInto_43 : decode cX9_readInto 43 = .ok (.iaload, 1) := by decide +kernel
theorem dX9_readInto_44 : decode cX9_readInto 44 = .ok (.aload_n 0, 1) := by decide +kernel
theorem dX9_readInto_45 : decode cX9_readInto 45 = .ok (.getfield 15, 3) := by decide +kernel
theorem dX9_readInto_48 : decode cX9_readInto 48 = .ok (.aload_n 0, 1) := by decide +kernel
theorem dX9_readInto_49 : decode cX9_readInto 49 = .ok (.getfield 18, 3) := by decide +kernel
theorem dX9_readInto_52 : decode cX9_readInto 52 = .ok (.invokevirtual 34, 3) := by decide +kernel
theorem dX9_readInto_55 : decode cX9_readInto 55 = .ok (.ifCond .ne 5, 3) := by decide +kernel
theorem dX9_readInto_58 : decode cX9_readInto 58 = .ok (.iload_n 2, 1) := by decide +kernel
theorem dX9_readInto_59 : decode cX9_readInto 59 = .ok (.ireturn, 1) := by decide +kernel
theorem dX9_readInto_60 : decode cX9_readInto 60 = .ok (.iload 4, 2) := by decide +kernel
theorem dX9_readInto_62 : decode cX9_readInto 62 = .ok (.istore_n 2, 1) := by decide +kernel
theorem dX9_readInto_63 : decode cX9_readInto 63 = .ok (.iinc 3 1, 3) := by decide +kernel
theorem dX9_readInto_66 : decode cX9_readInto 66 = .ok (.goto (-58), 3) := by decide +kernel
theorem dX9_readInto_69 : decode cX9_readInto 69 = .ok (.bipush (-4), 2) := by decide +kernel
theorem dX9_readInto_71 : decode cX9_readInto 71 = .ok (.ireturn, 1) := by decide +kernel
theorem dX9_splitItem_0 : decode cX9_splitItem 0 = .ok (.iload_n 1, 1) := by decide +kernel
theorem dX9_splitItem_1 : decode cX9_splitItem 1 = .ok (.iconst 1, 1) := by decide +kernel
theorem dX9_splitItem_2 : decode cX9_splitItem 2 = .ok (.iadd, 1) := by decide +kernel
theorem dX9_splitItem_3 : decode cX9_splitItem 3 = .ok (.istore_n 2, 1) := by decide +kernel
theorem dX9_splitItem_4 : decode cX9_splitItem 4 = .ok (.iconst 0, 1) := by decide +kernel
theorem dX9_splitItem_5 : decode cX9_splitItem 5 = .ok (.istore_n 3, 1) := by decide +kernel
theorem dX9_splitItem_6 : decode cX9_splitItem 6 = .ok (.iload_n 3, 1) := by decide +kernel
theorem dX9_splitItem_7 : decode cX9_splitItem 7 = .ok (.iconst 4, 1) := by decide +kernel
theorem dX9_splitItem_8 : decode cX9_splitItem 8 = .ok (.if_icmp .ge 83, 3) := by decide +kernel
theorem dX9_splitItem_11 : decode cX9_splitItem 11 = .ok (.aload_n 0, 1) := by decide +kernel
theorem dX9_splitItem_12 : decode cX9_splitItem 12 = .ok (.iload_n 2, 1) := by decide +kernel
theorem dX9_splitItem_13 : decode cX9_splitItem 13 = .ok (.invokevirtual 38, 3) := by decide +kernel
theorem dX9_splitItem_16 : decode cX9_splitItem 16 = .ok (.istore 4, 2) := by decide +kernel
theorem dX9_splitItem_18 : decode cX9_splitItem 18 = .ok (.iload 4, 2) := by decide +kernel
theorem dX9_splitItem_20 : decode cX9_splitItem 20 = .ok (.iconst 1, 1) := by decide +kernel
theorem dX9_splitItem_21 : decode cX9_splitItem 21 = .ok (.iconst 2, 1) := by decide +kernel
theorem dX9_splitItem_22 : decode cX9_splitItem 22 = .ok (.invokestatic 41, 3) := by decide +kernel
theorem dX9_splitItem_25 : decode cX9_splitItem 25 = .ok (.ifCond .ne 6, 3) := by decide +kernel
theorem dX9_splitItem_28 : decode cX9_splitItem 28 = .ok (.bipush (-2), 2) := by decide +kernel
theorem dX9_splitItem_30 : decode cX9_splitItem 30 = .ok (.ireturn, 1) := by decide +kernel
theorem dX9_splitItem_31 : decode cX9_splitItem 31 = .ok (.aload_n 0, 1) := by decide +kernel
theorem dX9_splitItem_32 : decode cX9_splitItem 32 = .ok (.getfield 15, 3) := by decide +kernel
theorem dX9_splitItem_35 : decode cX9_splitItem 35 = .ok (.iload_n 3, 1) := by decide +kernel
theorem dX9_splitItem_36 : decode cX9_splitItem 36 = .ok (.aload_n 0, 1) := by decide +kernel
theorem dX9_splitItem_37 : decode cX9_splitItem 37 = .ok (.iload_n 2, 1) := by decide +kernel
theorem dX9_splitItem_38 : decode cX9_splitItem 38 = .ok (.iload 4, 2) := by decide +kernel
theorem dX9_splitItem_40 : decode cX9_splitItem 40 = .ok (.invokevirtual 45, 3) := by decide +kernel
theorem dX9_splitItem_43 : decode cX9_splitItem 43 = .ok (.iastore, 1) := by decide +kernel
theorem dX9_splitItem_44 : decode cX9_splitItem 44 = .ok (.aload_n 0, 1) := by decide +kernel
theorem dX9_splitItem_45 : decode cX9_splitItem 45 = .ok (.iload_n 3, 1) := by decide +kernel
theorem dX9_splitItem_46 : decode cX9_splitItem 46 = .ok (.iconst 1, 1) := by decide +kernel
theorem dX9_splitItem_47 : decode cX9_splitItem 47 = .ok (.iadd, 1) := by decide +kernel
theorem dX9_splitItem_48 : decode cX9_splitItem 48 = .ok (.putfield 18, 3) := by decide +kernel
theorem dX9_splitItem_51 : decode cX9_splitItem 51 = .ok (.iload_n 2, 1) := by decide +kernel
theorem dX9_splitItem_52 : decode cX9_splitItem 52 = .ok (.iload 4, 2) := by decide +kernel
theorem dX9_splitItem_54 : decode cX9_splitItem 54 = .ok (.iadd, 1) := by decide +kernel
theorem dX9_splitItem_55 : decode cX9_splitItem 55 = .ok (.istore_n 2, 1) := by decide +kernel
theorem dX9_splitItem_56 : decode cX9_splitItem 56 = .ok (.aload_n 0, 1) := by decide +kernel
theorem dX9_splitItem_57 : decode cX9_splitItem 57 = .ok (.iload_n 2, 1) := by decide +kernel
theorem dX9_splitItem_58 : decode cX9_splitItem 58 = .ok (.invokevirtual 49, 3) := by decide +kernel
theorem dX9_splitItem_61 : decode cX9_splitItem 61 = .ok (.istore 5, 2) := by decide +kernel
theorem dX9_splitItem_63 : decode cX9_splitItem 63 = .ok (.iinc 2 1, 3) := by decide +kernel
theorem dX9_splitItem_66 : decode cX9_splitItem 66 = .ok (.iload 5, 2) := by decide +kernel
theorem dX9_splitItem_68 : decode cX9_splitItem 68 = .ok (.bipush 59, 2) := by decide +kernel
theorem dX9_splitItem_70 : decode cX9_splitItem 70 = .ok (.if_icmp .ne 5, 3) := by decide +kernel
theorem dX9_splitItem_73 : decode cX9_splitItem 73 = .ok (.iload_n 2, 1) := by decide +kernel
theorem dX9_splitItem_74 : decode cX9_splitItem 74 = .ok (.ireturn, 1) := by decide +kernel
theorem dX9_splitItem_75 : decode cX9_splitItem 75 = .ok (.iload 5, 2) := by decide +kernel
theorem dX9_splitItem_77 : decode cX9_splitItem 77 = .ok (.bipush 44, 2) := by decide +kernel
theorem dX9_splitItem_79 : decode cX9_splitItem 79 = .ok (.if_icmp .eq 6, 3) := by decide +kernel
theorem dX9_splitItem_82 : decode cX9_splitItem 82 = .ok (.bipush (-2), 2) := by decide +kernel
theorem dX9_splitItem_84 : decode cX9_splitItem 84 = .ok (.ireturn, 1) := by decide +kernel
theorem dX9_splitItem_85 : decode cX9_splitItem 85 = .ok (.iinc 3 1, 3) := by decide +kernel
theorem dX9_splitItem_88 : decode cX9_splitItem 88 = .ok (.goto (-82), 3) := by decide +kernel
theorem dX9_splitItem_91 : decode cX9_splitItem 91 = .ok (.bipush (-2), 2) := by decide +kernel
theorem dX9_splitItem_93 : decode cX9_splitItem 93 = .ok (.ireturn, 1) := by decide +kernel
theorem dX9_figuresFrom_0 : decode cX9_figuresFrom 0 = .ok (.iconst 0, 1) := by decide +kernel
theorem dX9_figuresFrom_1 : decode cX9_figuresFrom 1 = .ok (.istore_n 2, 1) := by decide +kernel
theorem dX9_figuresFrom_2 : decode cX9_figuresFrom 2 = .ok (.iload_n 2, 1) := by decide +kernel
theorem dX9_figuresFrom_3 : decode cX9_figuresFrom 3 = .ok (.sipush 200, 3) := by decide +kernel
theorem dX9_figuresFrom_6 : decode cX9_figuresFrom 6 = .ok (.if_icmp .ge 26, 3) := by decide +kernel
theorem dX9_figuresFrom_9 : decode cX9_figuresFrom 9 = .ok (.aload_n 0, 1) := by decide +kernel
theorem dX9_figuresFrom_10 : decode cX9_figuresFrom 10 = .ok (.iload_n 1, 1) := by decide +kernel
theorem dX9_figuresFrom_11 : decode cX9_figuresFrom 11 = .ok (.iload_n 2, 1) := by decide +kernel
theorem dX9_figuresFrom_12 : decode cX9_figuresFrom 12 = .ok (.iadd, 1) := by decide +kernel
theorem dX9_figuresFrom_13 : decode cX9_figuresFrom 13 = .ok (.invokevirtual 49, 3) := by decide +kernel
theorem dX9_figuresFrom_16 : decode cX9_figuresFrom 16 = .ok (.bipush 48, 2) := by decide +kernel
theorem dX9_figuresFrom_18 : decode cX9_figuresFrom 18 = .ok (.bipush 57, 2) := by decide +kernel
theorem dX9_figuresFrom_20 : decode cX9_figuresFrom 20 = .ok (.invokestatic 41, 3) := by decide +kernel
theorem dX9_figuresFrom_23 : decode cX9_figuresFrom 23 = .ok (.ifCond .eq 9, 3) := by decide +kernel
theorem dX9_figuresFrom_26 : decode cX9_figuresFrom 26 = .ok (.iinc 2 1, 3) := by decide +kernel
theorem dX9_figuresFrom_29 : decode cX9_figuresFrom 29 = .ok (.goto (-27), 3) := by decide +kernel
theorem dX9_figuresFrom_32 : decode cX9_figuresFrom 32 = .ok (.iload_n 2, 1) := by decide +kernel
theorem dX9_figuresFrom_33 : decode cX9_figuresFrom 33 = .ok (.ireturn, 1) := by decide +kernel
theorem dX9_numberFrom_0 : decode cX9_numberFrom 0 = .ok (.iconst 0, 1) := by decide +kernel
theorem dX9_numberFrom_1 : decode cX9_numberFrom 1 = .ok (.istore_n 3, 1) := by decide +kernel
theorem dX9_numberFrom_2 : decode cX9_numberFrom 2 = .ok (.iconst 0, 1) := by decide +kernel
theorem dX9_numberFrom_3 : decode cX9_numberFrom 3 = .ok (.istore 4, 2) := by decide +kernel
theorem dX9_numberFrom_5 : decode cX9_numberFrom 5 = .ok (.iload 4, 2) := by decide +kernel
theorem dX9_numberFrom_7 : decode cX9_numberFrom 7 = .ok (.iload_n 2, 1) := by decide +kernel
theorem dX9_numberFrom_8 : decode cX9_numberFrom 8 = .ok (.if_icmp .ge 26, 3) := by decide +kernel
theorem dX9_numberFrom_11 : decode cX9_numberFrom 11 = .ok (.iload_n 3, 1) := by decide +kernel
theorem dX9_numberFrom_12 : decode cX9_numberFrom 12 = .ok (.bipush 10, 2) := by decide +kernel
theorem dX9_numberFrom_14 : decode cX9_numberFrom 14 = .ok (.imul, 1) := by decide +kernel
theorem dX9_numberFrom_15 : decode cX9_numberFrom 15 = .ok (.aload_n 0, 1) := by decide +kernel
theorem dX9_numberFrom_16 : decode cX9_numberFrom 16 = .ok (.iload_n 1, 1) := by decide +kernel
theorem dX9_numberFrom_17 : decode cX9_numberFrom 17 = .ok (.iload 4, 2) := by decide +kernel
theorem dX9_numberFrom_19 : decode cX9_numberFrom 19 = .ok (.iadd, 1) := by decide +kernel
theorem dX9_numberFrom_20 : decode cX9_numberFrom 20 = .ok (.invokevirtual 49, 3) := by decide +kernel
theorem dX9_numberFrom_23 : decode cX9_numberFrom 23 = .ok (.iadd, 1) := by decide +kernel
theorem dX9_numberFrom_24 : decode cX9_numberFrom 24 = .ok (.bipush 48, 2) := by decide +kernel
theorem dX9_numberFrom_26 : decode cX9_numberFrom 26 = .ok (.isub, 1) := by decide +kernel
theorem dX9_numberFrom_27 : decode cX9_numberFrom 27 = .ok (.istore_n 3, 1) := by decide +kernel
theorem dX9_numberFrom_28 : decode cX9_numberFrom 28 = .ok (.iinc 4 1, 3) := by decide +kernel
theorem dX9_numberFrom_31 : decode cX9_numberFrom 31 = .ok (.goto (-26), 3) := by decide +kernel
theorem dX9_numberFrom_34 : decode cX9_numberFrom 34 = .ok (.iload_n 3, 1) := by decide +kernel
theorem dX9_numberFrom_35 : decode cX9_numberFrom 35 = .ok (.ireturn, 1) := by decide +kernel
theorem dX9_letterAt_0 : decode cX9_letterAt 0 = .ok (.iload_n 1, 1) := by decide +kernel
theorem dX9_letterAt_1 : decode cX9_letterAt 1 = .ok (.ifCond .lt 20, 3) := by decide +kernel
theorem dX9_letterAt_4 : decode cX9_letterAt 4 = .ok (.iload_n 1, 1) := by decide +kernel
theorem dX9_letterAt_5 : decode cX9_letterAt 5 = .ok (.aload_n 0, 1) := by decide +kernel
theorem dX9_letterAt_6 : decode cX9_letterAt 6 = .ok (.getfield 22, 3) := by decide +kernel
theorem dX9_letterAt_9 : decode cX9_letterAt 9 = .ok (.if_icmp .ge 12, 3) := by decide +kernel
theorem dX9_letterAt_12 : decode cX9_letterAt 12 = .ok (.aload_n 0, 1) := by decide +kernel
theorem dX9_letterAt_13 : decode cX9_letterAt 13 = .ok (.getfield 9, 3) := by decide +kernel
theorem dX9_letterAt_16 : decode cX9_letterAt 16 = .ok (.iload_n 1, 1) := by decide +kernel
theorem dX9_letterAt_17 : decode cX9_letterAt 17 = .ok (.iaload, 1) := by decide +kernel
theorem dX9_letterAt_18 : decode cX9_letterAt 18 = .ok (.goto 5, 3) := by decide +kernel
theorem dX9_letterAt_21 : decode cX9_letterAt 21 = .ok (.bipush (-4), 2) := by decide +kernel
theorem dX9_letterAt_23 : decode cX9_letterAt 23 = .ok (.ireturn, 1) := by decide +kernel
theorem dX10_init_0 : decode cX10_init 0 = .ok (.aload_n 0, 1) := by decide +kernel
theorem dX10_init_1 : decode cX10_init 1 = .ok (.invokespecial 3, 3) := by decide +kernel
theorem dX10_init_4 : decode cX10_init 4 = .ok (.aload_n 0, 1) := by decide +kernel
theorem dX10_init_5 : decode cX10_init 5 = .ok (.bipush 12, 2) := by decide +kernel
theorem dX10_init_7 : decode cX10_init 7 = .ok (.putfield 9, 3) := by decide +kernel
theorem dX10_init_10 : decode cX10_init 10 = .ok (.aload_n 0, 1) := by decide +kernel
theorem dX10_init_11 : decode cX10_init 11 = .ok (.iconst 0, 1) := by decide +kernel
theorem dX10_init_12 : decode cX10_init 12 = .ok (.putfield 15, 3) := by decide +kernel
theorem dX10_init_15 : decode cX10_init 15 = .ok (.aload_n 0, 1) := by decide +kernel
theorem dX10_init_16 : decode cX10_init 16 = .ok (.bipush 8, 2) := by decide +kernel
theorem dX10_init_18 : decode cX10_init 18 = .ok (.newarray .int, 2) := by decide +kernel
theorem dX10_init_20 : decode cX10_init 20 = .ok (.putfield 18, 3) := by decide +kernel
theorem dX10_init_23 : decode cX10_init 23 = .ok (.aload_n 0, 1) := by decide +kernel
theorem dX10_init_24 : decode cX10_init 24 = .ok (.bipush 8, 2) := by decide +kernel
theorem dX10_init_26 : decode cX10_init 26 = .ok (.newarray .int, 2) := by decide +kernel
theorem dX10_init_28 : decode cX10_init 28 = .ok (.putfield 22, 3) := by decide +kernel
theorem dX10_init_31 : decode cX10_init 31 = .ok (.aload_n 0, 1) := by decide +kernel
theorem dX10_init_32 : decode cX10_init 32 = .ok (.bipush 8, 2) := by decide +kernel
theorem dX10_init_34 : decode cX10_init 34 = .ok (.newarray .int, 2) := by decide +kernel
theorem dX10_init_36 : decode cX10_init 36 = .ok (.putfield 25, 3) := by decide +kernel
theorem dX10_init_39 : decode cX10_init 39 = .ok (.aload_n 0, 1) := by decide +kernel
theorem dX10_init_40 : decode cX10_init 40 = .ok (.iconst 0, 1) := by decide +kernel
theorem dX10_init_41 : decode cX10_init 41 = .ok (.putfield 28, 3) := by decide +kernel
theorem dX10_init_44 : decode cX10_init 44 = .ok (.aload_n 0, 1) := by decide +kernel
theorem dX10_init_45 : decode cX10_init 45 = .ok (.bipush 6, 2) := by decide +kernel
theorem dX10_init_47 : decode cX10_init 47 = .ok (.newarray .int, 2) := by decide +kernel
theorem dX10_init_49 : decode cX10_init 49 = .ok (.putfield 31, 3) := by decide +kernel
theorem dX10_init_52 : decode cX10_init 52 = .ok (.aload_n 0, 1) := by decide +kernel
theorem dX10_init_53 : decode cX10_init 53 = .ok (.bipush 6, 2) := by decide +kernel
theorem dX10_init_55 : decode cX10_init 55 = .ok (.newarray .int, 2) := by decide +kernel
theorem dX10_init_57 : decode cX10_init 57 = .ok (.putfield 34, 3) := by decide +kernel
theorem dX10_init_60 : decode cX10_init 60 = .ok (.aload_n 0, 1) := by decide +kernel
theorem dX10_init_61 : decode cX10_init 61 = .ok (.bipush 6, 2) := by decide +kernel
theorem dX10_init_63 : decode cX10_init 63 = .ok (.newarray .int, 2) := by decide +kernel
theorem dX10_init_65 : decode cX10_init 65 = .ok (.putfield 37, 3) := by decide +kernel
theorem dX10_init_68 : decode cX10_init 68 = .ok (.aload_n 0, 1) := by decide +kernel
theorem dX10_init_69 : decode cX10_init 69 = .ok (.bipush 6, 2) := by decide +kernel
theorem dX10_init_71 : decode cX10_init 71 = .ok (.newarray .int, 2) := by decide +kernel
theorem dX10_init_73 : decode cX10_init 73 = .ok (.putfield 40, 3) := by decide +kernel
theorem dX10_init_76 : decode cX10_init 76 = .ok (.aload_n 0, 1) := by decide +kernel
theorem dX10_init_77 : decode cX10_init 77 = .ok (.iconst 0, 1) := by decide +kernel
theorem dX10_init_78 : decode cX10_init 78 = .ok (.putfield 43, 3) := by decide +kernel
theorem dX10_init_81 : decode cX10_init 81 = .ok (.aload_n 0, 1) := by decide +kernel
theorem dX10_init_82 : decode cX10_init 82 = .ok (.bipush 8, 2) := by decide +kernel
theorem dX10_init_84 : decode cX10_init 84 = .ok (.newarray .int, 2) := by decide +kernel
theorem dX10_init_86 : decode cX10_init 86 = .ok (.putfield 46, 3) := by decide +kernel
theorem dX10_init_89 : decode cX10_init 89 = .ok (.aload_n 0, 1) := by decide +kernel
theorem dX10_init_90 : decode cX10_init 90 = .ok (.bipush 8, 2) := by decide +kernel
theorem dX10_init_92 : decode cX10_init 92 = .ok (.newarray .int, 2) := by decide +kernel
theorem dX10_init_94 : decode cX10_init 94 = .ok (.putfield 49, 3) := by decide +kernel
theorem dX10_init_97 : decode cX10_init 97 = .ok (.aload_n 0, 1) := by decide +kernel
theorem dX10_init_98 : decode cX10_init 98 = .ok (.iconst 0, 1) := by decide +kernel
theorem dX10_init_99 : decode cX10_init 99 = .ok (.putfield 52, 3) := by decide +kernel
theorem dX10_init_102 : decode cX10_init 102 = .ok (.aload_n 0, 1) := by decide +kernel
theorem dX10_init_103 : decode cX10_init 103 = .ok (.iconst 5, 1) := by decide +kernel
theorem dX10_init_104 : decode cX10_init 104 = .ok (.newarray .int, 2) := by decide +kernel
theorem dX10_init_106 : decode cX10_init 106 = .ok (.putfield 55, 3) := by decide +kernel
theorem dX10_init_109 : decode cX10_init 109 = .ok (.aload_n 0, 1) := by decide +kernel
theorem dX10_init_110 : decode cX10_init 110 = .ok (.iconst 5, 1) := by decide +kernel
theorem dX10_init_111 : decode cX10_init 111 = .ok (.newarray .int, 2) := by decide +kernel
theorem dX10_init_113 : decode cX10_init 113 = .ok (.putfield 58, 3) := by decide +kernel
theorem dX10_init_116 : decode cX10_init 116 = .ok (.aload_n 0, 1) := by decide +kernel
theorem dX10_init_117 : decode cX10_init 117 = .ok (.iconst 5, 1) := by decide +kernel
theorem dX10_init_118 : decode cX10_init 118 = .ok (.newarray .int, 2) := by decide +kernel
theorem dX10_init_120 : decode cX10_init 120 = .ok (.putfield 61, 3) := by decide +kernel
theorem dX10_init_123 : decode cX10_init 123 = .ok (.return_, 1) := by decide +kernel
theorem dX10_start_0 : decode cX10_start 0 = .ok (.aload_n 0, 1) := by decide +kernel
theorem dX10_start_1 : decode cX10_start 1 = .ok (.bipush 12, 2) := by decide +kernel
theorem dX10_start_3 : decode cX10_start 3 = .ok (.putfield 9, 3) := by decide +kernel
theorem dX10_start_6 : decode cX10_start 6 = .ok (.aload_n 0, 1) := by decide +kernel
theorem dX10_start_7 : decode cX10_start 7 = .ok (.iconst 0, 1) := by decide +kernel
theorem dX10_start_8 : decode cX10_start 8 = .ok (.putfield 15, 3) := by decide +kernel
theorem dX10_start_11 : decode cX10_start 11 = .ok (.aload_n 0, 1) := by decide +kernel
theorem dX10_start_12 : decode cX10_start 12 = .ok (.iconst 0, 1) := by decide +kernel
theorem dX10_start_13 : decode cX10_start 13 = .ok (.putfield 28, 3) := by decide +kernel
theorem dX10_start_16 : decode cX10_start 16 = .ok (.aload_n 0, 1) := by decide +kernel
theorem dX10_start_17 : decode cX10_start 17 = .ok (.iconst 0, 1) := by decide +kernel
theorem dX10_start_18 : decode cX10_start 18 = .ok (.putfield 43, 3) := by decide +kernel
theorem dX10_start_21 : decode cX10_start 21 = .ok (.aload_n 0, 1) := by decide +kernel
theorem dX10_start_22 : decode cX10_start 22 = .ok (.iconst 0, 1) := by decide +kernel
theorem dX10_start_23 : decode cX10_start 23 = .ok (.putfield 52, 3) := by decide +kernel
theorem dX10_start_26 : decode cX10_start 26 = .ok (.return_, 1) := by decide +kernel
theorem dX10_wrap_0 : decode cX10_wrap 0 = .ok (.aload_n 0, 1) := by decide +kernel
theorem dX10_wrap_1 : decode cX10_wrap 1 = .ok (.getfield 9, 3) := by decide +kernel
theorem dX10_wrap_4 : decode cX10_wrap 4 = .ok (.ifCond .le 14, 3) := by decide +kernel
theorem dX10_wrap_7 : decode cX10_wrap 7 = .ok (.iload_n 1, 1) := by decide +kernel
theorem dX10_wrap_8 : decode cX10_wrap 8 = .ok (.aload_n 0, 1) := by decide +kernel
theorem dX10_wrap_9 : decode cX10_wrap 9 = .ok (.getfield 9, 3) := by decide +kernel
theorem dX10_wrap_12 : decode cX10_wrap 12 = .ok (.invokestatic 64, 3) := by decide +kernel
theorem dX10_wrap_15 : decode cX10_wrap 15 = .ok (.goto 4, 3) := by decide +kernel
theorem dX10_wrap_18 : decode cX10_wrap 18 = .ok (.iconst 0, 1) := by decide +kernel
theorem dX10_wrap_19 : decode cX10_wrap 19 = .ok (.ireturn, 1) := by decide +kernel
theorem dX10_addItem_0 : decode cX10_addItem 0 = .ok (.aload_n 2, 1) := by decide +kernel
theorem dX10_addItem_1 : decode cX10_addItem 1 = .ok (.arraylength, 1) := by decide +kernel
theorem dX10_addItem_2 : decode cX10_addItem 2 = .ok (.iconst 4, 1) := by decide +kernel
theorem dX10_addItem_3 : decode cX10_addItem 3 = .ok (.if_icmp .ge 5, 3) := by decide +kernel
theorem dX10_addItem_6 : decode cX10_addItem 6 = .ok (.iconst 0, 1) := by decide +kernel
theorem dX10_addItem_7 : decode cX10_addItem 7 = .ok (.ireturn, 1) := by decide +kernel
theorem dX10_addItem_8 : decode cX10_addItem 8 = .ok (.iload_n 1, 1) := by decide +kernel
theorem dX10_addItem_9 : decode cX10_addItem 9 = .ok (.tableswitch 200 103 116 #[173, 200, 200, 200, 200, 92, 149, 71, 200, 200, 200, 200, 200, 119], 71) := by decide +kernel
theorem dX10_addItem_80 : decode cX10_addItem 80 = .ok (.iload_n 3, 1) := by decide +kernel
theorem dX10_addItem_81 : decode cX10_addItem 81 = .ok (.iconst 1, 1) := by decide +kernel
theorem dX10_addItem_82 : decode cX10_addItem 82 = .ok (.if_icmp .ne 17, 3) := by decide +kernel
theorem dX10_addItem_85 : decode cX10_addItem 85 = .ok (.aload_n 0, 1) := by decide +kernel
theorem dX10_addItem_86 : decode cX10_addItem 86 = .ok (.aload_n 2, 1) := by decide +kernel
theorem dX10_addItem_87 : decode cX10_addItem 87 = .ok (.iconst 0, 1) := by decide +kernel
theorem dX10_addItem_88 : decode cX10_addItem 88 = .ok (.iaload, 1) := by decide +kernel
theorem dX10_addItem_89 : decode cX10_addItem 89 = .ok (.invokevirtual 70, 3) := by decide +kernel
theorem dX10_addItem_92 : decode cX10_addItem 92 = .ok (.ifCond .eq 7, 3) := by decide +kernel
theorem dX10_addItem_95 : decode cX10_addItem 95 = .ok (.iconst 1, 1) := by decide +kernel
theorem dX10_addItem_96 : decode cX10_addItem 96 = .ok (.goto 4, 3) := by decide +kernel
theorem dX10_addItem_99 : decode cX10_addItem 99 = .ok (.iconst 0, 1) := by decide +kernel
theorem dX10_addItem_100 : decode cX10_addItem 100 = .ok (.ireturn, 1) := by decide +kernel
theorem dX10_addItem_101 : decode cX10_addItem 101 = .ok (.iload_n 3, 1) := by decide +kernel
theorem dX10_addItem_102 : decode cX10_addItem 102 = .ok (.iconst 3, 1) := by decide +kernel
theorem dX10_addItem_103 : decode cX10_addItem 103 = .ok (.if_icmp .ne 23, 3) := by decide +kernel
theorem dX10_addItem_106 : decode cX10_addItem 106 = .ok (.aload_n 0, 1) := by decide +kernel
theorem dX10_addItem_107 : decode cX10_addItem 107 = .ok (.aload_n 2, 1) := by decide +kernel
theorem dX10_addItem_108 : decode cX10_addItem 108 = .ok (.iconst 0, 1) := by decide +kernel
theorem dX10_addItem_109 : decode cX10_addItem 109 = .ok (.iaload, 1) := by decide +kernel
theorem dX10_addItem_110 : decode cX10_addItem 110 = .ok (.aload_n 2, 1) := by decide +kernel
theorem dX10_addItem_111 : decode cX10_addItem 111 = .ok (.iconst 1, 1) := by decide +kernel
theorem dX10_addItem_112 : decode cX10_addItem 112 = .ok (.iaload, 1) := by decide +kernel
theorem dX10_addItem_113 : decode cX10_addItem 113 = .ok (.aload_n 2, 1) := by decide +kernel
theorem dX10_addItem_114 : decode cX10_addItem 114 = .ok (.iconst 2, 1) := by decide +kernel
theorem dX10_addItem_115 : decode cX10_addItem 115 = .ok (.iaload, 1) := by decide +kernel
theorem dX10_addItem_116 : decode cX10_addItem 116 = .ok (.invokevirtual 74, 3) := by decide +kernel
theorem dX10_addItem_119 : decode cX10_addItem 119 = .ok (.ifCond .eq 7, 3) := by decide +kernel
theorem dX10_addItem_122 : decode cX10_addItem 122 = .ok (.iconst 1, 1) := by decide +kernel
theorem dX10_addItem_123 : decode cX10_addItem 123 = .ok (.goto 4, 3) := by decide +kernel
theorem dX10_addItem_126 : decode cX10_addItem 126 = .ok (.iconst 0, 1) := by decide +kernel
theorem dX10_addItem_127 : decode cX10_addItem 127 = .ok (.ireturn, 1) := by decide +kernel
theorem dX10_addItem_128 : decode cX10_addItem 128 = .ok (.iload_n 3, 1) := by decide +kernel
theorem dX10_addItem_129 : decode cX10_addItem 129 = .ok (.iconst 4, 1) := by decide +kernel
theorem dX10_addItem_130 : decode cX10_addItem 130 = .ok (.if_icmp .ne 26, 3) := by decide +kernel
theorem dX10_addItem_133 : decode cX10_addItem 133 = .ok (.aload_n 0, 1) := by decide +kernel
theorem dX10_addItem_134 : decode cX10_addItem 134 = .ok (.aload_n 2, 1) := by decide +kernel
theorem dX10_addItem_135 : decode cX10_addItem 135 = .ok (.iconst 0, 1) := by decide +kernel
theorem dX10_addItem_136 : decode cX10_addItem 136 = .ok (.iaload, 1) := by decide +kernel
theorem dX10_addItem_137 : decode cX10_addItem 137 = .ok (.aload_n 2, 1) := by decide +kernel
theorem dX10_addItem_138 : decode cX10_addItem 138 = .ok (.iconst 1, 1) := by decide +kernel
theorem dX10_addItem_139 : decode cX10_addItem 139 = .ok (.iaload, 1) := by decide +kernel
theorem dX10_addItem_140 : decode cX10_addItem 140 = .ok (.aload_n 2, 1) := by decide +kernel
theorem dX10_addItem_141 : decode cX10_addItem 141 = .ok (.iconst 2, 1) := by decide +kernel
theorem dX10_addItem_142 : decode cX10_addItem 142 = .ok (.iaload, 1) := by decide +kernel
theorem dX10_addItem_143 : decode cX10_addItem 143 = .ok (.aload_n 2, 1) := by decide +kernel
theorem dX10_addItem_144 : decode cX10_addItem 144 = .ok (.iconst 3, 1) := by decide +kernel
theorem dX10_addItem_145 : decode cX10_addItem 145 = .ok (.iaload, 1) := by decide +kernel
theorem dX10_addItem_146 : decode cX10_addItem 146 = .ok (.invokevirtual 78, 3) := by decide +kernel
theorem dX10_addItem_149 : decode cX10_addItem 149 = .ok (.ifCond .eq 7, 3) := by decide +kernel
theorem dX10_addItem_152 : decode cX10_addItem 152 = .ok (.iconst 1, 1) := by decide +kernel
theorem dX10_addItem_153 : decode cX10_addItem 153 = .ok (.goto 4, 3) := by decide +kernel
theorem dX10_addItem_156 : decode cX10_addItem 156 = .ok (.iconst 0, 1) := by decide +kernel
theorem dX10_addItem_157 : decode cX10_addItem 157 = .ok (.ireturn, 1) := by decide +kernel
theorem dX10_addItem_158 : decode cX10_addItem 158 = .ok (.iload_n 3, 1) := by decide +kernel
theorem dX10_addItem_159 : decode cX10_addItem 159 = .ok (.iconst 2, 1) := by decide +kernel
theorem dX10_addItem_160 : decode cX10_addItem 160 = .ok (.if_icmp .ne 20, 3) := by decide +kernel
theorem dX10_addItem_163 : decode cX10_addItem 163 = .ok (.aload_n 0, 1) := by decide +kernel
theorem dX10_addItem_164 : decode cX10_addItem 164 = .ok (.aload_n 2, 1) := by decide +kernel
theorem dX10_addItem_165 : decode cX10_addItem 165 = .ok (.iconst 0, 1) := by decide +kernel
theorem dX10_addItem_166 : decode cX10_addItem 166 = .ok (.iaload, 1) := by decide +kernel
theorem dX10_addItem_167 : decode cX10_addItem 167 = .ok (.aload_n 2, 1) := by decide +kernel
theorem dX10_addItem_168 : decode cX10_addItem 168 = .ok (.iconst 1, 1) := by decide +kernel
theorem dX10_addItem_169 : decode cX10_addItem 169 = .ok (.iaload, 1) := by decide +kernel
theorem dX10_addItem_170 : decode cX10_addItem 170 = .ok (.invokevirtual 82, 3) := by decide +kernel
theorem dX10_addItem_173 : decode cX10_addItem 173 = .ok (.ifCond .eq 7, 3) := by decide +kernel
theorem dX10_addItem_176 : decode cX10_addItem 176 = .ok (.iconst 1, 1) := by decide +kernel
theorem dX10_addItem_177 : decode cX10_addItem 177 = .ok (.goto 4, 3) := by decide +kernel
theorem dX10_addItem_180 : decode cX10_addItem 180 = .ok (.iconst 0, 1) := by decide +kernel
theorem dX10_addItem_181 : decode cX10_addItem 181 = .ok (.ireturn, 1) := by decide +kernel
theorem dX10_addItem_182 : decode cX10_addItem 182 = .ok (.iload_n 3, 1) := by decide +kernel
theorem dX10_addItem_183 : decode cX10_addItem 183 = .ok (.iconst 3, 1) := by decide +kernel
theorem dX10_addItem_184 : decode cX10_addItem 184 = .ok (.if_icmp .ne 23, 3) := by decide +kernel
theorem dX10_addItem_187 : decode cX10_addItem 187 = .ok (.aload_n 0, 1) := by decide +kernel
theorem dX10_addItem_188 : decode cX10_addItem 188 = .ok (.aload_n 2, 1) := by decide +kernel
theorem dX10_addItem_189 : decode cX10_addItem 189 = .ok (.iconst 0, 1) := by decide +kernel
theorem dX10_addItem_190 : decode cX10_addItem 190 = .ok (.iaload, 1) := by decide +kernel
theorem dX10_addItem_191 : decode cX10_addItem 191 = .ok (.aload_n 2, 1) := by decide +kernel
theorem dX10_addItem_192 : decode cX10_addItem 192 = .ok (.iconst 1, 1) := by decide +kernel
theorem dX10_addItem_193 : decode cX10_addItem 193 = .ok (.iaload, 1) := by decide +kernel
theorem dX10_addItem_194 : decode cX10_addItem 194 = .ok (.aload_n 2, 1) := by decide +kernel
theorem dX10_addItem_195 : decode cX10_addItem 195 = .ok (.iconst 2, 1) := by decide +kernel
theorem dX10_addItem_196 : decode cX10_addItem 196 = .ok (.iaload, 1) := by decide +kernel
theorem dX10_addItem_197 : decode cX10_addItem 197 = .ok (.invokevirtual 86, 3) := by decide +kernel
theorem dX10_addItem_200 : decode cX10_addItem 200 = .ok (.ifCond .eq 7, 3) := by decide +kernel
theorem dX10_addItem_203 : decode cX10_addItem 203 = .ok (.iconst 1, 1) := by decide +kernel
theorem dX10_addItem_204 : decode cX10_addItem 204 = .ok (.goto 4, 3) := by decide +kernel
theorem dX10_addItem_207 : decode cX10_addItem 207 = .ok (.iconst 0, 1) := by decide +kernel
theorem dX10_addItem_208 : decode cX10_addItem 208 = .ok (.ireturn, 1) := by decide +kernel
theorem dX10_addItem_209 : decode cX10_addItem 209 = .ok (.iconst 0, 1) := by decide +kernel
theorem dX10_addItem_210 : decode cX10_addItem 210 = .ok (.ireturn, 1) := by decide +kernel
theorem dX10_addPlaces_0 : decode cX10_addPlaces 0 = .ok (.aload_n 0, 1) := by decide +kernel
theorem dX10_addPlaces_1 : decode cX10_addPlaces 1 = .ok (.getfield 15, 3) := by decide +kernel
theorem dX10_addPlaces_4 : decode cX10_addPlaces 4 = .ok (.aload_n 0, 1) := by decide +kernel
theorem dX10_addPlaces_5 : decode cX10_addPlaces 5 = .ok (.getfield 28, 3) := by decide +kernel
theorem dX10_addPlaces_8 : decode cX10_addPlaces 8 = .ok (.iadd, 1) := by decide +kernel
theorem dX10_addPlaces_9 : decode cX10_addPlaces 9 = .ok (.aload_n 0, 1) := by decide +kernel
theorem dX10_addPlaces_10 : decode cX10_addPlaces 10 = .ok (.getfield 43, 3) := by decide +kernel
theorem dX10_addPlaces_13 : decode cX10_addPlaces 13 = .ok (.iadd, 1) := by decide +kernel
theorem dX10_addPlaces_14 : decode cX10_addPlaces 14 = .ok (.aload_n 0, 1) := by decide +kernel
theorem dX10_addPlaces_15 : decode cX10_addPlaces 15 = .ok (.getfield 52, 3) := by decide +kernel
theorem dX10_addPlaces_18 : decode cX10_addPlaces 18 = .ok (.iadd, 1) := by decide +kernel
theorem dX10_addPlaces_19 : decode cX10_addPlaces 19 = .ok (.ifCond .gt 13, 3) := by decide +kernel
theorem dX10_addPlaces_22 : decode cX10_addPlaces 22 = .ok (.iload_n 1, 1) := by decide +kernel
theorem dX10_addPlaces_23 : decode cX10_addPlaces 23 = .ok (.iconst 4, 1) := by decide +kernel
theorem dX10_addPlaces_24 : decode cX10_addPlaces 24 = .ok (.bipush 24, 2) := by decide +kernel
theorem dX10_addPlaces_26 : decode cX10_addPlaces 26 = .ok (.invokestatic 89, 3) := by decide +kernel
theorem dX10_addPlaces_29 : decode cX10_addPlaces 29 = .ok (.ifCond .ne 5, 3) := by decide +kernel
theorem dX10_addPlaces_32 : decode cX10_addPlaces 32 = .ok (.iconst 0, 1) := by decide +kernel
theorem dX10_addPlaces_33 : decode cX10_addPlaces 33 = .ok (.ireturn, 1) := by decide +kernel
theorem dX10_addPlaces_34 : decode cX10_addPlaces 34 = .ok (.aload_n 0, 1) := by decide +kernel
theorem dX10_addPlaces_35 : decode cX10_addPlaces 35 = .ok (.iload_n 1, 1) := by decide +kernel
theorem dX10_addPlaces_36 : decode cX10_addPlaces 36 = .ok (.putfield 9, 3) := by decide +kernel
theorem dX10_addPlaces_39 : decode cX10_addPlaces 39 = .ok (.iconst 1, 1) := by decide +kernel
theorem dX10_addPlaces_40 : decode cX10_addPlaces 40 = .ok (.ireturn, 1) := by decide +kernel
theorem dX10_addLevel_0 : decode cX10_addLevel 0 = .ok (.aload_n 0, 1) := by decide +kernel
theorem dX10_addLevel_1 : decode cX10_addLevel 1 = .ok (.getfield 15, 3) := by decide +kernel
theorem dX10_addLevel_4 : decode cX10_addLevel 4 = .ok (.bipush 8, 2) := by decide +kernel
theorem dX10_addLevel_6 : decode cX10_addLevel 6 = .ok (.if_icmp .lt 5, 3) := by decide +kernel
theorem dX10_addLevel_9 : decode cX10_addLevel 9 = .ok (.iconst 0, 1) := by decide +kernel
theorem dX10_addLevel_10 : decode cX10_addLevel 10 = .ok (.ireturn, 1) := by decide +kernel
theorem dX10_addLevel_11 : decode cX10_addLevel 11 = .ok (.iload_n 1, 1) := by decide +kernel
theorem dX10_addLevel_12 : decode cX10_addLevel 12 = .ok (.iconst 0, 1) := by decide +kernel
theorem dX10_addLevel_13 : decode cX10_addLevel 13 = .ok (.bipush 6, 2) := by decide +kernel
theorem dX10_addLevel_15 : decode cX10_addLevel 15 = .ok (.invokestatic 89, 3) := by decide +kernel
theorem dX10_addLevel_18 : decode cX10_addLevel 18 = .ok (.ifCond .eq 23, 3) := by decide +kernel
theorem dX10_addLevel_21 : decode cX10_addLevel 21 = .ok (.iload_n 2, 1) := by decide +kernel
theorem dX10_addLevel_22 : decode cX10_addLevel 22 = .ok (.iconst 0, 1) := by decide +kernel
theorem dX10_addLevel_23 : decode cX10_addLevel 23 = .ok (.bipush 9, 2) := by decide +kernel
theorem dX10_addLevel_25 : decode cX10_addLevel 25 = .ok (.invokestatic 89, 3) := by decide +kernel
theorem dX10_addLevel_28 : decode cX10_addLevel 28 = .ok (.ifCond .eq 13, 3) := by decide +kernel
theorem dX10_addLevel_31 : decode cX10_addLevel 31 = .ok (.iload_n 3, 1) := by decide +kernel
theorem dX10_addLevel_32 : decode cX10_addLevel 32 = .ok (.iconst 1, 1) := by decide +kernel
theorem dX10_addLevel_33 : decode cX10_addLevel 33 = .ok (.bipush 9, 2) := by decide +kernel
theorem dX10_addLevel_35 : decode cX10_addLevel 35 = .ok (.invokestatic 89, 3) := by decide +kernel
theorem dX10_addLevel_38 : decode cX10_addLevel 38 = .ok (.ifCond .ne 5, 3) := by decide +kernel
theorem dX10_addLevel_41 : decode cX10_addLevel 41 = .ok (.iconst 0, 1) := by decide +kernel
theorem dX10_addLevel_42 : decode cX10_addLevel 42 = .ok (.ireturn, 1) := by decide +kernel
theorem dX10_addLevel_43 : decode cX10_addLevel 43 = .ok (.aload_n 0, 1) := by decide +kernel
theorem dX10_addLevel_44 : decode cX10_addLevel 44 = .ok (.getfield 18, 3) := by decide +kernel
theorem dX10_addLevel_47 : decode cX10_addLevel 47 = .ok (.aload_n 0, 1) := by decide +kernel
theorem dX10_addLevel_48 : decode cX10_addLevel 48 = .ok (.getfield 15, 3) := by decide +kernel
theorem dX10_addLevel_51 : decode cX10_addLevel 51 = .ok (.iload_n 1, 1) := by decide +kernel
theorem dX10_addLevel_52 : decode cX10_addLevel 52 = .ok (.iastore, 1) := by decide +kernel
theorem dX10_addLevel_53 : decode cX10_addLevel 53 = .ok (.aload_n 0, 1) := by decide +kernel
theorem dX10_addLevel_54 : decode cX10_addLevel 54 = .ok (.getfield 22, 3) := by decide +kernel
theorem dX10_addLevel_57 : decode cX10_addLevel 57 = .ok (.aload_n 0, 1) := by decide +kernel
theorem dX10_addLevel_58 : decode cX10_addLevel 58 = .ok (.getfield 15, 3) := by decide +kernel
theorem dX10_addLevel_61 : decode cX10_addLevel 61 = .ok (.iload_n 2, 1) := by decide +kernel
theorem dX10_addLevel_62 : decode cX10_addLevel 62 = .ok (.iastore, 1) := by decide +kernel
theorem dX10_addLevel_63 : decode cX10_addLevel 63 = .ok (.aload_n 0, 1) := by decide +kernel
theorem dX10_addLevel_64 : decode cX10_addLevel 64 = .ok (.getfield 25, 3) := by decide +kernel
theorem dX10_addLevel_67 : decode cX10_addLevel 67 = .ok (.aload_n 0, 1) := by decide +kernel
theorem dX10_addLevel_68 : decode cX10_addLevel 68 = .ok (.getfield 15, 3) := by decide +kernel
theorem dX10_addLevel_71 : decode cX10_addLevel 71 = .ok (.iload_n 3, 1) := by decide +kernel
theorem dX10_addLevel_72 : decode cX10_addLevel 72 = .ok (.iastore, 1) := by decide +kernel
theorem dX10_addLevel_73 : decode cX10_addLevel 73 = .ok (.aload_n 0, 1) := by decide +kernel
theorem dX10_addLevel_74 : decode cX10_addLevel 74 = .ok (.dup, 1) := by decide +kernel
theorem dX10_addLevel_75 : decode cX10_addLevel 75 = .ok (.getfield 15, 3) := by decide +kernel
theorem dX10_addLevel_78 : decode cX10_addLevel 78 = .ok (.iconst 1, 1) := by decide +kernel
theorem dX10_addLevel_79 : decode cX10_addLevel 79 = .ok (.iadd, 1) := by decide +kernel
theorem dX10_addLevel_80 : decode cX10_addLevel 80 = .ok (.putfield 15, 3) := by decide +kernel
theorem dX10_addLevel_83 : decode cX10_addLevel 83 = .ok (.iconst 1, 1) := by decide +kernel
theorem dX10_addLevel_84 : decode cX10_addLevel 84 = .ok (.ireturn, 1) := by decide +kernel
theorem dX10_addTown_0 : decode cX10_addTown 0 = .ok (.aload_n 0, 1) := by decide +kernel
theorem dX10_addTown_1 : decode cX10_addTown 1 = .ok (.getfield 28, 3) := by decide +kernel
theorem dX10_addTown_4 : decode cX10_addTown 4 = .ok (.bipush 6, 2) := by decide +kernel
theorem dX10_addTown_6 : decode cX10_addTown 6 = .ok (.if_icmp .ge 12, 3) := by decide +kernel
theorem dX10_addTown_9 : decode cX10_addTown 9 = .ok (.aload_n 0, 1) := by decide +kernel
theorem dX10_addTown_10 : decode cX10_addTown 10 = .ok (.iload_n 2, 1) := by decide +kernel
theorem dX10_addTown_11 : decode cX10_addTown 11 = .ok (.iload_n 1, 1) := by decide +kernel
theorem dX10_addTown_12 : decode cX10_addTown 12 = .ok (.invokevirtual 92, 3) := by decide +kernel
theorem dX10_addTown_15 : decode cX10_addTown 15 = .ok (.ifCond .ne 5, 3) := by decide +kernel
theorem dX10_addTown_18 : decode cX10_addTown 18 = .ok (.iconst 0, 1) := by decide +kernel
theorem dX10_addTown_19 : decode cX10_addTown 19 = .ok (.ireturn, 1) := by decide +kernel
theorem dX10_addTown_20 : decode cX10_addTown 20 = .ok (.iload_n 3, 1) := by decide +kernel
theorem dX10_addTown_21 : decode cX10_addTown 21 = .ok (.iconst 0, 1) := by decide +kernel
theorem dX10_addTown_22 : decode cX10_addTown 22 = .ok (.bipush 20, 2) := by decide +kernel
theorem dX10_addTown_24 : decode cX10_addTown 24 = .ok (.invokestatic 89, 3) := by decide +kernel
theorem dX10_addTown_27 : decode cX10_addTown 27 = .ok (.ifCond .eq 14, 3) := by decide +kernel
theorem dX10_addTown_30 : decode cX10_addTown 30 = .ok (.iload 4, 2) := by decide +kernel
theorem dX10_addTown_32 : decode cX10_addTown 32 = .ok (.iconst 0, 1) := by decide +kernel
theorem dX10_addTown_33 : decode cX10_addTown 33 = .ok (.bipush 20, 2) := by decide +kernel
theorem dX10_addTown_35 : decode cX10_addTown 35 = .ok (.invokestatic 89, 3) := by decide +kernel
theorem dX10_addTown_38 : decode cX10_addTown 38 = .ok (.ifCond .ne 5, 3) := by decide +kernel
theorem dX10_addTown_41 : decode cX10_addTown 41 = .ok (.iconst 0, 1) := by decide +kernel
theorem dX10_addTown_42 : decode cX10_addTown 42 = .ok (.ireturn, 1) := by decide +kernel
theorem dX10_addTown_43 : decode cX10_addTown 43 = .ok (.aload_n 0, 1) := by decide +kernel
theorem dX10_addTown_44 : decode cX10_addTown 44 = .ok (.getfield 31, 3) := by decide +kernel
theorem dX10_addTown_47 : decode cX10_addTown 47 = .ok (.aload_n 0, 1) := by decide +kernel
theorem dX10_addTown_48 : decode cX10_addTown 48 = .ok (.getfield 28, 3) := by decide +kernel
theorem dX10_addTown_51 : decode cX10_addTown 51 = .ok (.iload_n 2, 1) := by decide +kernel
theorem dX10_addTown_52 : decode cX10_addTown 52 = .ok (.iastore, 1) := by decide +kernel
theorem dX10_addTown_53 : decode cX10_addTown 53 = .ok (.aload_n 0, 1) := by decide +kernel
theorem dX10_addTown_54 : decode cX10_addTown 54 = .ok (.getfield 34, 3) := by decide +kernel
theorem dX10_addTown_57 : decode cX10_addTown 57 = .ok (.aload_n 0, 1) := by decide +kernel
theorem dX10_addTown_58 : decode cX10_addTown 58 = .ok (.getfield 28, 3) := by decide +kernel
theorem dX10_addTown_61 : decode cX10_addTown 61 = .ok (.iload_n 1, 1) := by decide +kernel
theorem dX10_addTown_62 : decode cX10_addTown 62 = .ok (.iastore, 1) := by decide +kernel
theorem dX10_addTown_63 : decode cX10_addTown 63 = .ok (.aload_n 0, 1) := by decide +kernel
theorem dX10_addTown_64 : decode cX10_addTown 64 = .ok (.getfield 37, 3) := by decide +kernel
theorem dX10_addTown_67 : decode cX10_addTown 67 = .ok (.aload_n 0, 1) := by decide +kernel
theorem dX10_addTown_68 : decode cX10_addTown 68 = .ok (.getfield 28, 3) := by decide +kernel
theorem dX10_addTown_71 : decode cX10_addTown 71 = .ok (.iload_n 3, 1) := by decide +kernel
theorem dX10_addTown_72 : decode cX10_addTown 72 = .ok (.iastore, 1) := by decide +kernel
theorem dX10_addTown_73 : decode cX10_addTown 73 = .ok (.aload_n 0, 1) := by decide +kernel
theorem dX10_addTown_74 : decode cX10_addTown 74 = .ok (.getfield 40, 3) := by decide +kernel
theorem dX10_addTown_77 : decode cX10_addTown 77 = .ok (.aload_n 0, 1) := by decide +kernel
theorem dX10_addTown_78 : decode cX10_addTown 78 = .ok (.getfield 28, 3) := by decide +kernel
theorem dX10_addTown_81 : decode cX10_addTown 81 = .ok (.iload 4, 2) := by decide +kernel
theorem dX10_addTown_83 : decode cX10_addTown 83 = .ok (.iastore, 1) := by decide +kernel
theorem dX10_addTown_84 : decode cX10_addTown 84 = .ok (.aload_n 0, 1) := by decide +kernel
theorem dX10_addTown_85 : decode cX10_addTown 85 = .ok (.dup, 1) := by decide +kernel
theorem dX10_addTown_86 : decode cX10_addTown 86 = .ok (.getfield 28, 3) := by decide +kernel
theorem dX10_addTown_89 : decode cX10_addTown 89 = .ok (.iconst 1, 1) := by decide +kernel
theorem dX10_addTown_90 : decode cX10_addTown 90 = .ok (.iadd, 1) := by decide +kernel
theorem dX10_addTown_91 : decode cX10_addTown 91 = .ok (.putfield 28, 3) := by decide +kernel
theorem dX10_addTown_94 : decode cX10_addTown 94 = .ok (.iconst 1, 1) := by decide +kernel
theorem dX10_addTown_95 : decode cX10_addTown 95 = .ok (.ireturn, 1) := by decide +kernel
theorem dX10_addMarket_0 : decode cX10_addMarket 0 = .ok (.aload_n 0, 1) := by decide +kernel
theorem dX10_addMarket_1 : decode cX10_addMarket 1 = .ok (.getfield 43, 3) := by decide +kernel
theorem dX10_addMarket_4 : decode cX10_addMarket 4 = .ok (.bipush 8, 2) := by decide +kernel
theorem dX10_addMarket_6 : decode cX10_addMarket 6 = .ok (.if_icmp .ge 12, 3) := by decide +kernel
theorem dX10_addMarket_9 : decode cX10_addMarket 9 = .ok (.aload_n 0, 1) := by decide +kernel
theorem dX10_addMarket_10 : decode cX10_addMarket 10 = .ok (.iload_n 1, 1) := by decide +kernel
theorem dX10_addMarket_11 : decode cX10_addMarket 11 = .ok (.iload_n 2, 1) := by decide +kernel
theorem dX10_addMarket_12 : decode cX10_addMarket 12 = .ok (.invokevirtual 92, 3) := by decide +kernel
theorem dX10_addMarket_15 : decode cX10_addMarket 15 = .ok (.ifCond .ne 5, 3) := by decide +kernel
theorem dX10_addMarket_18 : decode cX10_addMarket 18 = .ok (.iconst 0, 1) := by decide +kernel
theorem dX10_addMarket_19 : decode cX10_addMarket 19 = .ok (.ireturn, 1) := by decide +kernel
theorem dX10_addMarket_20 : decode cX10_addMarket 20 = .ok (.aload_n 0, 1) := by decide +kernel
theorem dX10_addMarket_21 : decode cX10_addMarket 21 = .ok (.getfield 46, 3) := by decide +kernel
theorem dX10_addMarket_24 : decode cX10_addMarket 24 = .ok (.aload_n 0, 1) := by decide +kernel
theorem dX10_addMarket_25 : decode cX10_addMarket 25 = .ok (.getfield 43, 3) := by decide +kernel
theorem dX10_addMarket_28 : decode cX10_addMarket 28 = .ok (.iload_n 1, 1) := by decide +kernel
theorem dX10_addMarket_29 : decode cX10_addMarket 29 = .ok (.iastore, 1) := by decide +kernel
theorem dX10_addMarket_30 : decode cX10_addMarket 30 = .ok (.aload_n 0, 1) := by decide +kernel
theorem dX10_addMarket_31 : decode cX10_addMarket 31 = .ok (.getfield 49, 3) := by decide +kernel
theorem dX10_addMarket_34 : decode cX10_addMarket 34 = .ok (.aload_n 0, 1) := by decide +kernel
theorem dX10_addMarket_35 : decode cX10_addMarket 35 = .ok (.getfield 43, 3) := by decide +kernel
theorem dX10_addMarket_38 : decode cX10_addMarket 38 = .ok (.iload_n 2, 1) := by decide +kernel
theorem dX10_addMarket_39 : decode cX10_addMarket 39 = .ok (.iastore, 1) := by decide +kernel
theorem dX10_addMarket_40 : decode cX10_addMarket 40 = .ok (.aload_n 0, 1) := by decide +kernel
theorem dX10_addMarket_41 : decode cX10_addMarket 41 = .ok (.dup, 1) := by decide +kernel
theorem dX10_addMarket_42 : decode cX10_addMarket 42 = .ok (.getfield 43, 3) := by decide +kernel
theorem dX10_addMarket_45 : decode cX10_addMarket 45 = .ok (.iconst 1, 1) := by decide +kernel
theorem dX10_addMarket_46 : decode cX10_addMarket 46 = .ok (.iadd, 1) := by decide +kernel
theorem dX10_addMarket_47 : decode cX10_addMarket 47 = .ok (.putfield 43, 3) := by decide +kernel
theorem dX10_addMarket_50 : decode cX10_addMarket 50 = .ok (.iconst 1, 1) := by decide +kernel
theorem dX10_addMarket_51 : decode cX10_addMarket 51 = .ok (.ireturn, 1) := by decide +kernel
theorem dX10_addThing_0 : decode cX10_addThing 0 = .ok (.aload_n 0, 1) := by decide +kernel
theorem dX10_addThing_1 : decode cX10_addThing 1 = .ok (.getfield 52, 3) := by decide +kernel
theorem dX10_addThing_4 : decode cX10_addThing 4 = .ok (.iconst 5, 1) := by decide +kernel
theorem dX10_addThing_5 : decode cX10_addThing 5 = .ok (.if_icmp .ge 22, 3) := by decide +kernel
theorem dX10_addThing_8 : decode cX10_addThing 8 = .ok (.aload_n 0, 1) := by decide +kernel
theorem dX10_addThing_9 : decode cX10_addThing 9 = .ok (.iload_n 1, 1) := by decide +kernel
theorem dX10_addThing_10 : decode cX10_addThing 10 = .ok (.iload_n 2, 1) := by decide +kernel
theorem dX10_addThing_11 : decode cX10_addThing 11 = .ok (.invokevirtual 92, 3) := by decide +kernel
theorem dX10_addThing_14 : decode cX10_addThing 14 = .ok (.ifCond .eq 13, 3) := by decide +kernel
theorem dX10_addThing_17 : decode cX10_addThing 17 = .ok (.iload_n 3, 1) := by decide +kernel
theorem dX10_addThing_18 : decode cX10_addThing 18 = .ok (.iconst 0, 1) := by decide +kernel
theorem dX10_addThing_19 : decode cX10_addThing 19 = .ok (.bipush 9, 2) := by decide +kernel
theorem dX10_addThing_21 : decode cX10_addThing 21 = .ok (.invokestatic 89, 3) := by decide +kernel
theorem dX10_addThing_24 : decode cX10_addThing 24 = .ok (.ifCond .ne 5, 3) := by decide +kernel
theorem dX10_addThing_27 : decode cX10_addThing 27 = .ok (.iconst 0, 1) := by decide +kernel
theorem dX10_addThing_28 : decode cX10_addThing 28 = .ok (.ireturn, 1) := by decide +kernel
theorem dX10_addThing_29 : decode cX10_addThing 29 = .ok (.aload_n 0, 1) := by decide +kernel
theorem dX10_addThing_30 : decode cX10_addThing 30 = .ok (.getfield 55, 3) := by decide +kernel
theorem dX10_addThing_33 : decode cX10_addThing 33 = .ok (.aload_n 0, 1) := by decide +kernel
theorem dX10_addThing_34 : decode cX10_addThing 34 = .ok (.getfield 52, 3) := by decide +kernel
theorem dX10_addThing_37 : decode cX10_addThing 37 = .ok (.iload_n 1, 1) := by decide +kernel
theorem dX10_addThing_38 : decode cX10_addThing 38 = .ok (.iastore, 1) := by decide +kernel
theorem dX10_addThing_39 : decode cX10_addThing 39 = .ok (.aload_n 0, 1) := by decide +kernel
theorem dX10_addThing_40 : decode cX10_addThing 40 = .ok (.getfield 58, 3) := by decide +kernel
theorem dX10_addThing_43 : decode cX10_addThing 43 = .ok (.aload_n 0, 1) := by decide +kernel
theorem dX10_addThing_44 : decode cX10_addThing 44 = .ok (.getfield 52, 3) := by decide +kernel
theorem dX10_addThing_47 : decode cX10_addThing 47 = .ok (.iload_n 2, 1) := by decide +kernel
theorem dX10_addThing_48 : decode cX10_addThing 48 = .ok (.iastore, 1) := by decide +kernel
theorem dX10_addThing_49 : decode cX10_addThing 49 = .ok (.aload_n 0, 1) := by decide +kernel
theorem dX10_addThing_50 : decode cX10_addThing 50 = .ok (.getfield 61, 3) := by decide +kernel
theorem dX10_addThing_53 : decode cX10_addThing 53 = .ok (.aload_n 0, 1) := by decide +kernel
theorem dX10_addThing_54 : decode cX10_addThing 54 = .ok (.getfield 52, 3) := by decide +kernel
theorem dX10_addThing_57 : decode cX10_addThing 57 = .ok (.iload_n 3, 1) := by decide +kernel
theorem dX10_addThing_58 : decode cX10_addThing 58 = .ok (.iastore, 1) := by decide +kernel
theorem dX10_addThing_59 : decode cX10_addThing 59 = .ok (.aload_n 0, 1) := by decide +kernel
theorem dX10_addThing_60 : decode cX10_addThing 60 = .ok (.dup, 1) := by decide +kernel
theorem dX10_addThing_61 : decode cX10_addThing 61 = .ok (.getfield 52, 3) := by decide +kernel
theorem dX10_addThing_64 : decode cX10_addThing 64 = .ok (.iconst 1, 1) := by decide +kernel
theorem dX10_addThing_65 : decode cX10_addThing 65 = .ok (.iadd, 1) := by decide +kernel
theorem dX10_addThing_66 : decode cX10_addThing 66 = .ok (.putfield 52, 3) := by decide +kernel
theorem dX10_addThing_69 : decode cX10_addThing 69 = .ok (.iconst 1, 1) := by decide +kernel
theorem dX10_addThing_70 : decode cX10_addThing 70 = .ok (.ireturn, 1) := by decide +kernel
theorem dX10_canBeSpot_0 : decode cX10_canBeSpot 0 = .ok (.iload_n 1, 1) := by decide +kernel
theorem dX10_canBeSpot_1 : decode cX10_canBeSpot 1 = .ok (.iconst 0, 1) := by decide +kernel
theorem dX10_canBeSpot_2 : decode cX10_canBeSpot 2 = .ok (.bipush 7, 2) := by decide +kernel
theorem dX10_canBeSpot_4 : decode cX10_canBeSpot 4 = .ok (.invokestatic 89, 3) := by decide +kernel
theorem dX10_canBeSpot_7 : decode cX10_canBeSpot 7 = .ok (.ifCond .eq 21, 3) := by decide +kernel
theorem dX10_canBeSpot_10 : decode cX10_canBeSpot 10 = .ok (.iload_n 2, 1) := by decide +kernel
theorem dX10_canBeSpot_11 : decode cX10_canBeSpot 11 = .ok (.iconst 0, 1) := by decide +kernel
theorem dX10_canBeSpot_12 : decode cX10_canBeSpot 12 = .ok (.aload_n 0, 1) := by decide +kernel
theorem dX10_canBeSpot_13 : decode cX10_canBeSpot 13 = .ok (.getfield 9, 3) := by decide +kernel
theorem dX10_canBeSpot_16 : decode cX10_canBeSpot 16 = .ok (.iconst 1, 1) := by decide +kernel
theorem dX10_canBeSpot_17 : decode cX10_canBeSpot 17 = .ok (.isub, 1) := by decide +kernel
theorem dX10_canBeSpot_18 : decode cX10_canBeSpot 18 = .ok (.invokestatic 89, 3) := by decide +kernel
theorem dX10_canBeSpot_21 : decode cX10_canBeSpot 21 = .ok (.ifCond .eq 7, 3) := by decide +kernel
theorem dX10_canBeSpot_24 : decode cX10_canBeSpot 24 = .ok (.iconst 1, 1) := by decide +kernel
theorem dX10_canBeSpot_25 : decode cX10_canBeSpot 25 = .ok (.goto 4, 3) := by decide +kernel
theorem dX10_canBeSpot_28 : decode cX10_canBeSpot 28 = .ok (.iconst 0, 1) := by decide +kernel
theorem dX10_canBeSpot_29 : decode cX10_canBeSpot 29 = .ok (.ireturn, 1) := by decide +kernel
theorem dX10_holds_0 : decode cX10_holds 0 = .ok (.aload_n 0, 1) := by decide +kernel
theorem dX10_holds_1 : decode cX10_holds 1 = .ok (.getfield 15, 3) := by decide +kernel
theorem dX10_holds_4 : decode cX10_holds 4 = .ok (.ifCond .le 21, 3) := by decide +kernel
theorem dX10_holds_7 : decode cX10_holds 7 = .ok (.aload_n 0, 1) := by decide +kernel
theorem dX10_holds_8 : decode cX10_holds 8 = .ok (.invokevirtual 95, 3) := by decide +kernel
theorem dX10_holds_11 : decode cX10_holds 11 = .ok (.ifCond .eq 14, 3) := by decide +kernel
theorem dX10_holds_14 : decode cX10_holds 14 = .ok (.aload_n 0, 1) := by decide +kernel
theorem dX10_holds_15 : decode cX10_holds 15 = .ok (.invokevirtual 99, 3) := by decide +kernel
theorem dX10_holds_18 : decode cX10_holds 18 = .ok (.ifCond .eq 7, 3) := by decide +kernel
theorem dX10_holds_21 : decode cX10_holds 21 = .ok (.iconst 1, 1) := by decide +kernel
theorem dX10_holds_22 : decode cX10_holds 22 = .ok (.goto 4, 3) := by decide +kernel
theorem dX10_holds_25 : decode cX10_holds 25 = .ok (.iconst 0, 1) := by decide +kernel
theorem dX10_holds_26 : decode cX10_holds 26 = .ok (.ireturn, 1) := by decide +kernel
theorem dX10_allLevelsThere_0 : decode cX10_allLevelsThere 0 = .ok (.iconst 0, 1) := by decide +kernel
theorem dX10_allLevelsThere_1 : decode cX10_allLevelsThere 1 = .ok (.istore_n 1, 1) := by decide +kernel
theorem dX10_allLevelsThere_2 : decode cX10_allLevelsThere 2 = .ok (.iload_n 1, 1) := by decide +kernel
theorem dX10_allLevelsThere_3 : decode cX10_allLevelsThere 3 = .ok (.aload_n 0, 1) := by decide +kernel
theorem dX10_allLevelsThere_4 : decode cX10_allLevelsThere 4 = .ok (.getfield 28, 3) := by decide +kernel
theorem dX10_allLevelsThere_7 : decode cX10_allLevelsThere 7 = .ok (.if_icmp .ge 24, 3) := by decide +kernel
theorem dX10_allLevelsThere_10 : decode cX10_allLevelsThere 10 = .ok (.aload_n 0, 1) := by decide +kernel
theorem dX10_allLevelsThere_11 : decode cX10_allLevelsThere 11 = .ok (.getfield 31, 3) := by decide +kernel
theorem dX10_allLevelsThere_14 : decode cX10_allLevelsThere 14 = .ok (.iload_n 1, 1) := by decide +kernel
theorem dX10_allLevelsThere_15 : decode cX10_allLevelsThere 15 = .ok (.iaload, 1) := by decide +kernel
theorem dX10_allLevelsThere_16 : decode cX10_allLevelsThere 16 = .ok (.aload_n 0, 1) := by decide +kernel
theorem dX10_allLevelsThere_17 : decode cX10_allLevelsThere 17 = .ok (.getfield 15, 3) := by decide +kernel
theorem dX10_allLevelsThere_20 : decode cX10_allLevelsThere 20 = .ok (.if_icmp .lt 5, 3) := by decide +kernel
theorem dX10_allLevelsThere_23 : decode cX10_allLevelsThere 23 = .ok (.iconst 0, 1) := by decide +kernel
theorem dX10_allLevelsThere_24 : decode cX10_allLevelsThere 24 = .ok (.ireturn, 1) := by decide +kernel
theorem dX10_allLevelsThere_25 : decode cX10_allLevelsThere 25 = .ok (.iinc 1 1, 3) := by decide +kernel
theorem dX10_allLevelsThere_28 : decode cX10_allLevelsThere 28 = .ok (.goto (-26), 3) := by decide +kernel
theorem dX10_allLevelsThere_31 : decode cX10_allLevelsThere 31 = .ok (.iconst 0, 1) := by decide +kernel
theorem dX10_allLevelsThere_32 : decode cX10_allLevelsThere 32 = .ok (.istore_n 1, 1) := by decide +kernel
theorem dX10_allLevelsThere_33 : decode cX10_allLevelsThere 33 = .ok (.iload_n 1, 1) := by decide +kernel
theorem dX10_allLevelsThere_34 : decode cX10_allLevelsThere 34 = .ok (.aload_n 0, 1) := by decide +kernel
theorem dX10_allLevelsThere_35 : decode cX10_allLevelsThere 35 = .ok (.getfield 43, 3) := by decide +kernel
theorem dX10_allLevelsThere_38 : decode cX10_allLevelsThere 38 = .ok (.if_icmp .ge 24, 3) := by decide +kernel
theorem dX10_allLevelsThere_41 : decode cX10_allLevelsThere 41 = .ok (.aload_n 0, 1) := by decide +kernel
theorem dX10_allLevelsThere_42 : decode cX10_allLevelsThere 42 = .ok (.getfield 46, 3) := by decide +kernel
theorem dX10_allLevelsThere_45 : decode cX10_allLevelsThere 45 = .ok (.iload_n 1, 1) := by decide +kernel
theorem dX10_allLevelsThere_46 : decode cX10_allLevelsThere 46 = .ok (.iaload, 1) := by decide +kernel
theorem dX10_allLevelsThere_47 : decode cX10_allLevelsThere 47 = .ok (.aload_n 0, 1) := by decide +kernel
theorem dX10_allLevelsThere_48 : decode cX10_allLevelsThere 48 = .ok (.getfield 15, 3) := by decide +kernel
theorem dX10_allLevelsThere_51 : decode cX10_allLevelsThere 51 = .ok (.if_icmp .lt 5, 3) := by decide +kernel
theorem dX10_allLevelsThere_54 : decode cX10_allLevelsThere 54 = .ok (.iconst 0, 1) := by decide +kernel
theorem dX10_allLevelsThere_55 : decode cX10_allLevelsThere 55 = .ok (.ireturn, 1) := by decide +kernel
theorem dX10_allLevelsThere_56 : decode cX10_allLevelsThere 56 = .ok (.iinc 1 1, 3) := by decide +kernel
theorem dX10_allLevelsThere_59 : decode cX10_allLevelsThere 59 = .ok (.goto (-26), 3) := by decide +kernel
theorem dX10_allLevelsThere_62 : decode cX10_allLevelsThere 62 = .ok (.iconst 0, 1) := by decide +kernel
theorem dX10_allLevelsThere_63 : decode cX10_allLevelsThere 63 = .ok (.istore_n 1, 1) := by decide +kernel
theorem dX10_allLevelsThere_64 : decode cX10_allLevelsThere 64 = .ok (.iload_n 1, 1) := by decide +kernel
theorem dX10_allLevelsThere_65 : decode cX10_allLevelsThere 65 = .ok (.aload_n 0, 1) := by decide +kernel
theorem dX10_allLevelsThere_66 : decode cX10_allLevelsThere 66 = .ok (.getfield 52, 3) := by decide +kernel
theorem dX10_allLevelsThere_69 : decode cX10_allLevelsThere 69 = .ok (.if_icmp .ge 24, 3) := by decide +kernel
theorem dX10_allLevelsThere_72 : decode cX10_allLevelsThere 72 = .ok (.aload_n 0, 1) := by decide +kernel
theorem dX10_allLevelsThere_73 : decode cX10_allLevelsThere 73 = .ok (.getfield 55, 3) := by decide +kernel
theorem dX10_allLevelsThere_76 : decode cX10_allLevelsThere 76 = .ok (.iload_n 1, 1) := by decide +kernel
theorem dX10_allLevelsThere_77 : decode cX10_allLevelsThere 77 = .ok (.iaload, 1) := by decide +kernel
theorem dX10_allLevelsThere_78 : decode cX10_allLevelsThere 78 = .ok (.aload_n 0, 1) := by decide +kernel
theorem dX10_allLevelsThere_79 : decode cX10_allLevelsThere 79 = .ok (.getfield 15, 3) := by decide +kernel
theorem dX10_allLevelsThere_82 : decode cX10_allLevelsThere 82 = .ok (.if_icmp .lt 5, 3) := by decide +kernel
theorem dX10_allLevelsThere_85 : decode cX10_allLevelsThere 85 = .ok (.iconst 0, 1) := by decide +kernel
theorem dX10_allLevelsThere_86 : decode cX10_allLevelsThere 86 = .ok (.ireturn, 1) := by decide +kernel
theorem dX10_allLevelsThere_87 : decode cX10_allLevelsThere 87 = .ok (.iinc 1 1, 3) := by decide +kernel
theorem dX10_allLevelsThere_90 : decode cX10_allLevelsThere 90 = .ok (.goto (-26), 3) := by decide +kernel
theorem dX10_allLevelsThere_93 : decode cX10_allLevelsThere 93 = .ok (.iconst 1, 1) := by decide +kernel
theorem dX10_allLevelsThere_94 : decode cX10_allLevelsThere 94 = .ok (.ireturn, 1) := by decide +kernel
theorem dX10_townsApart_0 : decode cX10_townsApart 0 = .ok (.iconst 0, 1) := by decide +kernel
theorem dX10_townsApart_1 : decode cX10_townsApart 1 = .ok (.istore_n 1, 1) := by decide +kernel
theorem dX10_townsApart_2 : decode cX10_townsApart 2 = .ok (.iload_n 1, 1) := by decide +kernel
theorem dX10_townsApart_3 : decode cX10_townsApart 3 = .ok (.aload_n 0, 1) := by decide +kernel
theorem dX10_townsApart_4 : decode cX10_townsApart 4 = .ok (.getfield 28, 3) := by decide +kernel
theorem dX10_townsApart_7 : decode cX10_townsApart 7 = .ok (.if_icmp .ge 102, 3) := by decide +kernel
theorem dX10_townsApart_10 : decode cX10_townsApart 10 = .ok (.iconst 0, 1) := by decide +kernel
theorem dX10_townsApart_11 : decode cX10_townsApart 11 = .ok (.istore_n 2, 1) := by decide +kernel
theorem dX10_townsApart_12 : decode cX10_townsApart 12 = .ok (.iload_n 2, 1) := by decide +kernel
theorem dX10_townsApart_13 : decode cX10_townsApart 13 = .ok (.iload_n 1, 1) := by decide +kernel
theorem dX10_townsApart_14 : decode cX10_townsApart 14 = .ok (.if_icmp .ge 41, 3) := by decide +kernel
theorem dX10_townsApart_17 : decode cX10_townsApart 17 = .ok (.aload_n 0, 1) := by decide +kernel
theorem dX10_townsApart_18 : decode cX10_townsApart 18 = .ok (.getfield 31, 3) := by decide +kernel
theorem dX10_townsApart_21 : decode cX10_townsApart 21 = .ok (.iload_n 1, 1) := by decide +kernel
theorem dX10_townsApart_22 : decode cX10_townsApart 22 = .ok (.iaload, 1) := by decide +kernel
theorem dX10_townsApart_23 : decode cX10_townsApart 23 = .ok (.aload_n 0, 1) := by decide +kernel
theorem dX10_townsApart_24 : decode cX10_townsApart 24 = .ok (.getfield 31, 3) := by decide +kernel
theorem dX10_townsApart_27 : decode cX10_townsApart 27 = .ok (.iload_n 2, 1) := by decide +kernel
theorem dX10_townsApart_28 : decode cX10_townsApart 28 = .ok (.iaload, 1) := by decide +kernel
theorem dX10_townsApart_29 : decode cX10_townsApart 29 = .ok (.if_icmp .ne 20, 3) := by decide +kernel
theorem dX10_townsApart_32 : decode cX10_townsApart 32 = .ok (.aload_n 0, 1) := by decide +kernel
theorem dX10_townsApart_33 : decode cX10_townsApart 33 = .ok (.getfield 34, 3) := by decide +kernel
theorem dX10_townsApart_36 : decode cX10_townsApart 36 = .ok (.iload_n 1, 1) := by decide +kernel
theorem dX10_townsApart_37 : decode cX10_townsApart 37 = .ok (.iaload, 1) := by decide +kernel
theorem dX10_townsApart_38 : decode cX10_townsApart 38 = .ok (.aload_n 0, 1) := by decide +kernel
theorem dX10_townsApart_39 : decode cX10_townsApart 39 = .ok (.getfield 34, 3) := by decide +kernel
theorem dX10_townsApart_42 : decode cX10_townsApart 42 = .ok (.iload_n 2, 1) := by decide +kernel
theorem dX10_townsApart_43 : decode cX10_townsApart 43 = .ok (.iaload, 1) := by decide +kernel
theorem dX10_townsApart_44 : decode cX10_townsApart 44 = .ok (.if_icmp .ne 5, 3) := by decide +kernel
theorem dX10_townsApart_47 : decode cX10_townsApart 47 = .ok (.iconst 0, 1) := by decide +kernel
theorem dX10_townsApart_48 : decode cX10_townsApart 48 = .ok (.ireturn, 1) := by decide +kernel
theorem dX10_townsApart_49 : decode cX10_townsApart 49 = .ok (.iinc 2 1, 3) := by decide +kernel
theorem dX10_townsApart_52 : decode cX10_townsApart 52 = .ok (.goto (-40), 3) := by decide +kernel
theorem dX10_townsApart_55 : decode cX10_townsApart 55 = .ok (.iconst 0, 1) := by decide +kernel
theorem dX10_townsApart_56 : decode cX10_townsApart 56 = .ok (.istore_n 2, 1) := by decide +kernel
theorem dX10_townsApart_57 : decode cX10_townsApart 57 = .ok (.iload_n 2, 1) := by decide +kernel
theorem dX10_townsApart_58 : decode cX10_townsApart 58 = .ok (.aload_n 0, 1) := by decide +kernel
theorem dX10_townsApart_59 : decode cX10_townsApart 59 = .ok (.getfield 43, 3) := by decide +kernel
theorem dX10_townsApart_62 : decode cX10_townsApart 62 = .ok (.if_icmp .ge 41, 3) := by decide +kernel
theorem dX10_townsApart_65 : decode cX10_townsApart 65 = .ok (.aload_n 0, 1) := by decide +kernel
theorem dX10_townsApart_66 : decode cX10_townsApart 66 = .ok (.getfield 31, 3) := by decide +kernel
theorem dX10_townsApart_69 : decode cX10_townsApart 69 = .ok (.iload_n 1, 1) := by decide +kernel
theorem dX10_townsApart_70 : decode cX10_townsApart 70 = .ok (.iaload, 1) := by decide +kernel
theorem dX10_townsApart_71 : decode cX10_townsApart 71 = .ok (.aload_n 0, 1) := by decide +kernel
theorem dX10_townsApart_72 : decode cX10_townsApart 72 = .ok (.getfield 46, 3) := by decide +kernel
theorem dX10_townsApart_75 : decode cX10_townsApart 75 = .ok (.iload_n 2, 1) := by decide +kernel
theorem dX10_townsApart_76 : decode cX10_townsApart 76 = .ok (.iaload, 1) := by decide +kernel
theorem dX10_townsApart_77 : decode cX10_townsApart 77 = .ok (.if_icmp .ne 20, 3) := by decide +kernel
theorem dX10_townsApart_80 : decode cX10_townsApart 80 = .ok (.aload_n 0, 1) := by decide +kernel
theorem dX10_townsApart_81 : decode cX10_townsApart 81 = .ok (.getfield 34, 3) := by decide +kernel
theorem dX10_townsApart_84 : decode cX10_townsApart 84 = .ok (.iload_n 1, 1) := by decide +kernel
theorem dX10_townsApart_85 : decode cX10_townsApart 85 = .ok (.iaload, 1) := by decide +kernel
theorem dX10_townsApart_86 : decode cX10_townsApart 86 = .ok (.aload_n 0, 1) := by decide +kernel
theorem dX10_townsApart_87 : decode cX10_townsApart 87 = .ok (.getfield 49, 3) := by decide +kernel
theorem dX10_townsApart_90 : decode cX10_townsApart 90 = .ok (.iload_n 2, 1) := by decide +kernel
theorem dX10_townsApart_91 : decode cX10_townsApart 91 = .ok (.iaload, 1) := by decide +kernel
theorem dX10_townsApart_92 : decode cX10_townsApart 92 = .ok (.if_icmp .ne 5, 3) := by decide +kernel
theorem dX10_townsApart_95 : decode cX10_townsApart 95 = .ok (.iconst 0, 1) := by decide +kernel
theorem dX10_townsApart_96 : decode cX10_townsApart 96 = .ok (.ireturn, 1) := by decide +kernel
theorem dX10_townsApart_97 : decode cX10_townsApart 97 = .ok (.iinc 2 1, 3) := by decide +kernel
theorem dX10_townsApart_100 : decode cX10_townsApart 100 = .ok (.goto (-43), 3) := by decide +kernel
theorem dX10_townsApart_103 : decode cX10_townsApart 103 = .ok (.iinc 1 1, 3) := by decide +kernel
theorem dX10_townsApart_106 : decode cX10_townsApart 106 = .ok (.goto (-104), 3) := by decide +kernel
theorem dX10_townsApart_109 : decode cX10_townsApart 109 = .ok (.iconst 1, 1) := by decide +kernel
theorem dX10_townsApart_110 : decode cX10_townsApart 110 = .ok (.ireturn, 1) := by decide +kernel
theorem dX11_init_0 : decode cX11_init 0 = .ok (.aload_n 0, 1) := by decide +kernel
theorem dX11_init_1 : decode cX11_init 1 = .ok (.invokespecial 3, 3) := by decide +kernel
theorem dX11_init_4 : decode cX11_init 4 = .ok (.aload_n 0, 1) := by decide +kernel
theorem dX11_init_5 : decode cX11_init 5 = .ok (.new 9, 3) := by decide +kernel
theorem dX11_init_8 : decode cX11_init 8 = .ok (.dup, 1) := by decide +kernel
theorem dX11_init_9 : decode cX11_init 9 = .ok (.invokespecial 11, 3) := by decide +kernel
theorem dX11_init_12 : decode cX11_init 12 = .ok (.putfield 12, 3) := by decide +kernel
theorem dX11_init_15 : decode cX11_init 15 = .ok (.aload_n 0, 1) := by decide +kernel
theorem dX11_init_16 : decode cX11_init 16 = .ok (.new 16, 3) := by decide +kernel
theorem dX11_init_19 : decode cX11_init 19 = .ok (.dup, 1) := by decide +kernel
theorem dX11_init_20 : decode cX11_init 20 = .ok (.invokespecial 18, 3) := by decide +kernel
theorem dX11_init_23 : decode cX11_init 23 = .ok (.putfield 19, 3) := by decide +kernel
theorem dX11_init_26 : decode cX11_init 26 = .ok (.aload_n 0, 1) := by decide +kernel
theorem dX11_init_27 : decode cX11_init 27 = .ok (.new 23, 3) := by decide +kernel
theorem dX11_init_30 : decode cX11_init 30 = .ok (.dup, 1) := by decide +kernel
theorem dX11_init_31 : decode cX11_init 31 = .ok (.bipush 8, 2) := by decide +kernel
theorem dX11_init_33 : decode cX11_init 33 = .ok (.invokespecial 25, 3) := by decide +kernel
theorem dX11_init_36 : decode cX11_init 36 = .ok (.putfield 28, 3) := by decide +kernel
theorem dX11_init_39 : decode cX11_init 39 = .ok (.aload_n 0, 1) := by decide +kernel
theorem dX11_init_40 : decode cX11_init 40 = .ok (.new 23, 3) := by decide +kernel
theorem dX11_init_43 : decode cX11_init 43 = .ok (.dup, 1) := by decide +kernel
theorem dX11_init_44 : decode cX11_init 44 = .ok (.iconst 2, 1) := by decide +kernel
theorem dX11_init_45 : decode cX11_init 45 = .ok (.invokespecial 25, 3) := by decide +kernel
theorem dX11_init_48 : decode cX11_init 48 = .ok (.putfield 32, 3) := by decide +kernel
theorem dX11_init_51 : decode cX11_init 51 = .ok (.aload_n 0, 1) := by decide +kernel
theorem dX11_init_52 : decode cX11_init 52 = .ok (.new 35, 3) := by decide +kernel
theorem dX11_init_55 : decode cX11_init 55 = .ok (.dup, 1) := by decide +kernel
theorem dX11_init_56 : decode cX11_init 56 = .ok (.aload_n 0, 1) := by decide +kernel
theorem dX11_init_57 : decode cX11_init 57 = .ok (.getfield 19, 3) := by decide +kernel
theorem dX11_init_60 : decode cX11_init 60 = .ok (.invokespecial 37, 3) := by decide +kernel
theorem dX11_init_63 : decode cX11_init 63 = .ok (.putfield 40, 3) := by decide +kernel
theorem dX11_init_66 : decode cX11_init 66 = .ok (.aload_n 0, 1) := by decide +kernel
theorem dX11_init_67 : decode cX11_init 67 = .ok (.new 35, 3) := by decide +kernel
theorem dX11_init_70 : decode cX11_init 70 = .ok (.dup, 1) := by decide +kernel
theorem dX11_init_71 : decode cX11_init 71 = .ok (.aload_n 0, 1) := by decide +kernel
theorem dX11_init_72 : decode cX11_init 72 = .ok (.getfield 19, 3) := by decide +kernel
theorem dX11_init_75 : decode cX11_init 75 = .ok (.invokespecial 37, 3) := by decide +kernel
theorem dX11_init_78 : decode cX11_init 78 = .ok (.putfield 44, 3) := by decide +kernel
theorem dX11_init_81 : decode cX11_init 81 = .ok (.aload_n 0, 1) := by decide +kernel
theorem dX11_init_82 : decode cX11_init 82 = .ok (.new 47, 3) := by decide +kernel
theorem dX11_init_85 : decode cX11_init 85 = .ok (.dup, 1) := by decide +kernel
theorem dX11_init_86 : decode cX11_init 86 = .ok (.aload_n 0, 1) := by decide +kernel
theorem dX11_init_87 : decode cX11_init 87 = .ok (.getfield 19, 3) := by decide +kernel
theorem dX11_init_90 : decode cX11_init 90 = .ok (.invokespecial 49, 3) := by decide +kernel
theorem dX11_init_93 : decode cX11_init 93 = .ok (.putfield 50, 3) := by decide +kernel
theorem dX11_init_96 : decode cX11_init 96 = .ok (.aload_n 0, 1) := by decide +kernel
theorem dX11_init_97 : decode cX11_init 97 = .ok (.new 54, 3) := by decide +kernel
theorem dX11_init_100 : decode cX11_init 100 = .ok (.dup, 1) := by decide +kernel
theorem dX11_init_101 : decode cX11_init 101 = .ok (.aload_n 0, 1) := by decide +kernel
theorem dX11_init_102 : decode cX11_init 102 = .ok (.getfield 19, 3) := by decide +kernel
theorem dX11_init_105 : decode cX11_init 105 = .ok (.aload_n 0, 1) := by decide +kernel
theorem dX11_init_106 : decode cX11_init 106 = .ok (.getfield 50, 3) := by decide +kernel
theorem dX11_init_109 : decode cX11_init 109 = .ok (.invokespecial 56, 3) := by decide +kernel
theorem dX11_init_112 : decode cX11_init 112 = .ok (.putfield 59, 3) := by decide +kernel
theorem dX11_init_115 : decode cX11_init 115 = .ok (.aload_n 0, 1) := by decide +kernel
theorem dX11_init_116 : decode cX11_init 116 = .ok (.new 63, 3) := by decide +kernel
theorem dX11_init_119 : decode cX11_init 119 = .ok (.dup, 1) := by decide +kernel
theorem dX11_init_120 : decode cX11_init 120 = .ok (.aload_n 0, 1) := by decide +kernel
theorem dX11_init_121 : decode cX11_init 121 = .ok (.getfield 19, 3) := by decide +kernel
theorem dX11_init_124 : decode cX11_init 124 = .ok (.aload_n 0, 1) := by decide +kernel
theorem dX11_init_125 : decode cX11_init 125 = .ok (.getfield 50, 3) := by decide +kernel
theorem dX11_init_128 : decode cX11_init 128 = .ok (.invokespecial 65, 3) := by decide +kernel
theorem dX11_init_131 : decode cX11_init 131 = .ok (.putfield 66, 3) := by decide +kernel
theorem dX11_init_134 : decode cX11_init 134 = .ok (.aload_n 0, 1) := by decide +kernel
theorem dX11_init_135 : decode cX11_init 135 = .ok (.new 70, 3) := by decide +kernel
theorem dX11_init_138 : decode cX11_init 138 = .ok (.dup, 1) := by decide +kernel
theorem dX11_init_139 : decode cX11_init 139 = .ok (.invokespecial 72, 3) := by decide +kernel
theorem dX11_init_142 : decode cX11_init 142 = .ok (.putfield 73, 3) := by decide +kernel
theorem dX11_init_145 : decode cX11_init 145 = .ok (.aload_n 0, 1) := by decide +kernel
theorem dX11_init_146 : decode cX11_init 146 = .ok (.bipush 10, 2) := by decide +kernel
theorem dX11_init_148 : decode cX11_init 148 = .ok (.newarray .long, 2) := by decide +kernel
theorem dX11_init_150 : decode cX11_init 150 = .ok (.putfield 77, 3) := by decide +kernel
theorem dX11_init_153 : decode cX11_init 153 = .ok (.aload_n 0, 1) := by decide +kernel
theorem dX11_init_154 : decode cX11_init 154 = .ok (.new 81, 3) := by decide +kernel
theorem dX11_init_157 : decode cX11_init 157 = .ok (.dup, 1) := by decide +kernel
theorem dX11_init_158 : decode cX11_init 158 = .ok (.invokespecial 83, 3) := by decide +kernel
theorem dX11_init_161 : decode cX11_init 161 = .ok (.putfield 84, 3) := by decide +kernel
theorem dX11_init_164 : decode cX11_init 164 = .ok (.iconst 0, 1) := by decide +kernel
theorem dX11_init_165 : decode cX11_init 165 = .ok (.istore_n 1, 1) := by decide +kernel
theorem dX11_init_166 : decode cX11_init 166 = .ok (.iload_n 1, 1) := by decide +kernel
theorem dX11_init_167 : decode cX11_init 167 = .ok (.ldc 88, 2) := by decide +kernel
theorem dX11_init_169 : decode cX11_init 169 = .ok (.invokevirtual 90, 3) := by decide +kernel
theorem dX11_init_172 : decode cX11_init 172 = .ok (.if_icmp .ge 23, 3) := by decide +kernel
theorem dX11_init_175 : decode cX11_init 175 = .ok (.aload_n 0, 1) := by decide +kernel
theorem dX11_init_176 : decode cX11_init 176 = .ok (.getfield 12, 3) := by decide +kernel
theorem dX11_init_179 : decode cX11_init 179 = .ok (.ldc 88, 2) := by decide +kernel
theorem dX11_init_181 : decode cX11_init 181 = .ok (.iload_n 1, 1) := by decide +kernel
theorem dX11_init_182 : decode cX11_init 182 = .ok (.invokevirtual 96, 3) := by decide +kernel
theorem dX11_init_185 : decode cX11_init 185 = .ok (.invokevirtual 100, 3) := by decide +kernel
theorem dX11_init_188 : decode cX11_init 188 = .ok (.pop, 1) := by decide +kernel
theorem dX11_init_189 : decode cX11_init 189 = .ok (.iinc 1 1, 3) := by decide +kernel
theorem dX11_init_192 : decode cX11_init 192 = .ok (.goto (-26), 3) := by decide +kernel
theorem dX11_init_195 : decode cX11_init 195 = .ok (.aload_n 0, 1) := by decide +kernel
theorem dX11_init_196 : decode cX11_init 196 = .ok (.invokevirtual 104, 3) := by decide +kernel
theorem dX11_init_199 : decode cX11_init 199 = .ok (.pop, 1) := by decide +kernel
theorem dX11_init_200 : decode cX11_init 200 = .ok (.aload_n 0, 1) := by decide +kernel
theorem dX11_init_201 : decode cX11_init 201 = .ok (.getfield 12, 3) := by decide +kernel
theorem dX11_init_204 : decode cX11_init 204 = .ok (.invokevirtual 108, 3) := by decide +kernel
theorem dX11_init_207 : decode cX11_init 207 = .ok (.pop, 1) := by decide +kernel
theorem dX11_init_208 : decode cX11_init 208 = .ok (.return_, 1) := by decide +kernel
theorem dX11_write_0 : decode cX11_write 0 = .ok (.iload_n 1, 1) := by decide +kernel
theorem dX11_write_1 : decode cX11_write 1 = .ok (.bipush 32, 2) := by decide +kernel
theorem dX11_write_3 : decode cX11_write 3 = .ok (.bipush 126, 2) := by decide +kernel
theorem dX11_write_5 : decode cX11_write 5 = .ok (.invokestatic 111, 3) := by decide +kernel
theorem dX11_write_8 : decode cX11_write 8 = .ok (.ifCond .ne 5, 3) := by decide +kernel
theorem dX11_write_11 : decode cX11_write 11 = .ok (.iconst (-1), 1) := by decide +kernel
theorem dX11_write_12 : decode cX11_write 12 = .ok (.ireturn, 1) := by decide +kernel
theorem dX11_write_13 : decode cX11_write 13 = .ok (.aload_n 0, 1) := by decide +kernel
theorem dX11_write_14 : decode cX11_write 14 = .ok (.getfield 12, 3) := by decide +kernel
theorem dX11_write_17 : decode cX11_write 17 = .ok (.iload_n 1, 1) := by decide +kernel
theorem dX11_write_18 : decode cX11_write 18 = .ok (.invokevirtual 100, 3) := by decide +kernel
theorem dX11_write_21 : decode cX11_write 21 = .ok (.ifCond .ne 6, 3) := by decide +kernel
theorem dX11_write_24 : decode cX11_write 24 = .ok (.bipush (-3), 2) := by decide +kernel
theorem dX11_write_26 : decode cX11_write 26 = .ok (.ireturn, 1) := by decide +kernel
theorem dX11_write_27 : decode cX11_write 27 = .ok (.aload_n 0, 1) := by decide +kernel
theorem dX11_write_28 : decode cX11_write 28 = .ok (.getfield 12, 3) := by decide +kernel
theorem dX11_write_31 : decode cX11_write 31 = .ok (.getfield 115, 3) := by decide +kernel
theorem dX11_write_34 : decode cX11_write 34 = .ok (.ireturn, 1) := by decide +kernel
theorem dX11_wipe_0 : decode cX11_wipe 0 = .ok (.aload_n 0, 1) := by decide +kernel
theorem dX11_wipe_1 : decode cX11_wipe 1 = .ok (.getfield 12, 3) := by decide +kernel
theorem dX11_wipe_4 : decode cX11_wipe 4 = .ok (.invokevirtual 108, 3) := by decide +kernel
theorem dX11_wipe_7 : decode cX11_wipe 7 = .ok (.ireturn, 1) := by decide +kernel
theorem dX11_fault_0 : decode cX11_fault 0 = .ok (.aload_n 0, 1) := by decide +kernel
theorem dX11_fault_1 : decode cX11_fault 1 = .ok (.getfield 12, 3) := by decide +kernel
theorem dX11_fault_4 : decode cX11_fault 4 = .ok (.aload_n 0, 1) := by decide +kernel
theorem dX11_fault_5 : decode cX11_fault 5 = .ok (.getfield 84, 3) := by decide +kernel
theorem dX11_fault_8 : decode cX11_fault 8 = .ok (.invokevirtual 118, 3) := by decide +kernel
theorem dX11_fault_11 : decode cX11_fault 11 = .ok (.ireturn, 1) := by decide +kernel
theorem dX11_lay_0 : decode cX11_lay 0 = .ok (.aload_n 0, 1) := by decide +kernel
theorem dX11_lay_1 : decode cX11_lay 1 = .ok (.invokevirtual 104, 3) := by decide +kernel
theorem dX11_lay_4 : decode cX11_lay 4 = .ok (.ifCond .eq 16, 3) := by decide +kernel
theorem dX11_lay_7 : decode cX11_lay 7 = .ok (.aload_n 0, 1) := by decide +kernel
theorem dX11_lay_8 : decode cX11_lay 8 = .ok (.getfield 19, 3) := by decide +kernel
theorem dX11_lay_11 : decode cX11_lay 11 = .ok (.getfield 122, 3) := by decide +kernel
theorem dX11_lay_14 : decode cX11_lay 14 = .ok (.getfield 125, 3) := by decide +kernel
theorem dX11_lay_17 : decode cX11_lay 17 = .ok (.goto 5, 3) := by decide +kernel
theorem dX11_lay_20 : decode cX11_lay 20 = .ok (.bipush (-2), 2) := by decide +kernel
theorem dX11_lay_22 : decode cX11_lay 22 = .ok (.ireturn, 1) := by decide +kernel
theorem dX11_level_0 : decode cX11_level 0 = .ok (.aload_n 0, 1) := by decide +kernel
theorem dX11_level_1 : decode cX11_level 1 = .ok (.getfield 19, 3) := by decide +kernel
theorem dX11_level_4 : decode cX11_level 4 = .ok (.iload_n 1, 1) := by decide +kernel
theorem dX11_level_5 : decode cX11_level 5 = .ok (.invokevirtual 128, 3) := by decide +kernel
theorem dX11_level_8 : decode cX11_level 8 = .ok (.ifCond .ne 5, 3) := by decide +kernel
theorem dX11_level_11 : decode cX11_level 11 = .ok (.iconst (-1), 1) := by decide +kernel
theorem dX11_level_12 : decode cX11_level 12 = .ok (.ireturn, 1) := by decide +kernel
theorem dX11_level_13 : decode cX11_level 13 = .ok (.iload_n 2, 1) := by decide +kernel
theorem dX11_level_14 : decode cX11_level 14 = .ok (.tableswitch 65 0 2 #[26, 39, 52], 26) := by decide +kernel
theorem dX11_level_40 : decode cX11_level 40 = .ok (.aload_n 0, 1) := by decide +kernel
theorem dX11_level_41 : decode cX11_level 41 = .ok (.getfield 19, 3) := by decide +kernel
theorem dX11_level_44 : decode cX11_level 44 = .ok (.getfield 122, 3) := by decide +kernel
theorem dX11_level_47 : decode cX11_level 47 = .ok (.getfield 131, 3) := by decide +kernel
theorem dX11_level_50 : decode cX11_level 50 = .ok (.iload_n 1, 1) := by decide +kernel
theorem dX11_level_51 : decode cX11_level 51 = .ok (.iaload, 1) := by decide +kernel
theorem dX11_level_52 : decode cX11_level 52 = .ok (.ireturn, 1) := by decide +kernel
theorem dX11_level_53 : decode cX11_level 53 = .ok (.aload_n 0, 1) := by decide +kernel
theorem dX11_level_54 : decode cX11_level 54 = .ok (.getfield 19, 3) := by decide +kernel
theorem dX11_level_57 : decode cX11_level 57 = .ok (.getfield 122, 3) := by decide +kernel
theorem dX11_level_60 : decode cX11_level 60 = .ok (.getfield 135, 3) := by decide +kernel
theorem dX11_level_63 : decode cX11_level 63 = .ok (.iload_n 1, 1) := by decide +kernel
theorem dX11_level_64 : decode cX11_level 64 = .ok (.iaload, 1) := by decide +kernel
theorem dX11_level_65 : decode cX11_level 65 = .ok (.ireturn, 1) := by decide +kernel
theorem dX11_level_66 : decode cX11_level 66 = .ok (.aload_n 0, 1) := by decide +kernel
theorem dX11_level_67 : decode cX11_level 67 = .ok (.getfield 19, 3) := by decide +kernel
theorem dX11_level_70 : decode cX11_level 70 = .ok (.getfield 122, 3) := by decide +kernel
theorem dX11_level_73 : decode cX11_level 73 = .ok (.getfield 138, 3) := by decide +kernel
theorem dX11_level_76 : decode cX11_level 76 = .ok (.iload_n 1, 1) := by decide +kernel
theorem dX11_level_77 : decode cX11_level 77 = .ok (.iaload, 1) := by decide +kernel
theorem dX11_level_78 : decode cX11_level 78 = .ok (.ireturn, 1) := by decide +kernel
theorem dX11_level_79 : decode cX11_level 79 = .ok (.iconst (-1), 1) := by decide +kernel
theorem dX11_level_80 : decode cX11_level 80 = .ok (.ireturn, 1) := by decide +kernel
theorem dX11_town_0 : decode cX11_town 0 = .ok (.aload_n 0, 1) := by decide +kernel
theorem dX11_town_1 : decode cX11_town 1 = .ok (.getfield 19, 3) := by decide +kernel
theorem dX11_town_4 : decode cX11_town 4 = .ok (.iload_n 1, 1) := by decide +kernel
theorem dX11_town_5 : decode cX11_town 5 = .ok (.invokevirtual 141, 3) := by decide +kernel
theorem dX11_town_8 : decode cX11_town 8 = .ok (.ifCond .ne 5, 3) := by decide +kernel
theorem dX11_town_11 : decode cX11_town 11 = .ok (.iconst (-1), 1) := by decide +kernel
theorem dX11_town_12 : decode cX11_town 12 = .ok (.ireturn, 1) := by decide +kernel
theorem dX11_town_13 : decode cX11_town 13 = .ok (.iload_n 2, 1) := by decide +kernel
theorem dX11_town_14 : decode cX11_town 14 = .ok (.tableswitch 107 0 4 #[34, 47, 60, 73, 86], 34) := by decide +kernel
theorem dX11_town_48 : decode cX11_town 48 = .ok (.aload_n 0, 1) := by decide +kernel
theorem dX11_town_49 : decode cX11_town 49 = .ok (.getfield 19, 3) := by decide +kernel
theorem dX11_town_52 : decode cX11_town 52 = .ok (.getfield 122, 3) := by decide +kernel
theorem dX11_town_55 : decode cX11_town 55 = .ok (.getfield 144, 3) := by decide +kernel
theorem dX11_town_58 : decode cX11_town 58 = .ok (.iload_n 1, 1) := by decide +kernel
theorem dX11_town_59 : decode cX11_town 59 = .ok (.iaload, 1) := by decide +kernel
theorem dX11_town_60 : decode cX11_town 60 = .ok (.ireturn, 1) := by decide +kernel
theorem dX11_town_61 : decode cX11_town 61 = .ok (.aload_n 0, 1) := by decide +kernel
theorem dX11_town_62 : decode cX11_town 62 = .ok (.getfield 19, 3) := by decide +kernel
theorem dX11_town_65 : decode cX11_town 65 = .ok (.getfield 147, 3) := by decide +kernel
theorem dX11_town_68 : decode cX11_town 68 = .ok (.getfield 151, 3) := by decide +kernel
theorem dX11_town_71 : decode cX11_town 71 = .ok (.iload_n 1, 1) := by decide +kernel
theorem dX11_town_72 : decode cX11_town 72 = .ok (.iaload, 1) := by decide +kernel
theorem dX11_town_73 : decode cX11_town 73 = .ok (.ireturn, 1) := by decide +kernel
theorem dX11_town_74 : decode cX11_town 74 = .ok (.aload_n 0, 1) := by decide +kernel
theorem dX11_town_75 : decode cX11_town 75 = .ok (.getfield 19, 3) := by decide +kernel
theorem dX11_town_78 : decode cX11_town 78 = .ok (.getfield 122, 3) := by decide +kernel
theorem dX11_town_81 : decode cX11_town 81 = .ok (.getfield 156, 3) := by decide +kernel
theorem dX11_town_84 : decode cX11_town 84 = .ok (.iload_n 1, 1) := by decide +kernel
theorem dX11_town_85 : decode cX11_town 85 = .ok (.iaload, 1) := by decide +kernel
theorem dX11_town_86 : decode cX11_town 86 = .ok (.ireturn, 1) := by decide +kernel
theorem dX11_town_87 : decode cX11_town 87 = .ok (.aload_n 0, 1) := by decide +kernel
theorem dX11_town_88 : decode cX11_town 88 = .ok (.getfield 19, 3) := by decide +kernel
theorem dX11_town_91 : decode cX11_town 91 = .ok (.getfield 122, 3) := by decide +kernel
theorem dX11_town_94 : decode cX11_town 94 = .ok (.getfield 159, 3) := by decide +kernel
theorem dX11_town_97 : decode cX11_town 97 = .ok (.iload_n 1, 1) := by decide +kernel
theorem dX11_town_98 : decode cX11_town 98 = .ok (.iaload, 1) := by decide +kernel
theorem dX11_town_99 : decode cX11_town 99 = .ok (.ireturn, 1) := by decide +kernel
theorem dX11_town_100 : decode cX11_town 100 = .ok (.aload_n 0, 1) := by decide +kernel
theorem dX11_town_101 : decode cX11_town 101 = .ok (.getfield 19, 3) := by decide +kernel
theorem dX11_town_104 : decode cX11_town 104 = .ok (.getfield 147, 3) := by decide +kernel
theorem dX11_town_107 : decode cX11_town 107 = .ok (.getfield 162, 3) := by decide +kernel
theorem dX11_town_110 : decode cX11_town 110 = .ok (.iload_n 1, 1) := by decide +kernel
theorem dX11_town_111 : decode cX11_town 111 = .ok (.baload, 1) := by decide +kernel
theorem dX11_town_112 : decode cX11_town 112 = .ok (.ifCond .eq 7, 3) := by decide +kernel
theorem dX11_town_115 : decode cX11_town 115 = .ok (.iconst 1, 1) := by decide +kernel
theorem dX11_town_116 : decode cX11_town 116 = .ok (.goto 4, 3) := by decide +kernel
theorem dX11_town_119 : decode cX11_town 119 = .ok (.iconst 0, 1) := by decide +kernel
theorem dX11_town_120 : decode cX11_town 120 = .ok (.ireturn, 1) := by decide +kernel
theorem dX11_town_121 : decode cX11_town 121 = .ok (.iconst (-1), 1) := by decide +kernel
theorem dX11_town_122 : decode cX11_town 122 = .ok (.ireturn, 1) := by decide +kernel
theorem dX11_thing_0 : decode cX11_thing 0 = .ok (.aload_n 0, 1) := by decide +kernel
theorem dX11_thing_1 : decode cX11_thing 1 = .ok (.getfield 19, 3) := by decide +kernel
theorem dX11_thing_4 : decode cX11_thing 4 = .ok (.iload_n 1, 1) := by decide +kernel
theorem dX11_thing_5 : decode cX11_thing 5 = .ok (.invokevirtual 166, 3) := by decide +kernel
theorem dX11_thing_8 : decode cX11_thing 8 = .ok (.ifCond .ne 5, 3) := by decide +kernel
theorem dX11_thing_11 : decode cX11_thing 11 = .ok (.iconst (-1), 1) := by decide +kernel
theorem dX11_thing_12 : decode cX11_thing 12 = .ok (.ireturn, 1) := by decide +kernel
theorem dX11_thing_13 : decode cX11_thing 13 = .ok (.iload_n 2, 1) := by decide +kernel
theorem dX11_thing_14 : decode cX11_thing 14 = .ok (.tableswitch 82 0 3 #[30, 43, 56, 69], 30) := by decide +kernel
theorem dX11_thing_44 : decode cX11_thing 44 = .ok (.aload_n 0, 1) := by decide +kernel
theorem dX11_thing_45 : decode cX11_thing 45 = .ok (.getfield 19, 3) := by decide +kernel
theorem dX11_thing_48 : decode cX11_thing 48 = .ok (.getfield 147, 3) := by decide +kernel
theorem dX11_thing_51 : decode cX11_thing 51 = .ok (.getfield 169, 3) := by decide +kernel
theorem dX11_thing_54 : decode cX11_thing 54 = .ok (.iload_n 1, 1) := by decide +kernel
theorem dX11_thing_55 : decode cX11_thing 55 = .ok (.iaload, 1) := by decide +kernel
theorem dX11_thing_56 : decode cX11_thing 56 = .ok (.ireturn, 1) := by decide +kernel
theorem dX11_thing_57 : decode cX11_thing 57 = .ok (.aload_n 0, 1) := by decide +kernel
theorem dX11_thing_58 : decode cX11_thing 58 = .ok (.getfield 19, 3) := by decide +kernel
theorem dX11_thing_61 : decode cX11_thing 61 = .ok (.getfield 147, 3) := by decide +kernel
theorem dX11_thing_64 : decode cX11_thing 64 = .ok (.getfield 172, 3) := by decide +kernel
theorem dX11_thing_67 : decode cX11_thing 67 = .ok (.iload_n 1, 1) := by decide +kernel
theorem dX11_thing_68 : decode cX11_thing 68 = .ok (.iaload, 1) := by decide +kernel
theorem dX11_thing_69 : decode cX11_thing 69 = .ok (.ireturn, 1) := by decide +kernel
theorem dX11_thing_70 : decode cX11_thing 70 = .ok (.aload_n 0, 1) := by decide +kernel
theorem dX11_thing_71 : decode cX11_thing 71 = .ok (.getfield 19, 3) := by decide +kernel
theorem dX11_thing_74 : decode cX11_thing 74 = .ok (.getfield 147, 3) := by decide +kernel
theorem dX11_thing_77 : decode cX11_thing 77 = .ok (.getfield 175, 3) := by decide +kernel
theorem dX11_thing_80 : decode cX11_thing 80 = .ok (.iload_n 1, 1) := by decide +kernel
theorem dX11_thing_81 : decode cX11_thing 81 = .ok (.iaload, 1) := by decide +kernel
theorem dX11_thing_82 : decode cX11_thing 82 = .ok (.ireturn, 1) := by decide +kernel
theorem dX11_thing_83 : decode cX11_thing 83 = .ok (.aload_n 0, 1) := by decide +kernel
theorem dX11_thing_84 : decode cX11_thing 84 = .ok (.getfield 19, 3) := by decide +kernel
theorem dX11_thing_87 : decode cX11_thing 87 = .ok (.getfield 147, 3) := by decide +kernel
theorem dX11_thing_90 : decode cX11_thing 90 = .ok (.getfield 178, 3) := by decide +kernel
theorem dX11_thing_93 : decode cX11_thing 93 = .ok (.iload_n 1, 1) := by decide +kernel
theorem dX11_thing_94 : decode cX11_thing 94 = .ok (.iaload, 1) := by decide +kernel
theorem dX11_thing_95 : decode cX11_thing 95 = .ok (.ireturn, 1) := by decide +kernel
theorem dX11_thing_96 : decode cX11_thing 96 = .ok (.iconst (-1), 1) := by decide +kernel
theorem dX11_thing_97 : decode cX11_thing 97 = .ok (.ireturn, 1) := by decide +kernel
theorem dX11_steps_0 : decode cX11_steps 0 = .ok (.iload_n 1, 1) := by decide +kernel
theorem dX11_steps_1 : decode cX11_steps 1 = .ok (.iconst 1, 1) := by decide +kernel
theorem dX11_steps_2 : decode cX11_steps 2 = .ok (.bipush 60, 2) := by decide +kernel
theorem dX11_steps_4 : decode cX11_steps 4 = .ok (.invokestatic 111, 3) := by decide +kernel
theorem dX11_steps_7 : decode cX11_steps 7 = .ok (.ifCond .ne 5, 3) := by decide +kernel
theorem dX11_steps_10 : decode cX11_steps 10 = .ok (.iconst (-1), 1) := by decide +kernel
theorem dX11_steps_11 : decode cX11_steps 11 = .ok (.ireturn, 1) := by decide +kernel
theorem dX11_steps_12 : decode cX11_steps 12 = .ok (.aload_n 0, 1) := by decide +kernel
theorem dX11_steps_13 : decode cX11_steps 13 = .ok (.getfield 19, 3) := by decide +kernel
theorem dX11_steps_16 : decode cX11_steps 16 = .ok (.getfield 147, 3) := by decide +kernel
theorem dX11_steps_19 : decode cX11_steps 19 = .ok (.getfield 181, 3) := by decide +kernel
theorem dX11_steps_22 : decode cX11_steps 22 = .ok (.iload_n 1, 1) := by decide +kernel
theorem dX11_steps_23 : decode cX11_steps 23 = .ok (.iadd, 1) := by decide +kernel
theorem dX11_steps_24 : decode cX11_steps 24 = .ok (.sipush 9999, 3) := by decide +kernel
theorem dX11_steps_27 : decode cX11_steps 27 = .ok (.if_icmp .le 6, 3) := by decide +kernel
theorem dX11_steps_30 : decode cX11_steps 30 = .ok (.bipush (-2), 2) := by decide +kernel
theorem dX11_steps_32 : decode cX11_steps 32 = .ok (.ireturn, 1) := by decide +kernel
theorem dX11_steps_33 : decode cX11_steps 33 = .ok (.aload_n 0, 1) := by decide +kernel
theorem dX11_steps_34 : decode cX11_steps 34 = .ok (.getfield 28, 3) := by decide +kernel
theorem dX11_steps_37 : decode cX11_steps 37 = .ok (.aload_n 0, 1) := by decide +kernel
theorem dX11_steps_38 : decode cX11_steps 38 = .ok (.getfield 19, 3) := by decide +kernel
theorem dX11_steps_41 : decode cX11_steps 41 = .ok (.getfield 147, 3) := by decide +kernel
theorem dX11_steps_44 : decode cX11_steps 44 = .ok (.invokevirtual 184, 3) := by decide +kernel
theorem dX11_steps_47 : decode cX11_steps 47 = .ok (.iconst 0, 1) := by decide +kernel
theorem dX11_steps_48 : decode cX11_steps 48 = .ok (.istore_n 2, 1) := by decide +kernel
theorem dX11_steps_49 : decode cX11_steps 49 = .ok (.iload_n 2, 1) := by decide +kernel
theorem dX11_steps_50 : decode cX11_steps 50 = .ok (.aload_n 0, 1) := by decide +kernel
theorem dX11_steps_51 : decode cX11_steps 51 = .ok (.getfield 19, 3) := by decide +kernel
theorem dX11_steps_54 : decode cX11_steps 54 = .ok (.getfield 147, 3) := by decide +kernel
theorem dX11_steps_57 : decode cX11_steps 57 = .ok (.getfield 188, 3) := by decide +kernel
theorem dX11_steps_60 : decode cX11_steps 60 = .ok (.if_icmp .ge 33, 3) := by decide +kernel
theorem dX11_steps_63 : decode cX11_steps 63 = .ok (.aload_n 0, 1) := by decide +kernel
theorem dX11_steps_64 : decode cX11_steps 64 = .ok (.getfield 40, 3) := by decide +kernel
theorem dX11_steps_67 : decode cX11_steps 67 = .ok (.iload_n 2, 1) := by decide +kernel
theorem dX11_steps_68 : decode cX11_steps 68 = .ok (.invokevirtual 191, 3) := by decide +kernel
theorem dX11_steps_71 : decode cX11_steps 71 = .ok (.aload_n 0, 1) := by decide +kernel
theorem dX11_steps_72 : decode cX11_steps 72 = .ok (.getfield 40, 3) := by decide +kernel
theorem dX11_steps_75 : decode cX11_steps 75 = .ok (.iload_n 1, 1) := by decide +kernel
theorem dX11_steps_76 : decode cX11_steps 76 = .ok (.invokevirtual 194, 3) := by decide +kernel
theorem dX11_steps_79 : decode cX11_steps 79 = .ok (.aload_n 0, 1) := by decide +kernel
theorem dX11_steps_80 : decode cX11_steps 80 = .ok (.getfield 40, 3) := by decide +kernel
theorem dX11_steps_83 : decode cX11_steps 83 = .ok (.iload_n 2, 1) := by decide +kernel
theorem dX11_steps_84 : decode cX11_steps 84 = .ok (.invokevirtual 197, 3) := by decide +kernel
theorem dX11_steps_87 : decode cX11_steps 87 = .ok (.iinc 2 1, 3) := by decide +kernel
theorem dX11_steps_90 : decode cX11_steps 90 = .ok (.goto (-41), 3) := by decide +kernel
theorem dX11_steps_93 : decode cX11_steps 93 = .ok (.aload_n 0, 1) := by decide +kernel
theorem dX11_steps_94 : decode cX11_steps 94 = .ok (.getfield 19, 3) := by decide +kernel
theorem dX11_steps_97 : decode cX11_steps 97 = .ok (.getfield 147, 3) := by decide +kernel
theorem dX11_steps_100 : decode cX11_steps 100 = .ok (.dup, 1) := by decide +kernel
theorem dX11_steps_101 : decode cX11_steps 101 = .ok (.getfield 181, 3) := by decide +kernel
theorem dX11_steps_104 : decode cX11_steps 104 = .ok (.iload_n 1, 1) := by decide +kernel
theorem dX11_steps_105 : decode cX11_steps 105 = .ok (.iadd, 1) := by decide +kernel
theorem dX11_steps_106 : decode cX11_steps 106 = .ok (.putfield 181, 3) := by decide +kernel
theorem dX11_steps_109 : decode cX11_steps 109 = .ok (.aload_n 0, 1) := by decide +kernel
theorem dX11_steps_110 : decode cX11_steps 110 = .ok (.getfield 19, 3) := by decide +kernel
theorem dX11_steps_113 : decode cX11_steps 113 = .ok (.getfield 147, 3) := by decide +kernel
theorem dX11_steps_116 : decode cX11_steps 116 = .ok (.getfield 181, 3) := by decide +kernel
theorem dX11_steps_119 : decode cX11_steps 119 = .ok (.ireturn, 1) := by decide +kernel
theorem dX11_letGo_0 : decode cX11_letGo 0 = .ok (.aload_n 0, 1) := by decide +kernel
theorem dX11_letGo_1 : decode cX11_letGo 1 = .ok (.getfield 19, 3) := by decide +kernel
theorem dX11_letGo_4 : decode cX11_letGo 4 = .ok (.iload_n 1, 1) := by decide +kernel
theorem dX11_letGo_5 : decode cX11_letGo 5 = .ok (.invokevirtual 141, 3) := by decide +kernel
theorem dX11_letGo_8 : decode cX11_letGo 8 = .ok (.ifCond .eq 13, 3) := by decide +kernel
theorem dX11_letGo_11 : decode cX11_letGo 11 = .ok (.iload_n 2, 1) := by decide +kernel
theorem dX11_letGo_12 : decode cX11_letGo 12 = .ok (.iconst 0, 1) := by decide +kernel
theorem dX11_letGo_13 : decode cX11_letGo 13 = .ok (.bipush 9, 2) := by decide +kernel
theorem dX11_letGo_15 : decode cX11_letGo 15 = .ok (.invokestatic 111, 3) := by decide +kernel
theorem dX11_letGo_18 : decode cX11_letGo 18 = .ok (.ifCond .ne 5, 3) := by decide +kernel
theorem dX11_letGo_21 : decode cX11_letGo 21 = .ok (.iconst (-1), 1) := by decide +kernel
theorem dX11_letGo_22 : decode cX11_letGo 22 = .ok (.ireturn, 1) := by decide +kernel
theorem dX11_letGo_23 : decode cX11_letGo 23 = .ok (.aload_n 0, 1) := by decide +kernel
theorem dX11_letGo_24 : decode cX11_letGo 24 = .ok (.getfield 19, 3) := by decide +kernel
theorem dX11_letGo_27 : decode cX11_letGo 27 = .ok (.getfield 147, 3) := by decide +kernel
theorem dX11_letGo_30 : decode cX11_letGo 30 = .ok (.getfield 162, 3) := by decide +kernel
theorem dX11_letGo_33 : decode cX11_letGo 33 = .ok (.iload_n 1, 1) := by decide +kernel
theorem dX11_letGo_34 : decode cX11_letGo 34 = .ok (.baload, 1) := by decide +kernel
theorem dX11_letGo_35 : decode cX11_letGo 35 = .ok (.ifCond .eq 6, 3) := by decide +kernel
theorem dX11_letGo_38 : decode cX11_letGo 38 = .ok (.bipush (-2), 2) := by decide +kernel
theorem dX11_letGo_40 : decode cX11_letGo 40 = .ok (.ireturn, 1) := by decide +kernel
theorem dX11_letGo_41 : decode cX11_letGo 41 = .ok (.aload_n 0, 1) := by decide +kernel
theorem dX11_letGo_42 : decode cX11_letGo 42 = .ok (.getfield 19, 3) := by decide +kernel
theorem dX11_letGo_45 : decode cX11_letGo 45 = .ok (.getfield 147, 3) := by decide +kernel
theorem dX11_letGo_48 : decode cX11_letGo 48 = .ok (.getfield 188, 3) := by decide +kernel
theorem dX11_letGo_51 : decode cX11_letGo 51 = .ok (.bipush 7, 2) := by decide +kernel
theorem dX11_letGo_53 : decode cX11_letGo 53 = .ok (.if_icmp .lt 6, 3) := by decide +kernel
theorem dX11_letGo_56 : decode cX11_letGo 56 = .ok (.bipush (-3), 2) := by decide +kernel
theorem dX11_letGo_58 : decode cX11_letGo 58 = .ok (.ireturn, 1) := by decide +kernel
theorem dX11_letGo_59 : decode cX11_letGo 59 = .ok (.aload_n 0, 1) := by decide +kernel
theorem dX11_letGo_60 : decode cX11_letGo 60 = .ok (.getfield 28, 3) := by decide +kernel
theorem dX11_letGo_63 : decode cX11_letGo 63 = .ok (.aload_n 0, 1) := by decide +kernel
theorem dX11_letGo_64 : decode cX11_letGo 64 = .ok (.getfield 19, 3) := by decide +kernel
theorem dX11_letGo_67 : decode cX11_letGo 67 = .ok (.getfield 147, 3) := by decide +kernel
theorem dX11_letGo_70 : decode cX11_letGo 70 = .ok (.invokevirtual 184, 3) := by decide +kernel
theorem dX11_letGo_73 : decode cX11_letGo 73 = .ok (.aload_n 0, 1) := by decide +kernel
theorem dX11_letGo_74 : decode cX11_letGo 74 = .ok (.getfield 19, 3) := by decide +kernel
theorem dX11_letGo_77 : decode cX11_letGo 77 = .ok (.getfield 147, 3) := by decide +kernel
theorem dX11_letGo_80 : decode cX11_letGo 80 = .ok (.aload_n 0, 1) := by decide +kernel
theorem dX11_letGo_81 : decode cX11_letGo 81 = .ok (.getfield 19, 3) := by decide +kernel
theorem dX11_letGo_84 : decode cX11_letGo 84 = .ok (.getfield 122, 3) := by decide +kernel
theorem dX11_letGo_87 : decode cX11_letGo 87 = .ok (.getfield 144, 3) := by decide +kernel
theorem dX11_letGo_90 : decode cX11_letGo 90 = .ok (.iload_n 1, 1) := by decide +kernel
theorem dX11_letGo_91 : decode cX11_letGo 91 = .ok (.iaload, 1) := by decide +kernel
theorem dX11_letGo_92 : decode cX11_letGo 92 = .ok (.aload_n 0, 1) := by decide +kernel
theorem dX11_letGo_93 : decode cX11_letGo 93 = .ok (.getfield 19, 3) := by decide +kernel
theorem dX11_letGo_96 : decode cX11_letGo 96 = .ok (.getfield 147, 3) := by decide +kernel
theorem dX11_letGo_99 : decode cX11_letGo 99 = .ok (.getfield 151, 3) := by decide +kernel
theorem dX11_letGo_102 : decode cX11_letGo 102 = .ok (.iload_n 1, 1) := by decide +kernel
theorem dX11_letGo_103 : decode cX11_letGo 103 = .ok (.iaload, 1) := by decide +kernel
theorem dX11_letGo_104 : decode cX11_letGo 104 = .ok (.iload_n 2, 1) := by decide +kernel
theorem dX11_letGo_105 : decode cX11_letGo 105 = .ok (.invokevirtual 200, 3) := by decide +kernel
theorem dX11_letGo_108 : decode cX11_letGo 108 = .ok (.ireturn, 1) := by decide +kernel
theorem dX11_hang_0 : decode cX11_hang 0 = .ok (.aload_n 0, 1) := by decide +kernel
theorem dX11_hang_1 : decode cX11_hang 1 = .ok (.getfield 19, 3) := by decide +kernel
theorem dX11_hang_4 : decode cX11_hang 4 = .ok (.iload_n 1, 1) := by decide +kernel
theorem dX11_hang_5 : decode cX11_hang 5 = .ok (.invokevirtual 141, 3) := by decide +kernel
theorem dX11_hang_8 : decode cX11_hang 8 = .ok (.ifCond .eq 14, 3) := by decide +kernel
theorem dX11_hang_11 : decode cX11_hang 11 = .ok (.aload_n 0, 1) := by decide +kernel
theorem dX11_hang_12 : decode cX11_hang 12 = .ok (.getfield 19, 3) := by decide +kernel
theorem dX11_hang_15 : decode cX11_hang 15 = .ok (.iload_n 2, 1) := by decide +kernel
theorem dX11_hang_16 : decode cX11_hang 16 = .ok (.invokevirtual 204, 3) := by decide +kernel
theorem dX11_hang_19 : decode cX11_hang 19 = .ok (.ifCond .ne 5, 3) := by decide +kernel
theorem dX11_hang_22 : decode cX11_hang 22 = .ok (.iconst (-1), 1) := by decide +kernel
theorem dX11_hang_23 : decode cX11_hang 23 = .ok (.ireturn, 1) := by decide +kernel
theorem dX11_hang_24 : decode cX11_hang 24 = .ok (.aload_n 0, 1) := by decide +kernel
theorem dX11_hang_25 : decode cX11_hang 25 = .ok (.getfield 19, 3) := by decide +kernel
theorem dX11_hang_28 : decode cX11_hang 28 = .ok (.getfield 122, 3) := by decide +kernel
theorem dX11_hang_31 : decode cX11_hang 31 = .ok (.getfield 144, 3) := by decide +kernel
theorem dX11_hang_34 : decode cX11_hang 34 = .ok (.iload_n 1, 1) := by decide +kernel
theorem dX11_hang_35 : decode cX11_hang 35 = .ok (.iaload, 1) := by decide +kernel
theorem dX11_hang_36 : decode cX11_hang 36 = .ok (.iload_n 2, 1) := by decide +kernel
theorem dX11_hang_37 : decode cX11_hang 37 = .ok (.invokestatic 207, 3) := by decide +kernel
theorem dX11_hang_40 : decode cX11_hang 40 = .ok (.istore_n 3, 1) := by decide +kernel
theorem dX11_hang_41 : decode cX11_hang 41 = .ok (.aload_n 0, 1) := by decide +kernel
theorem dX11_hang_42 : decode cX11_hang 42 = .ok (.getfield 19, 3) := by decide +kernel
theorem dX11_hang_45 : decode cX11_hang 45 = .ok (.getfield 147, 3) := by decide +kernel
theorem dX11_hang_48 : decode cX11_hang 48 = .ok (.getfield 162, 3) := by decide +kernel
theorem dX11_hang_51 : decode cX11_hang 51 = .ok (.iload_n 1, 1) := by decide +kernel
theorem dX11_hang_52 : decode cX11_hang 52 = .ok (.baload, 1) := by decide +kernel
theorem dX11_hang_53 : decode cX11_hang 53 = .ok (.ifCond .ne 14, 3) := by decide +kernel
theorem dX11_hang_56 : decode cX11_hang 56 = .ok (.aload_n 0, 1) := by decide +kernel
theorem dX11_hang_57 : decode cX11_hang 57 = .ok (.getfield 50, 3) := by decide +kernel
theorem dX11_hang_60 : decode cX11_hang 60 = .ok (.iload_n 3, 1) := by decide +kernel
theorem dX11_hang_61 : decode cX11_hang 61 = .ok (.invokevirtual 211, 3) := by decide +kernel
theorem dX11_hang_64 : decode cX11_hang 64 = .ok (.ifCond .ne 6, 3) := by decide +kernel
theorem dX11_hang_67 : decode cX11_hang 67 = .ok (.bipush (-2), 2) := by decide +kernel
theorem dX11_hang_69 : decode cX11_hang 69 = .ok (.ireturn, 1) := by decide +kernel
theorem dX11_hang_70 : decode cX11_hang 70 = .ok (.aload_n 0, 1) := by decide +kernel
theorem dX11_hang_71 : decode cX11_hang 71 = .ok (.getfield 19, 3) := by decide +kernel
theorem dX11_hang_74 : decode cX11_hang 74 = .ok (.aload_n 0, 1) := by decide +kernel
theorem dX11_hang_75 : decode cX11_hang 75 = .ok (.getfield 19, 3) := by decide +kernel
theorem dX11_hang_78 : decode cX11_hang 78 = .ok (.getfield 122, 3) := by decide +kernel
theorem dX11_hang_81 : decode cX11_hang 81 = .ok (.getfield 144, 3) := by decide +kernel
theorem dX11_hang_84 : decode cX11_hang 84 = .ok (.iload_n 1, 1) := by decide +kernel
theorem dX11_hang_85 : decode cX11_hang 85 = .ok (.iaload, 1) := by decide +kernel
theorem dX11_hang_86 : decode cX11_hang 86 = .ok (.iload_n 2, 1) := by decide +kernel
theorem dX11_hang_87 : decode cX11_hang 87 = .ok (.iconst (-1), 1) := by decide +kernel
theorem dX11_hang_88 : decode cX11_hang 88 = .ok (.invokevirtual 214, 3) := by decide +kernel
theorem dX11_hang_91 : decode cX11_hang 91 = .ok (.bipush (-4), 2) := by decide +kernel
theorem dX11_hang_93 : decode cX11_hang 93 = .ok (.if_icmp .eq 6, 3) := by decide +kernel
theorem dX11_hang_96 : decode cX11_hang 96 = .ok (.bipush (-2), 2) := by decide +kernel
theorem dX11_hang_98 : decode cX11_hang 98 = .ok (.ireturn, 1) := by decide +kernel
theorem dX11_hang_99 : decode cX11_hang 99 = .ok (.aload_n 0, 1) := by decide +kernel
theorem dX11_hang_100 : decode cX11_hang 100 = .ok (.getfield 28, 3) := by decide +kernel
theorem dX11_hang_103 : decode cX11_hang 103 = .ok (.aload_n 0, 1) := by decide +kernel
theorem dX11_hang_104 : decode cX11_hang 104 = .ok (.getfield 19, 3) := by decide +kernel
theorem dX11_hang_107 : decode cX11_hang 107 = .ok (.getfield 147, 3) := by decide +kernel
theorem dX11_hang_110 : decode cX11_hang 110 = .ok (.invokevirtual 184, 3) := by decide +kernel
theorem dX11_hang_113 : decode cX11_hang 113 = .ok (.aload_n 0, 1) := by decide +kernel
theorem dX11_hang_114 : decode cX11_hang 114 = .ok (.getfield 19, 3) := by decide +kernel
theorem dX11_hang_117 : decode cX11_hang 117 = .ok (.getfield 147, 3) := by decide +kernel
theorem dX11_hang_120 : decode cX11_hang 120 = .ok (.getfield 151, 3) := by decide +kernel
theorem dX11_hang_123 : decode cX11_hang 123 = .ok (.iload_n 1, 1) := by decide +kernel
theorem dX11_hang_124 : decode cX11_hang 124 = .ok (.iaload, 1) := by decide +kernel
theorem dX11_hang_125 : decode cX11_hang 125 = .ok (.istore 4, 2) := by decide +kernel
theorem dX11_hang_127 : decode cX11_hang 127 = .ok (.aload_n 0, 1) := by decide +kernel
theorem dX11_hang_128 : decode cX11_hang 128 = .ok (.getfield 19, 3) := by decide +kernel
theorem dX11_hang_131 : decode cX11_hang 131 = .ok (.getfield 147, 3) := by decide +kernel
theorem dX11_hang_134 : decode cX11_hang 134 = .ok (.iload_n 1, 1) := by decide +kernel
theorem dX11_hang_135 : decode cX11_hang 135 = .ok (.iload_n 2, 1) := by decide +kernel
theorem dX11_hang_136 : decode cX11_hang 136 = .ok (.invokevirtual 217, 3) := by decide +kernel
theorem dX11_hang_139 : decode cX11_hang 139 = .ok (.iload 4, 2) := by decide +kernel
theorem dX11_hang_141 : decode cX11_hang 141 = .ok (.ireturn, 1) := by decide +kernel
theorem dX11_cut_0 : decode cX11_cut 0 = .ok (.aload_n 0, 1) := by decide +kernel
theorem dX11_cut_1 : decode cX11_cut 1 = .ok (.getfield 19, 3) := by decide +kernel
theorem dX11_cut_4 : decode cX11_cut 4 = .ok (.iload_n 1, 1) := by decide +kernel
theorem dX11_cut_5 : decode cX11_cut 5 = .ok (.invokevirtual 141, 3) := by decide +kernel
theorem dX11_cut_8 : decode cX11_cut 8 = .ok (.ifCond .ne 5, 3) := by decide +kernel
theorem dX11_cut_11 : decode cX11_cut 11 = .ok (.iconst (-1), 1) := by decide +kernel
theorem dX11_cut_12 : decode cX11_cut 12 = .ok (.ireturn, 1) := by decide +kernel
theorem dX11_cut_13 : decode cX11_cut 13 = .ok (.aload_n 0, 1) := by decide +kernel
theorem dX11_cut_14 : decode cX11_cut 14 = .ok (.getfield 19, 3) := by decide +kernel
theorem dX11_cut_17 : decode cX11_cut 17 = .ok (.getfield 147, 3) := by decide +kernel
theorem dX11_cut_20 : decode cX11_cut 20 = .ok (.getfield 162, 3) := by decide +kernel
theorem dX11_cut_23 : decode cX11_cut 23 = .ok (.iload_n 1, 1) := by decide +kernel
theorem dX11_cut_24 : decode cX11_cut 24 = .ok (.baload, 1) := by decide +kernel
theorem dX11_cut_25 : decode cX11_cut 25 = .ok (.ifCond .eq 6, 3) := by decide +kernel
theorem dX11_cut_28 : decode cX11_cut 28 = .ok (.bipush (-2), 2) := by decide +kernel
theorem dX11_cut_30 : decode cX11_cut 30 = .ok (.ireturn, 1) := by decide +kernel
theorem dX11_cut_31 : decode cX11_cut 31 = .ok (.aload_n 0, 1) := by decide +kernel
theorem dX11_cut_32 : decode cX11_cut 32 = .ok (.getfield 19, 3) := by decide +kernel
theorem dX11_cut_35 : decode cX11_cut 35 = .ok (.getfield 147, 3) := by decide +kernel
theorem dX11_cut_38 : decode cX11_cut 38 = .ok (.getfield 188, 3) := by decide +kernel
theorem dX11_cut_41 : decode cX11_cut 41 = .ok (.bipush 7, 2) := by decide +kernel
theorem dX11_cut_43 : decode cX11_cut 43 = .ok (.if_icmp .lt 6, 3) := by decide +kernel
theorem dX11_cut_46 : decode cX11_cut 46 = .ok (.bipush (-3), 2) := by decide +kernel
theorem dX11_cut_48 : decode cX11_cut 48 = .ok (.ireturn, 1) := by decide +kernel
theorem dX11_cut_49 : decode cX11_cut 49 = .ok (.aload_n 0, 1) := by decide +kernel
theorem dX11_cut_50 : decode cX11_cut 50 = .ok (.getfield 28, 3) := by decide +kernel
theorem dX11_cut_53 : decode cX11_cut 53 = .ok (.aload_n 0, 1) := by decide +kernel
theorem dX11_cut_54 : decode cX11_cut 54 = .ok (.getfield 19, 3) := by decide +kernel
theorem dX11_cut_57 : decode cX11_cut 57 = .ok (.getfield 147, 3) := by decide +kernel
theorem dX11_cut_60 : decode cX11_cut 60 = .ok (.invokevirtual 184, 3) := by decide +kernel
theorem dX11_cut_63 : decode cX11_cut 63 = .ok (.aload_n 0, 1) := by decide +kernel
theorem dX11_cut_64 : decode cX11_cut 64 = .ok (.getfield 19, 3) := by decide +kernel
theorem dX11_cut_67 : decode cX11_cut 67 = .ok (.getfield 147, 3) := by decide +kernel
theorem dX11_cut_70 : decode cX11_cut 70 = .ok (.iload_n 1, 1) := by decide +kernel
theorem dX11_cut_71 : decode cX11_cut 71 = .ok (.invokevirtual 221, 3) := by decide +kernel
theorem dX11_cut_74 : decode cX11_cut 74 = .ok (.aload_n 0, 1) := by decide +kernel
theorem dX11_cut_75 : decode cX11_cut 75 = .ok (.getfield 19, 3) := by decide +kernel
theorem dX11_cut_78 : decode cX11_cut 78 = .ok (.getfield 147, 3) := by decide +kernel
theorem dX11_cut_81 : decode cX11_cut 81 = .ok (.aload_n 0, 1) := by decide +kernel
theorem dX11_cut_82 : decode cX11_cut 82 = .ok (.getfield 19, 3) := by decide +kernel
theorem dX11_cut_85 : decode cX11_cut 85 = .ok (.getfield 122, 3) := by decide +kernel
theorem dX11_cut_88 : decode cX11_cut 88 = .ok (.getfield 144, 3) := by decide +kernel
theorem dX11_cut_91 : decode cX11_cut 91 = .ok (.iload_n 1, 1) := by decide +kernel
theorem dX11_cut_92 : decode cX11_cut 92 = .ok (.iaload, 1) := by decide +kernel
theorem dX11_cut_93 : decode cX11_cut 93 = .ok (.aload_n 0, 1) := by decide +kernel
theorem dX11_cut_94 : decode cX11_cut 94 = .ok (.getfield 19, 3) := by decide +kernel
theorem dX11_cut_97 : decode cX11_cut 97 = .ok (.getfield 147, 3) := by decide +kernel
theorem dX11_cut_100 : decode cX11_cut 100 = .ok (.getfield 151, 3) := by decide +kernel
theorem dX11_cut_103 : decode cX11_cut 103 = .ok (.iload_n 1, 1) := by decide +kernel
theorem dX11_cut_104 : decode cX11_cut 104 = .ok (.iaload, 1) := by decide +kernel
theorem dX11_cut_105 : decode cX11_cut 105 = .ok (.bipush 9, 2) := by decide +kernel
theorem dX11_cut_107 : decode cX11_cut 107 = .ok (.invokevirtual 200, 3) := by decide +kernel
theorem dX11_cut_110 : decode cX11_cut 110 = .ok (.ireturn, 1) := by decide +kernel
theorem dX11_undo_0 : decode cX11_undo 0 = .ok (.aload_n 0, 1) := by decide +kernel
theorem dX11_undo_1 : decode cX11_undo 1 = .ok (.getfield 28, 3) := by decide +kernel
theorem dX11_undo_4 : decode cX11_undo 4 = .ok (.aload_n 0, 1) := by decide +kernel
theorem dX11_undo_5 : decode cX11_undo 5 = .ok (.getfield 19, 3) := by decide +kernel
theorem dX11_undo_8 : decode cX11_undo 8 = .ok (.getfield 147, 3) := by decide +kernel
theorem dX11_undo_11 : decode cX11_undo 11 = .ok (.invokevirtual 224, 3) := by decide +kernel
theorem dX11_undo_14 : decode cX11_undo 14 = .ok (.ifCond .eq 13, 3) := by decide +kernel
theorem dX11_undo_17 : decode cX11_undo 17 = .ok (.aload_n 0, 1) := by decide +kernel
theorem dX11_undo_18 : decode cX11_undo 18 = .ok (.getfield 28, 3) := by decide +kernel
theorem dX11_undo_21 : decode cX11_undo 21 = .ok (.getfield 228, 3) := by decide +kernel
theorem dX11_undo_24 : decode cX11_undo 24 = .ok (.goto 5, 3) := by decide +kernel
theorem dX11_undo_27 : decode cX11_undo 27 = .ok (.bipush (-2), 2) := by decide +kernel
theorem dX11_undo_29 : decode cX11_undo 29 = .ok (.ireturn, 1) := by decide +kernel
theorem dX11_behind_0 : decode cX11_behind 0 = .ok (.iload_n 1, 1) := by decide +kernel
theorem dX11_behind_1 : decode cX11_behind 1 = .ok (.iconst 0, 1) := by decide +kernel
theorem dX11_behind_2 : decode cX11_behind 2 = .ok (.bipush 60, 2) := by decide +kernel
theorem dX11_behind_4 : decode cX11_behind 4 = .ok (.invokestatic 111, 3) := by decide +kernel
theorem dX11_behind_7 : decode cX11_behind 7 = .ok (.ifCond .eq 23, 3) := by decide +kernel
theorem dX11_behind_10 : decode cX11_behind 10 = .ok (.aload_n 0, 1) := by decide +kernel
theorem dX11_behind_11 : decode cX11_behind 11 = .ok (.getfield 19, 3) := by decide +kernel
theorem dX11_behind_14 : decode cX11_behind 14 = .ok (.iload_n 2, 1) := by decide +kernel
theorem dX11_behind_15 : decode cX11_behind 15 = .ok (.invokevirtual 166, 3) := by decide +kernel
theorem dX11_behind_18 : decode cX11_behind 18 = .ok (.ifCond .eq 12, 3) := by decide +kernel
theorem dX11_behind_21 : decode cX11_behind 21 = .ok (.iload_n 3, 1) := by decide +kernel
theorem dX11_behind_22 : decode cX11_behind 22 = .ok (.iconst 0, 1) := by decide +kernel
theorem dX11_behind_23 : decode cX11_behind 23 = .ok (.iconst 2, 1) := by decide +kernel
theorem dX11_behind_24 : decode cX11_behind 24 = .ok (.invokestatic 111, 3) := by decide +kernel
theorem dX11_behind_27 : decode cX11_behind 27 = .ok (.ifCond .ne 5, 3) := by decide +kernel
theorem dX11_behind_30 : decode cX11_behind 30 = .ok (.iconst (-1), 1) := by decide +kernel
theorem dX11_behind_31 : decode cX11_behind 31 = .ok (.ireturn, 1) := by decide +kernel
theorem dX11_behind_32 : decode cX11_behind 32 = .ok (.aload_n 0, 1) := by decide +kernel
theorem dX11_behind_33 : decode cX11_behind 33 = .ok (.getfield 40, 3) := by decide +kernel
theorem dX11_behind_36 : decode cX11_behind 36 = .ok (.iload_n 2, 1) := by decide +kernel
theorem dX11_behind_37 : decode cX11_behind 37 = .ok (.invokevirtual 191, 3) := by decide +kernel
theorem dX11_behind_40 : decode cX11_behind 40 = .ok (.aload_n 0, 1) := by decide +kernel
theorem dX11_behind_41 : decode cX11_behind 41 = .ok (.getfield 40, 3) := by decide +kernel
theorem dX11_behind_44 : decode cX11_behind 44 = .ok (.iload_n 1, 1) := by decide +kernel
theorem dX11_behind_45 : decode cX11_behind 45 = .ok (.invokevirtual 194, 3) := by decide +kernel
theorem dX11_behind_48 : decode cX11_behind 48 = .ok (.iload_n 3, 1) := by decide +kernel
theorem dX11_behind_49 : decode cX11_behind 49 = .ok (.ifCond .ne 11, 3) := by decide +kernel
theorem dX11_behind_52 : decode cX11_behind 52 = .ok (.aload_n 0, 1) := by decide +kernel
theorem dX11_behind_53 : decode cX11_behind 53 = .ok (.getfield 40, 3) := by decide +kernel
theorem dX11_behind_56 : decode cX11_behind 56 = .ok (.getfield 231, 3) := by decide +kernel
theorem dX11_behind_59 : decode cX11_behind 59 = .ok (.ireturn, 1) := by decide +kernel
theorem dX11_behind_60 : decode cX11_behind 60 = .ok (.iload_n 3, 1) := by decide +kernel
theorem dX11_behind_61 : decode cX11_behind 61 = .ok (.iconst 1, 1) := by decide +kernel
theorem dX11_behind_62 : decode cX11_behind 62 = .ok (.if_icmp .ne 13, 3) := by decide +kernel
theorem dX11_behind_65 : decode cX11_behind 65 = .ok (.aload_n 0, 1) := by decide +kernel
theorem dX11_behind_66 : decode cX11_behind 66 = .ok (.getfield 40, 3) := by decide +kernel
theorem dX11_behind_69 : decode cX11_behind 69 = .ok (.getfield 234, 3) := by decide +kernel
theorem dX11_behind_72 : decode cX11_behind 72 = .ok (.goto 10, 3) := by decide +kernel
theorem dX11_behind_75 : decode cX11_behind 75 = .ok (.aload_n 0, 1) := by decide +kernel
theorem dX11_behind_76 : decode cX11_behind 76 = .ok (.getfield 40, 3) := by decide +kernel
theorem dX11_behind_79 : decode cX11_behind 79 = .ok (.getfield 237, 3) := by decide +kernel
theorem dX11_behind_82 : decode cX11_behind 82 = .ok (.ireturn, 1) := by decide +kernel
theorem dX11_meet_0 : decode cX11_meet 0 = .ok (.aload_n 0, 1) := by decide +kernel
theorem dX11_meet_1 : decode cX11_meet 1 = .ok (.getfield 19, 3) := by decide +kernel
theorem dX11_meet_4 : decode cX11_meet 4 = .ok (.iload_n 1, 1) := by decide +kernel
theorem dX11_meet_5 : decode cX11_meet 5 = .ok (.invokevirtual 166, 3) := by decide +kernel
theorem dX11_meet_8 : decode cX11_meet 8 = .ok (.ifCond .eq 19, 3) := by decide +kernel
theorem dX11_meet_11 : decode cX11_meet 11 = .ok (.aload_n 0, 1) := by decide +kernel
theorem dX11_meet_12 : decode cX11_meet 12 = .ok (.getfield 19, 3) := by decide +kernel
theorem dX11_meet_15 : decode cX11_meet 15 = .ok (.iload_n 2, 1) := by decide +kernel
theorem dX11_meet_16 : decode cX11_meet 16 = .ok (.invokevirtual 166, 3) := by decide +kernel
theorem dX11_meet_19 : decode cX11_meet 19 = .ok (.ifCond .eq 8, 3) := by decide +kernel
theorem dX11_meet_22 : decode cX11_meet 22 = .ok (.iload_n 1, 1) := by decide +kernel
theorem dX11_meet_23 : decode cX11_meet 23 = .ok (.iload_n 2, 1) := by decide +kernel
theorem dX11_meet_24 : decode cX11_meet 24 = .ok (.if_icmp .ne 5, 3) := by decide +kernel
theorem dX11_meet_27 : decode cX11_meet 27 = .ok (.iconst (-1), 1) := by decide +kernel
theorem dX11_meet_28 : decode cX11_meet 28 = .ok (.ireturn, 1) := by decide +kernel
theorem dX11_meet_29 : decode cX11_meet 29 = .ok (.aload_n 0, 1) := by decide +kernel
theorem dX11_meet_30 : decode cX11_meet 30 = .ok (.getfield 40, 3) := by decide +kernel
theorem dX11_meet_33 : decode cX11_meet 33 = .ok (.iload_n 1, 1) := by decide +kernel
theorem dX11_meet_34 : decode cX11_meet 34 = .ok (.invokevirtual 191, 3) := by decide +kernel
theorem dX11_meet_37 : decode cX11_meet 37 = .ok (.aload_n 0, 1) := by decide +kernel
theorem dX11_meet_38 : decode cX11_meet 38 = .ok (.getfield 44, 3) := by decide +kernel
theorem dX11_meet_41 : decode cX11_meet 41 = .ok (.iload_n 2, 1) := by decide +kernel
theorem dX11_meet_42 : decode cX11_meet 42 = .ok (.invokevirtual 191, 3) := by decide +kernel
theorem dX11_meet_45 : decode cX11_meet 45 = .ok (.iconst 0, 1) := by decide +kernel
theorem dX11_meet_46 : decode cX11_meet 46 = .ok (.istore_n 3, 1) := by decide +kernel
theorem dX11_meet_47 : decode cX11_meet 47 = .ok (.iload_n 3, 1) := by decide +kernel
theorem dX11_meet_48 : decode cX11_meet 48 = .ok (.bipush 60, 2) := by decide +kernel
theorem dX11_meet_50 : decode cX11_meet 50 = .ok (.if_icmp .gt 78, 3) := by decide +kernel
theorem dX11_meet_53 : decode cX11_meet 53 = .ok (.aload_n 0, 1) := by decide +kernel
theorem dX11_meet_54 : decode cX11_meet 54 = .ok (.getfield 40, 3) := by decide +kernel
theorem dX11_meet_57 : decode cX11_meet 57 = .ok (.getfield 237, 3) := by decide +kernel
theorem dX11_meet_60 : decode cX11_meet 60 = .ok (.bipush (-4), 2) := by decide +kernel
theorem dX11_meet_62 : decode cX11_meet 62 = .ok (.if_icmp .ne 15, 3) := by decide +kernel
theorem dX11_meet_65 : decode cX11_meet 65 = .ok (.aload_n 0, 1) := by decide +kernel
theorem dX11_meet_66 : decode cX11_meet 66 = .ok (.getfield 44, 3) := by decide +kernel
theorem dX11_meet_69 : decode cX11_meet 69 = .ok (.getfield 237, 3) := by decide +kernel
theorem dX11_meet_72 : decode cX11_meet 72 = .ok (.bipush (-4), 2) := by decide +kernel
theorem dX11_meet_74 : decode cX11_meet 74 = .ok (.if_icmp .eq 6, 3) := by decide +kernel
theorem dX11_meet_77 : decode cX11_meet 77 = .ok (.bipush (-4), 2) := by decide +kernel
theorem dX11_meet_79 : decode cX11_meet 79 = .ok (.ireturn, 1) := by decide +kernel
theorem dX11_meet_80 : decode cX11_meet 80 = .ok (.aload_n 0, 1) := by decide +kernel
theorem dX11_meet_81 : decode cX11_meet 81 = .ok (.getfield 40, 3) := by decide +kernel
theorem dX11_meet_84 : decode cX11_meet 84 = .ok (.aload_n 0, 1) := by decide +kernel
theorem dX11_meet_85 : decode cX11_meet 85 = .ok (.getfield 44, 3) := by decide +kernel
theorem dX11_meet_88 : decode cX11_meet 88 = .ok (.getfield 231, 3) := by decide +kernel
theorem dX11_meet_91 : decode cX11_meet 91 = .ok (.aload_n 0, 1) := by decide +kernel
theorem dX11_meet_92 : decode cX11_meet 92 = .ok (.getfield 44, 3) := by decide +kernel
theorem dX11_meet_95 : decode cX11_meet 95 = .ok (.getfield 234, 3) := by decide +kernel
theorem dX11_meet_98 : decode cX11_meet 98 = .ok (.invokevirtual 240, 3) := by decide +kernel
theorem dX11_meet_101 : decode cX11_meet 101 = .ok (.ifCond .eq 5, 3) := by decide +kernel
theorem dX11_meet_104 : decode cX11_meet 104 = .ok (.iload_n 3, 1) := by decide +kernel
theorem dX11_meet_105 : decode cX11_meet 105 = .ok (.ireturn, 1) := by decide +kernel
theorem dX11_meet_106 : decode cX11_meet 106 = .ok (.aload_n 0, 1) := by decide +kernel
theorem dX11_meet_107 : decode cX11_meet 107 = .ok (.getfield 40, 3) := by decide +kernel
theorem dX11_meet_110 : decode cX11_meet 110 = .ok (.iconst (-1), 1) := by decide +kernel
theorem dX11_meet_111 : decode cX11_meet 111 = .ok (.invokevirtual 244, 3) := by decide +kernel
theorem dX11_meet_114 : decode cX11_meet 114 = .ok (.aload_n 0, 1) := by decide +kernel
theorem dX11_meet_115 : decode cX11_meet 115 = .ok (.getfield 44, 3) := by decide +kernel
theorem dX11_meet_118 : decode cX11_meet 118 = .ok (.iconst (-1), 1) := by decide +kernel
theorem dX11_meet_119 : decode cX11_meet 119 = .ok (.invokevirtual 244, 3) := by decide +kernel
theorem dX11_meet_122 : decode cX11_meet 122 = .ok (.iinc 3 1, 3) := by decide +kernel
theorem dX11_meet_125 : decode cX11_meet 125 = .ok (.goto (-78), 3) := by decide +kernel
theorem dX11_meet_128 : decode cX11_meet 128 = .ok (.bipush (-4), 2) := by decide +kernel
theorem dX11_meet_130 : decode cX11_meet 130 = .ok (.ireturn, 1) := by decide +kernel
theorem dX11_round_0 : decode cX11_round 0 = .ok (.aload_n 0, 1) := by decide +kernel
theorem dX11_round_1 : decode cX11_round 1 = .ok (.getfield 19, 3) := by decide +kernel
theorem dX11_round_4 : decode cX11_round 4 = .ok (.iload_n 1, 1) := by decide +kernel
theorem dX11_round_5 : decode cX11_round 5 = .ok (.invokevirtual 166, 3) := by decide +kernel
theorem dX11_round_8 : decode cX11_round 8 = .ok (.ifCond .ne 5, 3) := by decide +kernel
theorem dX11_round_11 : decode cX11_round 11 = .ok (.iconst (-1), 1) := by decide +kernel
theorem dX11_round_12 : decode cX11_round 12 = .ok (.ireturn, 1) := by decide +kernel
theorem dX11_round_13 : decode cX11_round 13 = .ok (.aload_n 0, 1) := by decide +kernel
theorem dX11_round_14 : decode cX11_round 14 = .ok (.getfield 40, 3) := by decide +kernel
theorem dX11_round_17 : decode cX11_round 17 = .ok (.iload_n 1, 1) := by decide +kernel
theorem dX11_round_18 : decode cX11_round 18 = .ok (.invokevirtual 191, 3) := by decide +kernel
theorem dX11_round_21 : decode cX11_round 21 = .ok (.iconst 0, 1) := by decide +kernel
theorem dX11_round_22 : decode cX11_round 22 = .ok (.istore_n 2, 1) := by decide +kernel
theorem dX11_round_23 : decode cX11_round 23 = .ok (.iload_n 2, 1) := by decide +kernel
theorem dX11_round_24 : decode cX11_round 24 = .ok (.sipush 200, 3) := by decide +kernel
theorem dX11_round_27 : decode cX11_round 27 = .ok (.if_icmp .ge 16, 3) := by decide +kernel
theorem dX11_round_30 : decode cX11_round 30 = .ok (.aload_n 0, 1) := by decide +kernel
theorem dX11_round_31 : decode cX11_round 31 = .ok (.getfield 40, 3) := by decide +kernel
theorem dX11_round_34 : decode cX11_round 34 = .ok (.invokevirtual 247, 3) := by decide +kernel
theorem dX11_round_37 : decode cX11_round 37 = .ok (.iinc 2 1, 3) := by decide +kernel
theorem dX11_round_40 : decode cX11_round 40 = .ok (.goto (-17), 3) := by decide +kernel
theorem dX11_round_43 : decode cX11_round 43 = .ok (.aload_n 0, 1) := by decide +kernel
theorem dX11_round_44 : decode cX11_round 44 = .ok (.getfield 40, 3) := by decide +kernel
theorem dX11_round_47 : decode cX11_round 47 = .ok (.getfield 231, 3) := by decide +kernel
theorem dX11_round_50 : decode cX11_round 50 = .ok (.istore_n 2, 1) := by decide +kernel
theorem dX11_round_51 : decode cX11_round 51 = .ok (.aload_n 0, 1) := by decide +kernel
theorem dX11_round_52 : decode cX11_round 52 = .ok (.getfield 40, 3) := by decide +kernel
theorem dX11_round_55 : decode cX11_round 55 = .ok (.getfield 234, 3) := by decide +kernel
theorem dX11_round_58 : decode cX11_round 58 = .ok (.istore_n 3, 1) := by decide +kernel
theorem dX11_round_59 : decode cX11_round 59 = .ok (.iconst 1, 1) := by decide +kernel
theorem dX11_round_60 : decode cX11_round 60 = .ok (.istore 4, 2) := by decide +kernel
theorem dX11_round_62 : decode cX11_round 62 = .ok (.iload 4, 2) := by decide +kernel
theorem dX11_round_64 : decode cX11_round 64 = .ok (.sipush 200, 3) := by decide +kernel
theorem dX11_round_67 : decode cX11_round 67 = .ok (.if_icmp .gt 31, 3) := by decide +kernel
theorem dX11_round_70 : decode cX11_round 70 = .ok (.aload_n 0, 1) := by decide +kernel
theorem dX11_round_71 : decode cX11_round 71 = .ok (.getfield 40, 3) := by decide +kernel
theorem dX11_round_74 : decode cX11_round 74 = .ok (.invokevirtual 247, 3) := by decide +kernel
theorem dX11_round_77 : decode cX11_round 77 = .ok (.aload_n 0, 1) := by decide +kernel
theorem dX11_round_78 : decode cX11_round 78 = .ok (.getfield 40, 3) := by decide +kernel
theorem dX11_round_81 : decode cX11_round 81 = .ok (.iload_n 2, 1) := by decide +kernel
theorem dX11_round_82 : decode cX11_round 82 = .ok (.iload_n 3, 1) := by decide +kernel
theorem dX11_round_83 : decode cX11_round 83 = .ok (.invokevirtual 240, 3) := by decide +kernel
theorem dX11_round_86 : decode cX11_round 86 = .ok (.ifCond .eq 6, 3) := by decide +kernel
theorem dX11_round_89 : decode cX11_round 89 = .ok (.iload 4, 2) := by decide +kernel
theorem dX11_round_91 : decode cX11_round 91 = .ok (.ireturn, 1) := by decide +kernel
theorem dX11_round_92 : decode cX11_round 92 = .ok (.iinc 4 1, 3) := by decide +kernel
theorem dX11_round_95 : decode cX11_round 95 = .ok (.goto (-33), 3) := by decide +kernel
theorem dX11_round_98 : decode cX11_round 98 = .ok (.bipush (-4), 2) := by decide +kernel
theorem dX11_round_100 : decode cX11_round 100 = .ok (.ireturn, 1) := by decide +kernel
theorem dX11_time_0 : decode cX11_time 0 = .ok (.aload_n 0, 1) := by decide +kernel
theorem dX11_time_1 : decode cX11_time 1 = .ok (.getfield 19, 3) := by decide +kernel
theorem dX11_time_4 : decode cX11_time 4 = .ok (.iload_n 1, 1) := by decide +kernel
theorem dX11_time_5 : decode cX11_time 5 = .ok (.invokevirtual 128, 3) := by decide +kernel
theorem dX11_time_8 : decode cX11_time 8 = .ok (.ifCond .eq 37, 3) := by decide +kernel
theorem dX11_time_11 : decode cX11_time 11 = .ok (.aload_n 0, 1) := by decide +kernel
theorem dX11_time_12 : decode cX11_time 12 = .ok (.getfield 19, 3) := by decide +kernel
theorem dX11_time_15 : decode cX11_time 15 = .ok (.iload_n 2, 1) := by decide +kernel
theorem dX11_time_16 : decode cX11_time 16 = .ok (.invokevirtual 204, 3) := by decide +kernel
theorem dX11_time_19 : decode cX11_time 19 = .ok (.ifCond .eq 26, 3) := by decide +kernel
theorem dX11_time_22 : decode cX11_time 22 = .ok (.aload_n 0, 1) := by decide +kernel
theorem dX11_time_23 : decode cX11_time 23 = .ok (.getfield 19, 3) := by decide +kernel
theorem dX11_time_26 : decode cX11_time 26 = .ok (.iload_n 3, 1) := by decide +kernel
theorem dX11_time_27 : decode cX11_time 27 = .ok (.invokevirtual 128, 3) := by decide +kernel
theorem dX11_time_30 : decode cX11_time 30 = .ok (.ifCond .eq 15, 3) := by decide +kernel
theorem dX11_time_33 : decode cX11_time 33 = .ok (.aload_n 0, 1) := by decide +kernel
theorem dX11_time_34 : decode cX11_time 34 = .ok (.getfield 19, 3) := by decide +kernel
theorem dX11_time_37 : decode cX11_time 37 = .ok (.iload 4, 2) := by decide +kernel
theorem dX11_time_39 : decode cX11_time 39 = .ok (.invokevirtual 204, 3) := by decide +kernel
theorem dX11_time_42 : decode cX11_time 42 = .ok (.ifCond .ne 5, 3) := by decide +kernel
theorem dX11_time_45 : decode cX11_time 45 = .ok (.iconst (-1), 1) := by decide +kernel
theorem dX11_time_46 : decode cX11_time 46 = .ok (.ireturn, 1) := by decide +kernel
theorem dX11_time_47 : decode cX11_time 47 = .ok (.aload_n 0, 1) := by decide +kernel
theorem dX11_time_48 : decode cX11_time 48 = .ok (.getfield 50, 3) := by decide +kernel
theorem dX11_time_51 : decode cX11_time 51 = .ok (.iload_n 1, 1) := by decide +kernel
theorem dX11_time_52 : decode cX11_time 52 = .ok (.iload_n 2, 1) := by decide +kernel
theorem dX11_time_53 : decode cX11_time 53 = .ok (.invokestatic 207, 3) := by decide +kernel
theorem dX11_time_56 : decode cX11_time 56 = .ok (.invokevirtual 250, 3) := by decide +kernel
theorem dX11_time_59 : decode cX11_time 59 = .ok (.iload_n 3, 1) := by decide +kernel
theorem dX11_time_60 : decode cX11_time 60 = .ok (.iload 4, 2) := by decide +kernel
theorem dX11_time_62 : decode cX11_time 62 = .ok (.invokestatic 207, 3) := by decide +kernel
theorem dX11_time_65 : decode cX11_time 65 = .ok (.invokevirtual 254, 3) := by decide +kernel
theorem dX11_time_68 : decode cX11_time 68 = .ok (.istore 5, 2) := by decide +kernel
theorem dX11_time_70 : decode cX11_time 70 = .ok (.iload 5, 2) := by decide +kernel
theorem dX11_time_72 : decode cX11_time 72 = .ok (.ldc_w 260, 3) := by decide +kernel
theorem dX11_time_75 : decode cX11_time 75 = .ok (.if_icmp .ge 8, 3) := by decide +kernel
theorem dX11_time_78 : decode cX11_time 78 = .ok (.iload 5, 2) := by decide +kernel
theorem dX11_time_80 : decode cX11_time 80 = .ok (.goto 5, 3) := by decide +kernel
theorem dX11_time_83 : decode cX11_time 83 = .ok (.bipush (-4), 2) := by decide +kernel
theorem dX11_time_85 : decode cX11_time 85 = .ok (.ireturn, 1) := by decide +kernel
theorem dX11_hears_0 : decode cX11_hears 0 = .ok (.aload_n 0, 1) := by decide +kernel
theorem dX11_hears_1 : decode cX11_hears 1 = .ok (.getfield 19, 3) := by decide +kernel
theorem dX11_hears_4 : decode cX11_hears 4 = .ok (.iload_n 1, 1) := by decide +kernel
theorem dX11_hears_5 : decode cX11_hears 5 = .ok (.invokevirtual 141, 3) := by decide +kernel
theorem dX11_hears_8 : decode cX11_hears 8 = .ok (.ifCond .eq 13, 3) := by decide +kernel
theorem dX11_hears_11 : decode cX11_hears 11 = .ok (.iload_n 2, 1) := by decide +kernel
theorem dX11_hears_12 : decode cX11_hears 12 = .ok (.iconst 0, 1) := by decide +kernel
theorem dX11_hears_13 : decode cX11_hears 13 = .ok (.bipush 99, 2) := by decide +kernel
theorem dX11_hears_15 : decode cX11_hears 15 = .ok (.invokestatic 111, 3) := by decide +kernel
theorem dX11_hears_18 : decode cX11_hears 18 = .ok (.ifCond .ne 5, 3) := by decide +kernel
theorem dX11_hears_21 : decode cX11_hears 21 = .ok (.iconst (-1), 1) := by decide +kernel
theorem dX11_hears_22 : decode cX11_hears 22 = .ok (.ireturn, 1) := by decide +kernel
theorem dX11_hears_23 : decode cX11_hears 23 = .ok (.aload_n 0, 1) := by decide +kernel
theorem dX11_hears_24 : decode cX11_hears 24 = .ok (.getfield 19, 3) := by decide +kernel
theorem dX11_hears_27 : decode cX11_hears 27 = .ok (.getfield 147, 3) := by decide +kernel
theorem dX11_hears_30 : decode cX11_hears 30 = .ok (.getfield 162, 3) := by decide +kernel
theorem dX11_hears_33 : decode cX11_hears 33 = .ok (.iload_n 1, 1) := by decide +kernel
theorem dX11_hears_34 : decode cX11_hears 34 = .ok (.baload, 1) := by decide +kernel
theorem dX11_hears_35 : decode cX11_hears 35 = .ok (.ifCond .eq 6, 3) := by decide +kernel
theorem dX11_hears_38 : decode cX11_hears 38 = .ok (.bipush (-2), 2) := by decide +kernel
theorem dX11_hears_40 : decode cX11_hears 40 = .ok (.ireturn, 1) := by decide +kernel
theorem dX11_hears_41 : decode cX11_hears 41 = .ok (.aload_n 0, 1) := by decide +kernel
theorem dX11_hears_42 : decode cX11_hears 42 = .ok (.getfield 50, 3) := by decide +kernel
theorem dX11_hears_45 : decode cX11_hears 45 = .ok (.aload_n 0, 1) := by decide +kernel
theorem dX11_hears_46 : decode cX11_hears 46 = .ok (.getfield 19, 3) := by decide +kernel
theorem dX11_hears_49 : decode cX11_hears 49 = .ok (.iload_n 1, 1) := by decide +kernel
theorem dX11_hears_50 : decode cX11_hears 50 = .ok (.invokevirtual 261, 3) := by decide +kernel
theorem dX11_hears_53 : decode cX11_hears 53 = .ok (.invokevirtual 250, 3) := by decide +kernel
theorem dX11_hears_56 : decode cX11_hears 56 = .ok (.astore_n 3, 1) := by decide +kernel
theorem dX11_hears_57 : decode cX11_hears 57 = .ok (.iconst 0, 1) := by decide +kernel
theorem dX11_hears_58 : decode cX11_hears 58 = .ok (.istore 4, 2) := by decide +kernel
theorem dX11_hears_60 : decode cX11_hears 60 = .ok (.iconst 0, 1) := by decide +kernel
theorem dX11_hears_61 : decode cX11_hears 61 = .ok (.istore 5, 2) := by decide +kernel
theorem dX11_hears_63 : decode cX11_hears 63 = .ok (.iload 5, 2) := by decide +kernel
theorem dX11_hears_65 : decode cX11_hears 65 = .ok (.aload_n 0, 1) := by decide +kernel
theorem dX11_hears_66 : decode cX11_hears 66 = .ok (.getfield 19, 3) := by decide +kernel
theorem dX11_hears_69 : decode cX11_hears 69 = .ok (.getfield 122, 3) := by decide +kernel
theorem dX11_hears_72 : decode cX11_hears 72 = .ok (.getfield 264, 3) := by decide +kernel
theorem dX11_hears_75 : decode cX11_hears 75 = .ok (.if_icmp .ge 60, 3) := by decide +kernel
theorem dX11_hears_78 : decode cX11_hears 78 = .ok (.iload 5, 2) := by decide +kernel
theorem dX11_hears_80 : decode cX11_hears 80 = .ok (.iload_n 1, 1) := by decide +kernel
theorem dX11_hears_81 : decode cX11_hears 81 = .ok (.if_icmp .eq 48, 3) := by decide +kernel
theorem dX11_hears_84 : decode cX11_hears 84 = .ok (.aload_n 0, 1) := by decide +kernel
theorem dX11_hears_85 : decode cX11_hears 85 = .ok (.getfield 19, 3) := by decide +kernel
theorem dX11_hears_88 : decode cX11_hears 88 = .ok (.getfield 147, 3) := by decide +kernel
theorem dX11_hears_91 : decode cX11_hears 91 = .ok (.getfield 162, 3) := by decide +kernel
theorem dX11_hears_94 : decode cX11_hears 94 = .ok (.iload 5, 2) := by decide +kernel
theorem dX11_hears_96 : decode cX11_hears 96 = .ok (.baload, 1) := by decide +kernel
theorem dX11_hears_97 : decode cX11_hears 97 = .ok (.ifCond .eq 6, 3) := by decide +kernel
theorem dX11_hears_100 : decode cX11_hears 100 = .ok (.goto 29, 3) := by decide +kernel
theorem dX11_hears_103 : decode cX11_hears 103 = .ok (.aload_n 3, 1) := by decide +kernel
theorem dX11_hears_104 : decode cX11_hears 104 = .ok (.aload_n 0, 1) := by decide +kernel
theorem dX11_hears_105 : decode cX11_hears 105 = .ok (.getfield 19, 3) := by decide +kernel
theorem dX11_hears_108 : decode cX11_hears 108 = .ok (.iload 5, 2) := by decide +kernel
theorem dX11_hears_110 : decode cX11_hears 110 = .ok (.invokevirtual 261, 3) := by decide +kernel
theorem dX11_hears_113 : decode cX11_hears 113 = .ok (.invokevirtual 254, 3) := by decide +kernel
theorem dX11_hears_116 : decode cX11_hears 116 = .ok (.iload_n 2, 1) := by decide +kernel
theorem dX11_hears_117 : decode cX11_hears 117 = .ok (.if_icmp .gt 12, 3) := by decide +kernel
theorem dX11_hears_120 : decode cX11_hears 120 = .ok (.iload 4, 2) := by decide +kernel
theorem dX11_hears_122 : decode cX11_hears 122 = .ok (.iconst 1, 1) := by decide +kernel
theorem dX11_hears_123 : decode cX11_hears 123 = .ok (.iload 5, 2) := by decide +kernel
theorem dX11_hears_125 : decode cX11_hears 125 = .ok (.ishl, 1) := by decide +kernel
theorem dX11_hears_126 : decode cX11_hears 126 = .ok (.ior, 1) := by decide +kernel
theorem dX11_hears_127 : decode cX11_hears 127 = .ok (.istore 4, 2) := by decide +kernel
theorem dX11_hears_129 : decode cX11_hears 129 = .ok (.iinc 5 1, 3) := by decide +kernel
theorem dX11_hears_132 : decode cX11_hears 132 = .ok (.goto (-69), 3) := by decide +kernel
theorem dX11_hears_135 : decode cX11_hears 135 = .ok (.iload 4, 2) := by decide +kernel
theorem dX11_hears_137 : decode cX11_hears 137 = .ok (.ireturn, 1) := by decide +kernel
theorem dX11_shadow_0 : decode cX11_shadow 0 = .ok (.aload_n 0, 1) := by decide +kernel
theorem dX11_shadow_1 : decode cX11_shadow 1 = .ok (.getfield 19, 3) := by decide +kernel
theorem dX11_shadow_4 : decode cX11_shadow 4 = .ok (.iload_n 1, 1) := by decide +kernel
theorem dX11_shadow_5 : decode cX11_shadow 5 = .ok (.invokevirtual 141, 3) := by decide +kernel
theorem dX11_shadow_8 : decode cX11_shadow 8 = .ok (.ifCond .ne 5, 3) := by decide +kernel
theorem dX11_shadow_11 : decode cX11_shadow 11 = .ok (.iconst (-1), 1) := by decide +kernel
theorem dX11_shadow_12 : decode cX11_shadow 12 = .ok (.ireturn, 1) := by decide +kernel
theorem dX11_shadow_13 : decode cX11_shadow 13 = .ok (.aload_n 0, 1) := by decide +kernel
theorem dX11_shadow_14 : decode cX11_shadow 14 = .ok (.getfield 19, 3) := by decide +kernel
theorem dX11_shadow_17 : decode cX11_shadow 17 = .ok (.getfield 147, 3) := by decide +kernel
theorem dX11_shadow_20 : decode cX11_shadow 20 = .ok (.getfield 162, 3) := by decide +kernel
theorem dX11_shadow_23 : decode cX11_shadow 23 = .ok (.iload_n 1, 1) := by decide +kernel
theorem dX11_shadow_24 : decode cX11_shadow 24 = .ok (.baload, 1) := by decide +kernel
theorem dX11_shadow_25 : decode cX11_shadow 25 = .ok (.ifCond .eq 6, 3) := by decide +kernel
theorem dX11_shadow_28 : decode cX11_shadow 28 = .ok (.bipush (-2), 2) := by decide +kernel
theorem dX11_shadow_30 : decode cX11_shadow 30 = .ok (.ireturn, 1) := by decide +kernel
theorem dX11_shadow_31 : decode cX11_shadow 31 = .ok (.aload_n 0, 1) := by decide +kernel
theorem dX11_shadow_32 : decode cX11_shadow 32 = .ok (.getfield 50, 3) := by decide +kernel
theorem dX11_shadow_35 : decode cX11_shadow 35 = .ok (.aload_n 0, 1) := by decide +kernel
theorem dX11_shadow_36 : decode cX11_shadow 36 = .ok (.getfield 19, 3) := by decide +kernel
theorem dX11_shadow_39 : decode cX11_shadow 39 = .ok (.iload_n 1, 1) := by decide +kernel
theorem dX11_shadow_40 : decode cX11_shadow 40 = .ok (.invokevirtual 261, 3) := by decide +kernel
theorem dX11_shadow_43 : decode cX11_shadow 43 = .ok (.invokevirtual 250, 3) := by decide +kernel
theorem dX11_shadow_46 : decode cX11_shadow 46 = .ok (.astore_n 2, 1) := by decide +kernel
theorem dX11_shadow_47 : decode cX11_shadow 47 = .ok (.iconst 0, 1) := by decide +kernel
theorem dX11_shadow_48 : decode cX11_shadow 48 = .ok (.istore_n 3, 1) := by decide +kernel
theorem dX11_shadow_49 : decode cX11_shadow 49 = .ok (.iconst 0, 1) := by decide +kernel
theorem dX11_shadow_50 : decode cX11_shadow 50 = .ok (.istore 4, 2) := by decide +kernel
theorem dX11_shadow_52 : decode cX11_shadow 52 = .ok (.iload 4, 2) := by decide +kernel
theorem dX11_shadow_54 : decode cX11_shadow 54 = .ok (.aload_n 0, 1) := by decide +kernel
theorem dX11_shadow_55 : decode cX11_shadow 55 = .ok (.getfield 19, 3) := by decide +kernel
theorem dX11_shadow_58 : decode cX11_shadow 58 = .ok (.getfield 122, 3) := by decide +kernel
theorem dX11_shadow_61 : decode cX11_shadow 61 = .ok (.getfield 125, 3) := by decide +kernel
theorem dX11_shadow_64 : decode cX11_shadow 64 = .ok (.if_icmp .ge 69, 3) := by decide +kernel
theorem dX11_shadow_67 : decode cX11_shadow 67 = .ok (.iconst 0, 1) := by decide +kernel
theorem dX11_shadow_68 : decode cX11_shadow 68 = .ok (.istore 5, 2) := by decide +kernel
theorem dX11_shadow_70 : decode cX11_shadow 70 = .ok (.iload 5, 2) := by decide +kernel
theorem dX11_shadow_72 : decode cX11_shadow 72 = .ok (.aload_n 0, 1) := by decide +kernel
theorem dX11_shadow_73 : decode cX11_shadow 73 = .ok (.getfield 19, 3) := by decide +kernel
theorem dX11_shadow_76 : decode cX11_shadow 76 = .ok (.getfield 122, 3) := by decide +kernel
theorem dX11_shadow_79 : decode cX11_shadow 79 = .ok (.getfield 267, 3) := by decide +kernel
theorem dX11_shadow_82 : decode cX11_shadow 82 = .ok (.if_icmp .ge 45, 3) := by decide +kernel
theorem dX11_shadow_85 : decode cX11_shadow 85 = .ok (.iload 4, 2) := by decide +kernel
theorem dX11_shadow_87 : decode cX11_shadow 87 = .ok (.iload 5, 2) := by decide +kernel
theorem dX11_shadow_89 : decode cX11_shadow 89 = .ok (.invokestatic 207, 3) := by decide +kernel
theorem dX11_shadow_92 : decode cX11_shadow 92 = .ok (.istore 6, 2) := by decide +kernel
theorem dX11_shadow_94 : decode cX11_shadow 94 = .ok (.aload_n 0, 1) := by decide +kernel
theorem dX11_shadow_95 : decode cX11_shadow 95 = .ok (.getfield 50, 3) := by decide +kernel
theorem dX11_shadow_98 : decode cX11_shadow 98 = .ok (.iload 6, 2) := by decide +kernel
theorem dX11_shadow_100 : decode cX11_shadow 100 = .ok (.invokevirtual 211, 3) := by decide +kernel
theorem dX11_shadow_103 : decode cX11_shadow 103 = .ok (.ifCond .eq 18, 3) := by decide +kernel
theorem dX11_shadow_106 : decode cX11_shadow 106 = .ok (.aload_n 2, 1) := by decide +kernel
theorem dX11_shadow_107 : decode cX11_shadow 107 = .ok (.iload 6, 2) := by decide +kernel
theorem dX11_shadow_109 : decode cX11_shadow 109 = .ok (.invokevirtual 254, 3) := by decide +kernel
theorem dX11_shadow_112 : decode cX11_shadow 112 = .ok (.ldc_w 260, 3) := by decide +kernel
theorem dX11_shadow_115 : decode cX11_shadow 115 = .ok (.if_icmp .lt 6, 3) := by decide +kernel
theorem dX11_shadow_118 : decode cX11_shadow 118 = .ok (.iinc 3 1, 3) := by decide +kernel
theorem dX11_shadow_121 : decode cX11_shadow 121 = .ok (.iinc 5 1, 3) := by decide +kernel
theorem dX11_shadow_124 : decode cX11_shadow 124 = .ok (.goto (-54), 3) := by decide +kernel
theorem dX11_shadow_127 : decode cX11_shadow 127 = .ok (.iinc 4 1, 3) := by decide +kernel
theorem dX11_shadow_130 : decode cX11_shadow 130 = .ok (.goto (-78), 3) := by decide +kernel
theorem dX11_shadow_133 : decode cX11_shadow 133 = .ok (.iload_n 3, 1) := by decide +kernel
theorem dX11_shadow_134 : decode cX11_shadow 134 = .ok (.ireturn, 1) := by decide +kernel
theorem dX11_heard_0 : decode cX11_heard 0 = .ok (.aload_n 0, 1) := by decide +kernel
theorem dX11_heard_1 : decode cX11_heard 1 = .ok (.getfield 19, 3) := by decide +kernel
theorem dX11_heard_4 : decode cX11_heard 4 = .ok (.iload_n 1, 1) := by decide +kernel
theorem dX11_heard_5 : decode cX11_heard 5 = .ok (.invokevirtual 141, 3) := by decide +kernel
theorem dX11_heard_8 : decode cX11_heard 8 = .ok (.ifCond .eq 13, 3) := by decide +kernel
theorem dX11_heard_11 : decode cX11_heard 11 = .ok (.iload_n 2, 1) := by decide +kernel
theorem dX11_heard_12 : decode cX11_heard 12 = .ok (.iconst 0, 1) := by decide +kernel
theorem dX11_heard_13 : decode cX11_heard 13 = .ok (.bipush 99, 2) := by decide +kernel
theorem dX11_heard_15 : decode cX11_heard 15 = .ok (.invokestatic 111, 3) := by decide +kernel
theorem dX11_heard_18 : decode cX11_heard 18 = .ok (.ifCond .ne 5, 3) := by decide +kernel
theorem dX11_heard_21 : decode cX11_heard 21 = .ok (.iconst (-1), 1) := by decide +kernel
theorem dX11_heard_22 : decode cX11_heard 22 = .ok (.ireturn, 1) := by decide +kernel
theorem dX11_heard_23 : decode cX11_heard 23 = .ok (.aload_n 0, 1) := by decide +kernel
theorem dX11_heard_24 : decode cX11_heard 24 = .ok (.getfield 19, 3) := by decide +kernel
theorem dX11_heard_27 : decode cX11_heard 27 = .ok (.getfield 147, 3) := by decide +kernel
theorem dX11_heard_30 : decode cX11_heard 30 = .ok (.getfield 162, 3) := by decide +kernel
theorem dX11_heard_33 : decode cX11_heard 33 = .ok (.iload_n 1, 1) := by decide +kernel
theorem dX11_heard_34 : decode cX11_heard 34 = .ok (.baload, 1) := by decide +kernel
theorem dX11_heard_35 : decode cX11_heard 35 = .ok (.ifCond .eq 6, 3) := by decide +kernel
theorem dX11_heard_38 : decode cX11_heard 38 = .ok (.bipush (-2), 2) := by decide +kernel
theorem dX11_heard_40 : decode cX11_heard 40 = .ok (.ireturn, 1) := by decide +kernel
theorem dX11_heard_41 : decode cX11_heard 41 = .ok (.aload_n 0, 1) := by decide +kernel
theorem dX11_heard_42 : decode cX11_heard 42 = .ok (.getfield 59, 3) := by decide +kernel
theorem dX11_heard_45 : decode cX11_heard 45 = .ok (.iload_n 1, 1) := by decide +kernel
theorem dX11_heard_46 : decode cX11_heard 46 = .ok (.iload_n 2, 1) := by decide +kernel
theorem dX11_heard_47 : decode cX11_heard 47 = .ok (.invokevirtual 270, 3) := by decide +kernel
theorem dX11_heard_50 : decode cX11_heard 50 = .ok (.ifCond .ne 6, 3) := by decide +kernel
theorem dX11_heard_53 : decode cX11_heard 53 = .ok (.bipush (-3), 2) := by decide +kernel
theorem dX11_heard_55 : decode cX11_heard 55 = .ok (.ireturn, 1) := by decide +kernel
theorem dX11_heard_56 : decode cX11_heard 56 = .ok (.aload_n 0, 1) := by decide +kernel
theorem dX11_heard_57 : decode cX11_heard 57 = .ok (.getfield 59, 3) := by decide +kernel
theorem dX11_heard_60 : decode cX11_heard 60 = .ok (.getfield 272, 3) := by decide +kernel
theorem dX11_heard_63 : decode cX11_heard 63 = .ok (.ireturn, 1) := by decide +kernel
theorem dX11_hush_0 : decode cX11_hush 0 = .ok (.aload_n 0, 1) := by decide +kernel
theorem dX11_hush_1 : decode cX11_hush 1 = .ok (.getfield 59, 3) := by decide +kernel
theorem dX11_hush_4 : decode cX11_hush 4 = .ok (.invokevirtual 273, 3) := by decide +kernel
theorem dX11_hush_7 : decode cX11_hush 7 = .ok (.ireturn, 1) := by decide +kernel
theorem dX11_whence_0 : decode cX11_whence 0 = .ok (.iload_n 1, 1) := by decide +kernel
theorem dX11_whence_1 : decode cX11_whence 1 = .ok (.iconst 0, 1) := by decide +kernel
theorem dX11_whence_2 : decode cX11_whence 2 = .ok (.iconst 1, 1) := by decide +kernel
theorem dX11_whence_3 : decode cX11_whence 3 = .ok (.invokestatic 111, 3) := by decide +kernel
theorem dX11_whence_6 : decode cX11_whence 6 = .ok (.ifCond .ne 5, 3) := by decide +kernel
theorem dX11_whence_9 : decode cX11_whence 9 = .ok (.iconst (-1), 1) := by decide +kernel
theorem dX11_whence_10 : decode cX11_whence 10 = .ok (.ireturn, 1) := by decide +kernel
theorem dX11_whence_11 : decode cX11_whence 11 = .ok (.aload_n 0, 1) := by decide +kernel
theorem dX11_whence_12 : decode cX11_whence 12 = .ok (.getfield 59, 3) := by decide +kernel
theorem dX11_whence_15 : decode cX11_whence 15 = .ok (.invokevirtual 274, 3) := by decide +kernel
theorem dX11_whence_18 : decode cX11_whence 18 = .ok (.iload_n 1, 1) := by decide +kernel
theorem dX11_whence_19 : decode cX11_whence 19 = .ok (.ifCond .ne 13, 3) := by decide +kernel
theorem dX11_whence_22 : decode cX11_whence 22 = .ok (.aload_n 0, 1) := by decide +kernel
theorem dX11_whence_23 : decode cX11_whence 23 = .ok (.getfield 59, 3) := by decide +kernel
theorem dX11_whence_26 : decode cX11_whence 26 = .ok (.getfield 277, 3) := by decide +kernel
theorem dX11_whence_29 : decode cX11_whence 29 = .ok (.goto 10, 3) := by decide +kernel
theorem dX11_whence_32 : decode cX11_whence 32 = .ok (.aload_n 0, 1) := by decide +kernel
theorem dX11_whence_33 : decode cX11_whence 33 = .ok (.getfield 59, 3) := by decide +kernel
theorem dX11_whence_36 : decode cX11_whence 36 = .ok (.getfield 280, 3) := by decide +kernel
theorem dX11_whence_39 : decode cX11_whence 39 = .ok (.ireturn, 1) := by decide +kernel
theorem dX11_moved_0 : decode cX11_moved 0 = .ok (.iload_n 1, 1) := by decide +kernel
theorem dX11_moved_1 : decode cX11_moved 1 = .ok (.iconst 0, 1) := by decide +kernel
theorem dX11_moved_2 : decode cX11_moved 2 = .ok (.bipush 99, 2) := by decide +kernel
theorem dX11_moved_4 : decode cX11_moved 4 = .ok (.invokestatic 111, 3) := by decide +kernel
theorem dX11_moved_7 : decode cX11_moved 7 = .ok (.ifCond .eq 12, 3) := by decide +kernel
theorem dX11_moved_10 : decode cX11_moved 10 = .ok (.iload_n 2, 1) := by decide +kernel
theorem dX11_moved_11 : decode cX11_moved 11 = .ok (.iconst 0, 1) := by decide +kernel
theorem dX11_moved_12 : decode cX11_moved 12 = .ok (.iconst 2, 1) := by decide +kernel
theorem dX11_moved_13 : decode cX11_moved 13 = .ok (.invokestatic 111, 3) := by decide +kernel
theorem dX11_moved_16 : decode cX11_moved 16 = .ok (.ifCond .ne 5, 3) := by decide +kernel
theorem dX11_moved_19 : decode cX11_moved 19 = .ok (.iconst (-1), 1) := by decide +kernel
theorem dX11_moved_20 : decode cX11_moved 20 = .ok (.ireturn, 1) := by decide +kernel
theorem dX11_moved_21 : decode cX11_moved 21 = .ok (.aload_n 0, 1) := by decide +kernel
theorem dX11_moved_22 : decode cX11_moved 22 = .ok (.getfield 66, 3) := by decide +kernel
theorem dX11_moved_25 : decode cX11_moved 25 = .ok (.iload_n 1, 1) := by decide +kernel
theorem dX11_moved_26 : decode cX11_moved 26 = .ok (.invokevirtual 283, 3) := by decide +kernel
theorem dX11_moved_29 : decode cX11_moved 29 = .ok (.iload_n 2, 1) := by decide +kernel
theorem dX11_moved_30 : decode cX11_moved 30 = .ok (.ifCond .ne 11, 3) := by decide +kernel
theorem dX11_moved_33 : decode cX11_moved 33 = .ok (.aload_n 0, 1) := by decide +kernel
theorem dX11_moved_34 : decode cX11_moved 34 = .ok (.getfield 66, 3) := by decide +kernel
theorem dX11_moved_37 : decode cX11_moved 37 = .ok (.getfield 285, 3) := by decide +kernel
theorem dX11_moved_40 : decode cX11_moved 40 = .ok (.ireturn, 1) := by decide +kernel
theorem dX11_moved_41 : decode cX11_moved 41 = .ok (.iload_n 2, 1) := by decide +kernel
theorem dX11_moved_42 : decode cX11_moved 42 = .ok (.iconst 1, 1) := by decide +kernel
theorem dX11_moved_43 : decode cX11_moved 43 = .ok (.if_icmp .ne 13, 3) := by decide +kernel
theorem dX11_moved_46 : decode cX11_moved 46 = .ok (.aload_n 0, 1) := by decide +kernel
theorem dX11_moved_47 : decode cX11_moved 47 = .ok (.getfield 66, 3) := by decide +kernel
theorem dX11_moved_50 : decode cX11_moved 50 = .ok (.getfield 288, 3) := by decide +kernel
theorem dX11_moved_53 : decode cX11_moved 53 = .ok (.goto 10, 3) := by decide +kernel
theorem dX11_moved_56 : decode cX11_moved 56 = .ok (.aload_n 0, 1) := by decide +kernel
theorem dX11_moved_57 : decode cX11_moved 57 = .ok (.getfield 66, 3) := by decide +kernel
theorem dX11_moved_60 : decode cX11_moved 60 = .ok (.getfield 291, 3) := by decide +kernel
theorem dX11_moved_63 : decode cX11_moved 63 = .ok (.ireturn, 1) := by decide +kernel
theorem dX11_sent_0 : decode cX11_sent 0 = .ok (.aload_n 0, 1) := by decide +kernel
theorem dX11_sent_1 : decode cX11_sent 1 = .ok (.getfield 19, 3) := by decide +kernel
theorem dX11_sent_4 : decode cX11_sent 4 = .ok (.iload_n 1, 1) := by decide +kernel
theorem dX11_sent_5 : decode cX11_sent 5 = .ok (.invokevirtual 141, 3) := by decide +kernel
theorem dX11_sent_8 : decode cX11_sent 8 = .ok (.ifCond .eq 28, 3) := by decide +kernel
theorem dX11_sent_11 : decode cX11_sent 11 = .ok (.aload_n 0, 1) := by decide +kernel
theorem dX11_sent_12 : decode cX11_sent 12 = .ok (.getfield 19, 3) := by decide +kernel
theorem dX11_sent_15 : decode cX11_sent 15 = .ok (.iload_n 2, 1) := by decide +kernel
theorem dX11_sent_16 : decode cX11_sent 16 = .ok (.invokevirtual 141, 3) := by decide +kernel
theorem dX11_sent_19 : decode cX11_sent 19 = .ok (.ifCond .eq 17, 3) := by decide +kernel
theorem dX11_sent_22 : decode cX11_sent 22 = .ok (.iload_n 1, 1) := by decide +kernel
theorem dX11_sent_23 : decode cX11_sent 23 = .ok (.iload_n 2, 1) := by decide +kernel
theorem dX11_sent_24 : decode cX11_sent 24 = .ok (.if_icmp .eq 12, 3) := by decide +kernel
theorem dX11_sent_27 : decode cX11_sent 27 = .ok (.iload_n 3, 1) := by decide +kernel
theorem dX11_sent_28 : decode cX11_sent 28 = .ok (.iconst 0, 1) := by decide +kernel
theorem dX11_sent_29 : decode cX11_sent 29 = .ok (.iconst 1, 1) := by decide +kernel
theorem dX11_sent_30 : decode cX11_sent 30 = .ok (.invokestatic 111, 3) := by decide +kernel
theorem dX11_sent_33 : decode cX11_sent 33 = .ok (.ifCond .ne 5, 3) := by decide +kernel
theorem dX11_sent_36 : decode cX11_sent 36 = .ok (.iconst (-1), 1) := by decide +kernel
theorem dX11_sent_37 : decode cX11_sent 37 = .ok (.ireturn, 1) := by decide +kernel
theorem dX11_sent_38 : decode cX11_sent 38 = .ok (.aload_n 0, 1) := by decide +kernel
theorem dX11_sent_39 : decode cX11_sent 39 = .ok (.getfield 19, 3) := by decide +kernel
theorem dX11_sent_42 : decode cX11_sent 42 = .ok (.getfield 147, 3) := by decide +kernel
theorem dX11_sent_45 : decode cX11_sent 45 = .ok (.getfield 162, 3) := by decide +kernel
theorem dX11_sent_48 : decode cX11_sent 48 = .ok (.iload_n 1, 1) := by decide +kernel
theorem dX11_sent_49 : decode cX11_sent 49 = .ok (.baload, 1) := by decide +kernel
theorem dX11_sent_50 : decode cX11_sent 50 = .ok (.ifCond .ne 18, 3) := by decide +kernel
theorem dX11_sent_53 : decode cX11_sent 53 = .ok (.aload_n 0, 1) := by decide +kernel
theorem dX11_sent_54 : decode cX11_sent 54 = .ok (.getfield 19, 3) := by decide +kernel
theorem dX11_sent_57 : decode cX11_sent 57 = .ok (.getfield 147, 3) := by decide +kernel
theorem dX11_sent_60 : decode cX11_sent 60 = .ok (.getfield 162, 3) := by decide +kernel
theorem dX11_sent_63 : decode cX11_sent 63 = .ok (.iload_n 2, 1) := by decide +kernel
theorem dX11_sent_64 : decode cX11_sent 64 = .ok (.baload, 1) := by decide +kernel
theorem dX11_sent_65 : decode cX11_sent 65 = .ok (.ifCond .eq 6, 3) := by decide +kernel
theorem dX11_sent_68 : decode cX11_sent 68 = .ok (.bipush (-2), 2) := by decide +kernel
theorem dX11_sent_70 : decode cX11_sent 70 = .ok (.ireturn, 1) := by decide +kernel
theorem dX11_sent_71 : decode cX11_sent 71 = .ok (.bipush (-4), 2) := by decide +kernel
theorem dX11_sent_73 : decode cX11_sent 73 = .ok (.istore 4, 2) := by decide +kernel
theorem dX11_sent_75 : decode cX11_sent 75 = .ok (.bipush 61, 2) := by decide +kernel
theorem dX11_sent_77 : decode cX11_sent 77 = .ok (.istore 5, 2) := by decide +kernel
theorem dX11_sent_79 : decode cX11_sent 79 = .ok (.iconst 0, 1) := by decide +kernel
theorem dX11_sent_80 : decode cX11_sent 80 = .ok (.istore 6, 2) := by decide +kernel
theorem dX11_sent_82 : decode cX11_sent 82 = .ok (.iload 6, 2) := by decide +kernel
theorem dX11_sent_84 : decode cX11_sent 84 = .ok (.bipush 9, 2) := by decide +kernel
theorem dX11_sent_86 : decode cX11_sent 86 = .ok (.if_icmp .gt 78, 3) := by decide +kernel
theorem dX11_sent_89 : decode cX11_sent 89 = .ok (.aload_n 0, 1) := by decide +kernel
theorem dX11_sent_90 : decode cX11_sent 90 = .ok (.getfield 40, 3) := by decide +kernel
theorem dX11_sent_93 : decode cX11_sent 93 = .ok (.aload_n 0, 1) := by decide +kernel
theorem dX11_sent_94 : decode cX11_sent 94 = .ok (.getfield 19, 3) := by decide +kernel
theorem dX11_sent_97 : decode cX11_sent 97 = .ok (.getfield 122, 3) := by decide +kernel
theorem dX11_sent_100 : decode cX11_sent 100 = .ok (.getfield 144, 3) := by decide +kernel
theorem dX11_sent_103 : decode cX11_sent 103 = .ok (.iload_n 1, 1) := by decide +kernel
theorem dX11_sent_104 : decode cX11_sent 104 = .ok (.iaload, 1) := by decide +kernel
theorem dX11_sent_105 : decode cX11_sent 105 = .ok (.aload_n 0, 1) := by decide +kernel
theorem dX11_sent_106 : decode cX11_sent 106 = .ok (.getfield 19, 3) := by decide +kernel
theorem dX11_sent_109 : decode cX11_sent 109 = .ok (.getfield 147, 3) := by decide +kernel
theorem dX11_sent_112 : decode cX11_sent 112 = .ok (.getfield 151, 3) := by decide +kernel
theorem dX11_sent_115 : decode cX11_sent 115 = .ok (.iload_n 1, 1) := by decide +kernel
theorem dX11_sent_116 : decode cX11_sent 116 = .ok (.iaload, 1) := by decide +kernel
theorem dX11_sent_117 : decode cX11_sent 117 = .ok (.iload 6, 2) := by decide +kernel
theorem dX11_sent_119 : decode cX11_sent 119 = .ok (.invokevirtual 294, 3) := by decide +kernel
theorem dX11_sent_122 : decode cX11_sent 122 = .ok (.aload_n 0, 1) := by decide +kernel
theorem dX11_sent_123 : decode cX11_sent 123 = .ok (.getfield 40, 3) := by decide +kernel
theorem dX11_sent_126 : decode cX11_sent 126 = .ok (.iload_n 1, 1) := by decide +kernel
theorem dX11_sent_127 : decode cX11_sent 127 = .ok (.invokevirtual 298, 3) := by decide +kernel
theorem dX11_sent_130 : decode cX11_sent 130 = .ok (.istore 7, 2) := by decide +kernel
theorem dX11_sent_132 : decode cX11_sent 132 = .ok (.aload_n 0, 1) := by decide +kernel
theorem dX11_sent_133 : decode cX11_sent 133 = .ok (.getfield 40, 3) := by decide +kernel
theorem dX11_sent_136 : decode cX11_sent 136 = .ok (.getfield 237, 3) := by decide +kernel
theorem dX11_sent_139 : decode cX11_sent 139 = .ok (.iload_n 2, 1) := by decide +kernel
theorem dX11_sent_140 : decode cX11_sent 140 = .ok (.if_icmp .ne 18, 3) := by decide +kernel
theorem dX11_sent_143 : decode cX11_sent 143 = .ok (.iload 7, 2) := by decide +kernel
theorem dX11_sent_145 : decode cX11_sent 145 = .ok (.iload 5, 2) := by decide +kernel
theorem dX11_sent_147 : decode cX11_sent 147 = .ok (.if_icmp .ge 11, 3) := by decide +kernel
theorem dX11_sent_150 : decode cX11_sent 150 = .ok (.iload 6, 2) := by decide +kernel
theorem dX11_sent_152 : decode cX11_sent 152 = .ok (.istore 4, 2) := by decide +kernel
theorem dX11_sent_154 : decode cX11_sent 154 = .ok (.iload 7, 2) := by decide +kernel
theorem dX11_sent_156 : decode cX11_sent 156 = .ok (.istore 5, 2) := by decide +kernel
theorem dX11_sent_158 : decode cX11_sent 158 = .ok (.iinc 6 1, 3) := by decide +kernel
theorem dX11_sent_161 : decode cX11_sent 161 = .ok (.goto (-79), 3) := by decide +kernel
theorem dX11_sent_164 : decode cX11_sent 164 = .ok (.iload 4, 2) := by decide +kernel
theorem dX11_sent_166 : decode cX11_sent 166 = .ok (.bipush (-4), 2) := by decide +kernel
theorem dX11_sent_168 : decode cX11_sent 168 = .ok (.if_icmp .ne 6, 3) := by decide +kernel
theorem dX11_sent_171 : decode cX11_sent 171 = .ok (.bipush (-4), 2) := by decide +kernel
theorem dX11_sent_173 : decode cX11_sent 173 = .ok (.ireturn, 1) := by decide +kernel
theorem dX11_sent_174 : decode cX11_sent 174 = .ok (.iload_n 3, 1) := by decide +kernel
theorem dX11_sent_175 : decode cX11_sent 175 = .ok (.ifCond .ne 8, 3) := by decide +kernel
theorem dX11_sent_178 : decode cX11_sent 178 = .ok (.iload 4, 2) := by decide +kernel
theorem dX11_sent_180 : decode cX11_sent 180 = .ok (.goto 5, 3) := by decide +kernel
theorem dX11_sent_183 : decode cX11_sent 183 = .ok (.iload 5, 2) := by decide +kernel
theorem dX11_sent_185 : decode cX11_sent 185 = .ok (.ireturn, 1) := by decide +kernel
theorem dX11_fall_0 : decode cX11_fall 0 = .ok (.aload_n 0, 1) := by decide +kernel
theorem dX11_fall_1 : decode cX11_fall 1 = .ok (.getfield 19, 3) := by decide +kernel
theorem dX11_fall_4 : decode cX11_fall 4 = .ok (.iload_n 1, 1) := by decide +kernel
theorem dX11_fall_5 : decode cX11_fall 5 = .ok (.invokevirtual 141, 3) := by decide +kernel
theorem dX11_fall_8 : decode cX11_fall 8 = .ok (.ifCond .eq 12, 3) := by decide +kernel
theorem dX11_fall_11 : decode cX11_fall 11 = .ok (.iload_n 2, 1) := by decide +kernel
theorem dX11_fall_12 : decode cX11_fall 12 = .ok (.iconst 0, 1) := by decide +kernel
theorem dX11_fall_13 : decode cX11_fall 13 = .ok (.iconst 1, 1) := by decide +kernel
theorem dX11_fall_14 : decode cX11_fall 14 = .ok (.invokestatic 111, 3) := by decide +kernel
theorem dX11_fall_17 : decode cX11_fall 17 = .ok (.ifCond .ne 5, 3) := by decide +kernel
theorem dX11_fall_20 : decode cX11_fall 20 = .ok (.iconst (-1), 1) := by decide +kernel
theorem dX11_fall_21 : decode cX11_fall 21 = .ok (.ireturn, 1) := by decide +kernel
theorem dX11_fall_22 : decode cX11_fall 22 = .ok (.aload_n 0, 1) := by decide +kernel
theorem dX11_fall_23 : decode cX11_fall 23 = .ok (.getfield 19, 3) := by decide +kernel
theorem dX11_fall_26 : decode cX11_fall 26 = .ok (.getfield 147, 3) := by decide +kernel
theorem dX11_fall_29 : decode cX11_fall 29 = .ok (.getfield 162, 3) := by decide +kernel
theorem dX11_fall_32 : decode cX11_fall 32 = .ok (.iload_n 1, 1) := by decide +kernel
theorem dX11_fall_33 : decode cX11_fall 33 = .ok (.baload, 1) := by decide +kernel
theorem dX11_fall_34 : decode cX11_fall 34 = .ok (.ifCond .eq 6, 3) := by decide +kernel
theorem dX11_fall_37 : decode cX11_fall 37 = .ok (.bipush (-2), 2) := by decide +kernel
theorem dX11_fall_39 : decode cX11_fall 39 = .ok (.ireturn, 1) := by decide +kernel
theorem dX11_fall_40 : decode cX11_fall 40 = .ok (.aload_n 0, 1) := by decide +kernel
theorem dX11_fall_41 : decode cX11_fall 41 = .ok (.getfield 40, 3) := by decide +kernel
theorem dX11_fall_44 : decode cX11_fall 44 = .ok (.aload_n 0, 1) := by decide +kernel
theorem dX11_fall_45 : decode cX11_fall 45 = .ok (.getfield 19, 3) := by decide +kernel
theorem dX11_fall_48 : decode cX11_fall 48 = .ok (.getfield 122, 3) := by decide +kernel
theorem dX11_fall_51 : decode cX11_fall 51 = .ok (.getfield 144, 3) := by decide +kernel
theorem dX11_fall_54 : decode cX11_fall 54 = .ok (.iload_n 1, 1) := by decide +kernel
theorem dX11_fall_55 : decode cX11_fall 55 = .ok (.iaload, 1) := by decide +kernel
theorem dX11_fall_56 : decode cX11_fall 56 = .ok (.aload_n 0, 1) := by decide +kernel
theorem dX11_fall_57 : decode cX11_fall 57 = .ok (.getfield 19, 3) := by decide +kernel
theorem dX11_fall_60 : decode cX11_fall 60 = .ok (.getfield 147, 3) := by decide +kernel
theorem dX11_fall_63 : decode cX11_fall 63 = .ok (.getfield 151, 3) := by decide +kernel
theorem dX11_fall_66 : decode cX11_fall 66 = .ok (.iload_n 1, 1) := by decide +kernel
theorem dX11_fall_67 : decode cX11_fall 67 = .ok (.iaload, 1) := by decide +kernel
theorem dX11_fall_68 : decode cX11_fall 68 = .ok (.bipush 9, 2) := by decide +kernel
theorem dX11_fall_70 : decode cX11_fall 70 = .ok (.invokevirtual 294, 3) := by decide +kernel
theorem dX11_fall_73 : decode cX11_fall 73 = .ok (.aload_n 0, 1) := by decide +kernel
theorem dX11_fall_74 : decode cX11_fall 74 = .ok (.getfield 40, 3) := by decide +kernel
theorem dX11_fall_77 : decode cX11_fall 77 = .ok (.iload_n 1, 1) := by decide +kernel
theorem dX11_fall_78 : decode cX11_fall 78 = .ok (.invokevirtual 298, 3) := by decide +kernel
theorem dX11_fall_81 : decode cX11_fall 81 = .ok (.istore_n 3, 1) := by decide +kernel
theorem dX11_fall_82 : decode cX11_fall 82 = .ok (.iload_n 2, 1) := by decide +kernel
theorem dX11_fall_83 : decode cX11_fall 83 = .ok (.ifCond .ne 13, 3) := by decide +kernel
theorem dX11_fall_86 : decode cX11_fall 86 = .ok (.aload_n 0, 1) := by decide +kernel
theorem dX11_fall_87 : decode cX11_fall 87 = .ok (.getfield 40, 3) := by decide +kernel
theorem dX11_fall_90 : decode cX11_fall 90 = .ok (.getfield 237, 3) := by decide +kernel
theorem dX11_fall_93 : decode cX11_fall 93 = .ok (.goto 4, 3) := by decide +kernel
theorem dX11_fall_96 : decode cX11_fall 96 = .ok (.iload_n 3, 1) := by decide +kernel
theorem dX11_fall_97 : decode cX11_fall 97 = .ok (.ireturn, 1) := by decide +kernel
theorem dX11_clear_0 : decode cX11_clear 0 = .ok (.aload_n 0, 1) := by decide +kernel
theorem dX11_clear_1 : decode cX11_clear 1 = .ok (.getfield 19, 3) := by decide +kernel
theorem dX11_clear_4 : decode cX11_clear 4 = .ok (.iload_n 1, 1) := by decide +kernel
theorem dX11_clear_5 : decode cX11_clear 5 = .ok (.invokevirtual 128, 3) := by decide +kernel
theorem dX11_clear_8 : decode cX11_clear 8 = .ok (.ifCond .eq 19, 3) := by decide +kernel
theorem dX11_clear_11 : decode cX11_clear 11 = .ok (.aload_n 0, 1) := by decide +kernel
theorem dX11_clear_12 : decode cX11_clear 12 = .ok (.getfield 19, 3) := by decide +kernel
theorem dX11_clear_15 : decode cX11_clear 15 = .ok (.iload_n 2, 1) := by decide +kernel
theorem dX11_clear_16 : decode cX11_clear 16 = .ok (.invokevirtual 128, 3) := by decide +kernel
theorem dX11_clear_19 : decode cX11_clear 19 = .ok (.ifCond .eq 8, 3) := by decide +kernel
theorem dX11_clear_22 : decode cX11_clear 22 = .ok (.iload_n 2, 1) := by decide +kernel
theorem dX11_clear_23 : decode cX11_clear 23 = .ok (.iload_n 1, 1) := by decide +kernel
theorem dX11_clear_24 : decode cX11_clear 24 = .ok (.if_icmp .ge 5, 3) := by decide +kernel
theorem dX11_clear_27 : decode cX11_clear 27 = .ok (.iconst (-1), 1) := by decide +kernel
theorem dX11_clear_28 : decode cX11_clear 28 = .ok (.ireturn, 1) := by decide +kernel
theorem dX11_clear_29 : decode cX11_clear 29 = .ok (.aload_n 0, 1) := by decide +kernel
theorem dX11_clear_30 : decode cX11_clear 30 = .ok (.iload_n 1, 1) := by decide +kernel
theorem dX11_clear_31 : decode cX11_clear 31 = .ok (.iload_n 2, 1) := by decide +kernel
theorem dX11_clear_32 : decode cX11_clear 32 = .ok (.invokevirtual 301, 3) := by decide +kernel
theorem dX11_clear_35 : decode cX11_clear 35 = .ok (.ireturn, 1) := by decide +kernel
theorem dX11_gain_0 : decode cX11_gain 0 = .ok (.aload_n 0, 1) := by decide +kernel
theorem dX11_gain_1 : decode cX11_gain 1 = .ok (.getfield 19, 3) := by decide +kernel
theorem dX11_gain_4 : decode cX11_gain 4 = .ok (.iload_n 1, 1) := by decide +kernel
theorem dX11_gain_5 : decode cX11_gain 5 = .ok (.invokevirtual 128, 3) := by decide +kernel
theorem dX11_gain_8 : decode cX11_gain 8 = .ok (.ifCond .eq 8, 3) := by decide +kernel
theorem dX11_gain_11 : decode cX11_gain 11 = .ok (.iload_n 1, 1) := by decide +kernel
theorem dX11_gain_12 : decode cX11_gain 12 = .ok (.iconst 1, 1) := by decide +kernel
theorem dX11_gain_13 : decode cX11_gain 13 = .ok (.if_icmp .ge 5, 3) := by decide +kernel
theorem dX11_gain_16 : decode cX11_gain 16 = .ok (.iconst (-1), 1) := by decide +kernel
theorem dX11_gain_17 : decode cX11_gain 17 = .ok (.ireturn, 1) := by decide +kernel
theorem dX11_gain_18 : decode cX11_gain 18 = .ok (.aload_n 0, 1) := by decide +kernel
theorem dX11_gain_19 : decode cX11_gain 19 = .ok (.iload_n 1, 1) := by decide +kernel
theorem dX11_gain_20 : decode cX11_gain 20 = .ok (.aload_n 0, 1) := by decide +kernel
theorem dX11_gain_21 : decode cX11_gain 21 = .ok (.getfield 19, 3) := by decide +kernel
theorem dX11_gain_24 : decode cX11_gain 24 = .ok (.getfield 122, 3) := by decide +kernel
theorem dX11_gain_27 : decode cX11_gain 27 = .ok (.getfield 125, 3) := by decide +kernel
theorem dX11_gain_30 : decode cX11_gain 30 = .ok (.iconst 1, 1) := by decide +kernel
theorem dX11_gain_31 : decode cX11_gain 31 = .ok (.isub, 1) := by decide +kernel
theorem dX11_gain_32 : decode cX11_gain 32 = .ok (.invokevirtual 301, 3) := by decide +kernel
theorem dX11_gain_35 : decode cX11_gain 35 = .ok (.istore_n 2, 1) := by decide +kernel
theorem dX11_gain_36 : decode cX11_gain 36 = .ok (.aload_n 0, 1) := by decide +kernel
theorem dX11_gain_37 : decode cX11_gain 37 = .ok (.iconst 0, 1) := by decide +kernel
theorem dX11_gain_38 : decode cX11_gain 38 = .ok (.iload_n 1, 1) := by decide +kernel
theorem dX11_gain_39 : decode cX11_gain 39 = .ok (.iconst 1, 1) := by decide +kernel
theorem dX11_gain_40 : decode cX11_gain 40 = .ok (.isub, 1) := by decide +kernel
theorem dX11_gain_41 : decode cX11_gain 41 = .ok (.invokevirtual 301, 3) := by decide +kernel
theorem dX11_gain_44 : decode cX11_gain 44 = .ok (.istore_n 3, 1) := by decide +kernel
theorem dX11_gain_45 : decode cX11_gain 45 = .ok (.iload_n 2, 1) := by decide +kernel
theorem dX11_gain_46 : decode cX11_gain 46 = .ok (.bipush (-4), 2) := by decide +kernel
theorem dX11_gain_48 : decode cX11_gain 48 = .ok (.if_icmp .eq 9, 3) := by decide +kernel
theorem dX11_gain_51 : decode cX11_gain 51 = .ok (.iload_n 3, 1) := by decide +kernel
theorem dX11_gain_52 : decode cX11_gain 52 = .ok (.bipush (-4), 2) := by decide +kernel
theorem dX11_gain_54 : decode cX11_gain 54 = .ok (.if_icmp .ne 6, 3) := by decide +kernel
theorem dX11_gain_57 : decode cX11_gain 57 = .ok (.bipush (-4), 2) := by decide +kernel
theorem dX11_gain_59 : decode cX11_gain 59 = .ok (.ireturn, 1) := by decide +kernel
theorem dX11_gain_60 : decode cX11_gain 60 = .ok (.iconst 0, 1) := by decide +kernel
theorem dX11_gain_61 : decode cX11_gain 61 = .ok (.iload_n 2, 1) := by decide +kernel
theorem dX11_gain_62 : decode cX11_gain 62 = .ok (.iload_n 3, 1) := by decide +kernel
theorem dX11_gain_63 : decode cX11_gain 63 = .ok (.isub, 1) := by decide +kernel
theorem dX11_gain_64 : decode cX11_gain 64 = .ok (.invokestatic 304, 3) := by decide +kernel
theorem dX11_gain_67 : decode cX11_gain 67 = .ok (.ireturn, 1) := by decide +kernel
theorem dX11_drifted_0 : decode cX11_drifted 0 = .ok (.aload_n 0, 1) := by decide +kernel
theorem dX11_drifted_1 : decode cX11_drifted 1 = .ok (.getfield 19, 3) := by decide +kernel
theorem dX11_drifted_4 : decode cX11_drifted 4 = .ok (.iload_n 1, 1) := by decide +kernel
theorem dX11_drifted_5 : decode cX11_drifted 5 = .ok (.invokevirtual 128, 3) := by decide +kernel
theorem dX11_drifted_8 : decode cX11_drifted 8 = .ok (.ifCond .eq 36, 3) := by decide +kernel
theorem dX11_drifted_11 : decode cX11_drifted 11 = .ok (.aload_n 0, 1) := by decide +kernel
theorem dX11_drifted_12 : decode cX11_drifted 12 = .ok (.getfield 19, 3) := by decide +kernel
theorem dX11_drifted_15 : decode cX11_drifted 15 = .ok (.iload_n 2, 1) := by decide +kernel
theorem dX11_drifted_16 : decode cX11_drifted 16 = .ok (.invokevirtual 204, 3) := by decide +kernel
theorem dX11_drifted_19 : decode cX11_drifted 19 = .ok (.ifCond .eq 25, 3) := by decide +kernel
theorem dX11_drifted_22 : decode cX11_drifted 22 = .ok (.aload_n 0, 1) := by decide +kernel
theorem dX11_drifted_23 : decode cX11_drifted 23 = .ok (.getfield 19, 3) := by decide +kernel
theorem dX11_drifted_26 : decode cX11_drifted 26 = .ok (.iload_n 3, 1) := by decide +kernel
theorem dX11_drifted_27 : decode cX11_drifted 27 = .ok (.invokevirtual 204, 3) := by decide +kernel
theorem dX11_drifted_30 : decode cX11_drifted 30 = .ok (.ifCond .eq 14, 3) := by decide +kernel
theorem dX11_drifted_33 : decode cX11_drifted 33 = .ok (.iload 4, 2) := by decide +kernel
theorem dX11_drifted_35 : decode cX11_drifted 35 = .ok (.iconst 1, 1) := by decide +kernel
theorem dX11_drifted_36 : decode cX11_drifted 36 = .ok (.bipush 50, 2) := by decide +kernel
theorem dX11_drifted_38 : decode cX11_drifted 38 = .ok (.invokestatic 111, 3) := by decide +kernel
theorem dX11_drifted_41 : decode cX11_drifted 41 = .ok (.ifCond .ne 5, 3) := by decide +kernel
theorem dX11_drifted_44 : decode cX11_drifted 44 = .ok (.iconst (-1), 1) := by decide +kernel
theorem dX11_drifted_45 : decode cX11_drifted 45 = .ok (.ireturn, 1) := by decide +kernel
theorem dX11_drifted_46 : decode cX11_drifted 46 = .ok (.aload_n 0, 1) := by decide +kernel
theorem dX11_drifted_47 : decode cX11_drifted 47 = .ok (.getfield 73, 3) := by decide +kernel
theorem dX11_drifted_50 : decode cX11_drifted 50 = .ok (.iload_n 1, 1) := by decide +kernel
theorem dX11_drifted_51 : decode cX11_drifted 51 = .ok (.iload_n 2, 1) := by decide +kernel
theorem dX11_drifted_52 : decode cX11_drifted 52 = .ok (.iload_n 3, 1) := by decide +kernel
theorem dX11_drifted_53 : decode cX11_drifted 53 = .ok (.iload 4, 2) := by decide +kernel
theorem dX11_drifted_55 : decode cX11_drifted 55 = .ok (.invokevirtual 309, 3) := by decide +kernel
theorem dX11_drifted_58 : decode cX11_drifted 58 = .ok (.ifCond .ne 6, 3) := by decide +kernel
theorem dX11_drifted_61 : decode cX11_drifted 61 = .ok (.bipush (-3), 2) := by decide +kernel
theorem dX11_drifted_63 : decode cX11_drifted 63 = .ok (.ireturn, 1) := by decide +kernel
theorem dX11_drifted_64 : decode cX11_drifted 64 = .ok (.aload_n 0, 1) := by decide +kernel
theorem dX11_drifted_65 : decode cX11_drifted 65 = .ok (.getfield 73, 3) := by decide +kernel
theorem dX11_drifted_68 : decode cX11_drifted 68 = .ok (.getfield 312, 3) := by decide +kernel
theorem dX11_drifted_71 : decode cX11_drifted 71 = .ok (.ireturn, 1) := by decide +kernel
theorem dX11_forget_0 : decode cX11_forget 0 = .ok (.aload_n 0, 1) := by decide +kernel
theorem dX11_forget_1 : decode cX11_forget 1 = .ok (.getfield 73, 3) := by decide +kernel
theorem dX11_forget_4 : decode cX11_forget 4 = .ok (.invokevirtual 313, 3) := by decide +kernel
theorem dX11_forget_7 : decode cX11_forget 7 = .ok (.ireturn, 1) := by decide +kernel
theorem dX11_currents_0 : decode cX11_currents 0 = .ok (.aload_n 0, 1) := by decide +kernel
theorem dX11_currents_1 : decode cX11_currents 1 = .ok (.getfield 19, 3) := by decide +kernel
theorem dX11_currents_4 : decode cX11_currents 4 = .ok (.iload_n 1, 1) := by decide +kernel
theorem dX11_currents_5 : decode cX11_currents 5 = .ok (.invokevirtual 128, 3) := by decide +kernel
theorem dX11_currents_8 : decode cX11_currents 8 = .ok (.ifCond .ne 5, 3) := by decide +kernel
theorem dX11_currents_11 : decode cX11_currents 11 = .ok (.iconst (-1), 1) := by decide +kernel
theorem dX11_currents_12 : decode cX11_currents 12 = .ok (.ireturn, 1) := by decide +kernel
theorem dX11_currents_13 : decode cX11_currents 13 = .ok (.iconst 0, 1) := by decide +kernel
theorem dX11_currents_14 : decode cX11_currents 14 = .ok (.istore_n 2, 1) := by decide +kernel
theorem dX11_currents_15 : decode cX11_currents 15 = .ok (.iconst 0, 1) := by decide +kernel
theorem dX11_currents_16 : decode cX11_currents 16 = .ok (.istore_n 3, 1) := by decide +kernel
theorem dX11_currents_17 : decode cX11_currents 17 = .ok (.iload_n 3, 1) := by decide +kernel
theorem dX11_currents_18 : decode cX11_currents 18 = .ok (.bipush 6, 2) := by decide +kernel
theorem dX11_currents_20 : decode cX11_currents 20 = .ok (.if_icmp .gt 34, 3) := by decide +kernel
theorem dX11_currents_23 : decode cX11_currents 23 = .ok (.aload_n 0, 1) := by decide +kernel
theorem dX11_currents_24 : decode cX11_currents 24 = .ok (.getfield 73, 3) := by decide +kernel
theorem dX11_currents_27 : decode cX11_currents 27 = .ok (.aload_n 0, 1) := by decide +kernel
theorem dX11_currents_28 : decode cX11_currents 28 = .ok (.getfield 19, 3) := by decide +kernel
theorem dX11_currents_31 : decode cX11_currents 31 = .ok (.getfield 122, 3) := by decide +kernel
theorem dX11_currents_34 : decode cX11_currents 34 = .ok (.iload_n 1, 1) := by decide +kernel
theorem dX11_currents_35 : decode cX11_currents 35 = .ok (.iload_n 3, 1) := by decide +kernel
theorem dX11_currents_36 : decode cX11_currents 36 = .ok (.invokevirtual 314, 3) := by decide +kernel
theorem dX11_currents_39 : decode cX11_currents 39 = .ok (.ifCond .eq 9, 3) := by decide +kernel
theorem dX11_currents_42 : decode cX11_currents 42 = .ok (.iload_n 2, 1) := by decide +kernel
theorem dX11_currents_43 : decode cX11_currents 43 = .ok (.iconst 1, 1) := by decide +kernel
theorem dX11_currents_44 : decode cX11_currents 44 = .ok (.iload_n 3, 1) := by decide +kernel
theorem dX11_currents_45 : decode cX11_currents 45 = .ok (.ishl, 1) := by decide +kernel
theorem dX11_currents_46 : decode cX11_currents 46 = .ok (.ior, 1) := by decide +kernel
theorem dX11_currents_47 : decode cX11_currents 47 = .ok (.istore_n 2, 1) := by decide +kernel
theorem dX11_currents_48 : decode cX11_currents 48 = .ok (.iinc 3 1, 3) := by decide +kernel
theorem dX11_currents_51 : decode cX11_currents 51 = .ok (.goto (-34), 3) := by decide +kernel
theorem dX11_currents_54 : decode cX11_currents 54 = .ok (.iload_n 2, 1) := by decide +kernel
theorem dX11_currents_55 : decode cX11_currents 55 = .ok (.ireturn, 1) := by decide +kernel
theorem dX11_leak_0 : decode cX11_leak 0 = .ok (.aload_n 0, 1) := by decide +kernel
theorem dX11_leak_1 : decode cX11_leak 1 = .ok (.getfield 19, 3) := by decide +kernel
theorem dX11_leak_4 : decode cX11_leak 4 = .ok (.iload_n 1, 1) := by decide +kernel
theorem dX11_leak_5 : decode cX11_leak 5 = .ok (.invokevirtual 128, 3) := by decide +kernel
theorem dX11_leak_8 : decode cX11_leak 8 = .ok (.ifCond .eq 23, 3) := by decide +kernel
theorem dX11_leak_11 : decode cX11_leak 11 = .ok (.iload_n 2, 1) := by decide +kernel
theorem dX11_leak_12 : decode cX11_leak 12 = .ok (.iconst 0, 1) := by decide +kernel
theorem dX11_leak_13 : decode cX11_leak 13 = .ok (.bipush 9, 2) := by decide +kernel
theorem dX11_leak_15 : decode cX11_leak 15 = .ok (.invokestatic 111, 3) := by decide +kernel
theorem dX11_leak_18 : decode cX11_leak 18 = .ok (.ifCond .eq 13, 3) := by decide +kernel
theorem dX11_leak_21 : decode cX11_leak 21 = .ok (.iload_n 3, 1) := by decide +kernel
theorem dX11_leak_22 : decode cX11_leak 22 = .ok (.iconst 0, 1) := by decide +kernel
theorem dX11_leak_23 : decode cX11_leak 23 = .ok (.bipush 9, 2) := by decide +kernel
theorem dX11_leak_25 : decode cX11_leak 25 = .ok (.invokestatic 111, 3) := by decide +kernel
theorem dX11_leak_28 : decode cX11_leak 28 = .ok (.ifCond .ne 7, 3) := by decide +kernel
theorem dX11_leak_31 : decode cX11_leak 31 = .ok (.ldc2_w 318, 3) := by decide +kernel
theorem dX11_leak_34 : decode cX11_leak 34 = .ok (.lreturn, 1) := by decide +kernel
theorem dX11_leak_35 : decode cX11_leak 35 = .ok (.iload 4, 2) := by decide +kernel
theorem dX11_leak_37 : decode cX11_leak 37 = .ok (.iconst 0, 1) := by decide +kernel
theorem dX11_leak_38 : decode cX11_leak 38 = .ok (.bipush 10, 2) := by decide +kernel
theorem dX11_leak_40 : decode cX11_leak 40 = .ok (.invokestatic 111, 3) := by decide +kernel
theorem dX11_leak_43 : decode cX11_leak 43 = .ok (.ifCond .eq 13, 3) := by decide +kernel
theorem dX11_leak_46 : decode cX11_leak 46 = .ok (.iload 5, 2) := by decide +kernel
theorem dX11_leak_48 : decode cX11_leak 48 = .ok (.iconst 0, 1) := by decide +kernel
theorem dX11_leak_49 : decode cX11_leak 49 = .ok (.iconst 1, 1) := by decide +kernel
theorem dX11_leak_50 : decode cX11_leak 50 = .ok (.invokestatic 111, 3) := by decide +kernel
theorem dX11_leak_53 : decode cX11_leak 53 = .ok (.ifCond .ne 7, 3) := by decide +kernel
theorem dX11_leak_56 : decode cX11_leak 56 = .ok (.ldc2_w 318, 3) := by decide +kernel
theorem dX11_leak_59 : decode cX11_leak 59 = .ok (.lreturn, 1) := by decide +kernel
theorem dX11_leak_60 : decode cX11_leak 60 = .ok (.aload_n 0, 1) := by decide +kernel
theorem dX11_leak_61 : decode cX11_leak 61 = .ok (.aload_n 0, 1) := by decide +kernel
theorem dX11_leak_62 : decode cX11_leak 62 = .ok (.getfield 19, 3) := by decide +kernel
theorem dX11_leak_65 : decode cX11_leak 65 = .ok (.getfield 122, 3) := by decide +kernel
theorem dX11_leak_68 : decode cX11_leak 68 = .ok (.getfield 135, 3) := by decide +kernel
theorem dX11_leak_71 : decode cX11_leak 71 = .ok (.iload_n 1, 1) := by decide +kernel
theorem dX11_leak_72 : decode cX11_leak 72 = .ok (.iaload, 1) := by decide +kernel
theorem dX11_leak_73 : decode cX11_leak 73 = .ok (.iload_n 3, 1) := by decide +kernel
theorem dX11_leak_74 : decode cX11_leak 74 = .ok (.iload 4, 2) := by decide +kernel
theorem dX11_leak_76 : decode cX11_leak 76 = .ok (.invokevirtual 320, 3) := by decide +kernel
theorem dX11_leak_79 : decode cX11_leak 79 = .ok (.lconst 0, 1) := by decide +kernel
theorem dX11_leak_80 : decode cX11_leak 80 = .ok (.lstore 6, 2) := by decide +kernel
theorem dX11_leak_82 : decode cX11_leak 82 = .ok (.lconst 0, 1) := by decide +kernel
theorem dX11_leak_83 : decode cX11_leak 83 = .ok (.lstore 8, 2) := by decide +kernel
theorem dX11_leak_85 : decode cX11_leak 85 = .ok (.iconst 0, 1) := by decide +kernel
theorem dX11_leak_86 : decode cX11_leak 86 = .ok (.istore 10, 2) := by decide +kernel
theorem dX11_leak_88 : decode cX11_leak 88 = .ok (.iload 10, 2) := by decide +kernel
theorem dX11_leak_90 : decode cX11_leak 90 = .ok (.bipush 9, 2) := by decide +kernel
theorem dX11_leak_92 : decode cX11_leak 92 = .ok (.if_icmp .gt 39, 3) := by decide +kernel
theorem dX11_leak_95 : decode cX11_leak 95 = .ok (.lload 8, 2) := by decide +kernel
theorem dX11_leak_97 : decode cX11_leak 97 = .ok (.aload_n 0, 1) := by decide +kernel
theorem dX11_leak_98 : decode cX11_leak 98 = .ok (.getfield 77, 3) := by decide +kernel
theorem dX11_leak_101 : decode cX11_leak 101 = .ok (.iload 10, 2) := by decide +kernel
theorem dX11_leak_103 : decode cX11_leak 103 = .ok (.laload, 1) := by decide +kernel
theorem dX11_leak_104 : decode cX11_leak 104 = .ok (.ladd, 1) := by decide +kernel
theorem dX11_leak_105 : decode cX11_leak 105 = .ok (.lstore 8, 2) := by decide +kernel
theorem dX11_leak_107 : decode cX11_leak 107 = .ok (.iload 10, 2) := by decide +kernel
theorem dX11_leak_109 : decode cX11_leak 109 = .ok (.iload_n 2, 1) := by decide +kernel
theorem dX11_leak_110 : decode cX11_leak 110 = .ok (.if_icmp .lt 15, 3) := by decide +kernel
theorem dX11_leak_113 : decode cX11_leak 113 = .ok (.lload 6, 2) := by decide +kernel
theorem dX11_leak_115 : decode cX11_leak 115 = .ok (.aload_n 0, 1) := by decide +kernel
theorem dX11_leak_116 : decode cX11_leak 116 = .ok (.getfield 77, 3) := by decide +kernel
theorem dX11_leak_119 : decode cX11_leak 119 = .ok (.iload 10, 2) := by decide +kernel
theorem dX11_leak_121 : decode cX11_leak 121 = .ok (.laload, 1) := by decide +kernel
theorem dX11_leak_122 : decode cX11_leak 122 = .ok (.ladd, 1) := by decide +kernel
theorem dX11_leak_123 : decode cX11_leak 123 = .ok (.lstore 6, 2) := by decide +kernel
theorem dX11_leak_125 : decode cX11_leak 125 = .ok (.iinc 10 1, 3) := by decide +kernel
theorem dX11_leak_128 : decode cX11_leak 128 = .ok (.goto (-40), 3) := by decide +kernel
theorem dX11_leak_131 : decode cX11_leak 131 = .ok (.lload 8, 2) := by decide +kernel
theorem dX11_leak_133 : decode cX11_leak 133 = .ok (.lload 6, 2) := by decide +kernel
theorem dX11_leak_135 : decode cX11_leak 135 = .ok (.invokestatic 323, 3) := by decide +kernel
theorem dX11_leak_138 : decode cX11_leak 138 = .ok (.lstore 10, 2) := by decide +kernel
theorem dX11_leak_140 : decode cX11_leak 140 = .ok (.lload 10, 2) := by decide +kernel
theorem dX11_leak_142 : decode cX11_leak 142 = .ok (.lconst 1, 1) := by decide +kernel
theorem dX11_leak_143 : decode cX11_leak 143 = .ok (.lcmp, 1) := by decide +kernel
theorem dX11_leak_144 : decode cX11_leak 144 = .ok (.ifCond .ge 7, 3) := by decide +kernel
theorem dX11_leak_147 : decode cX11_leak 147 = .ok (.ldc2_w 318, 3) := by decide +kernel
theorem dX11_leak_150 : decode cX11_leak 150 = .ok (.lreturn, 1) := by decide +kernel
theorem dX11_leak_151 : decode cX11_leak 151 = .ok (.iload 5, 2) := by decide +kernel
theorem dX11_leak_153 : decode cX11_leak 153 = .ok (.ifCond .ne 11, 3) := by decide +kernel
theorem dX11_leak_156 : decode cX11_leak 156 = .ok (.lload 6, 2) := by decide +kernel
theorem dX11_leak_158 : decode cX11_leak 158 = .ok (.lload 10, 2) := by decide +kernel
theorem dX11_leak_160 : decode cX11_leak 160 = .ok (.ldiv, 1) := by decide +kernel
theorem dX11_leak_161 : decode cX11_leak 161 = .ok (.goto 8, 3) := by decide +kernel
theorem dX11_leak_164 : decode cX11_leak 164 = .ok (.lload 8, 2) := by decide +kernel
theorem dX11_leak_166 : decode cX11_leak 166 = .ok (.lload 10, 2) := by decide +kernel
theorem dX11_leak_168 : decode cX11_leak 168 = .ok (.ldiv, 1) := by decide +kernel
theorem dX11_leak_169 : decode cX11_leak 169 = .ok (.lreturn, 1) := by decide +kernel
theorem dX11_year_0 : decode cX11_year 0 = .ok (.iload_n 1, 1) := by decide +kernel
theorem dX11_year_1 : decode cX11_year 1 = .ok (.iconst 0, 1) := by decide +kernel
theorem dX11_year_2 : decode cX11_year 2 = .ok (.sipush 9999, 3) := by decide +kernel
theorem dX11_year_5 : decode cX11_year 5 = .ok (.invokestatic 111, 3) := by decide +kernel
theorem dX11_year_8 : decode cX11_year 8 = .ok (.ifCond .eq 13, 3) := by decide +kernel
theorem dX11_year_11 : decode cX11_year 11 = .ok (.iload_n 2, 1) := by decide +kernel
theorem dX11_year_12 : decode cX11_year 12 = .ok (.iconst 1, 1) := by decide +kernel
theorem dX11_year_13 : decode cX11_year 13 = .ok (.bipush 60, 2) := by decide +kernel
theorem dX11_year_15 : decode cX11_year 15 = .ok (.invokestatic 111, 3) := by decide +kernel
theorem dX11_year_18 : decode cX11_year 18 = .ok (.ifCond .ne 5, 3) := by decide +kernel
theorem dX11_year_21 : decode cX11_year 21 = .ok (.iconst (-1), 1) := by decide +kernel
theorem dX11_year_22 : decode cX11_year 22 = .ok (.ireturn, 1) := by decide +kernel
theorem dX11_year_23 : decode cX11_year 23 = .ok (.iload_n 3, 1) := by decide +kernel
theorem dX11_year_24 : decode cX11_year 24 = .ok (.iconst (-1), 1) := by decide +kernel
theorem dX11_year_25 : decode cX11_year 25 = .ok (.if_icmp .eq 16, 3) := by decide +kernel
theorem dX11_year_28 : decode cX11_year 28 = .ok (.aload_n 0, 1) := by decide +kernel
theorem dX11_year_29 : decode cX11_year 29 = .ok (.getfield 19, 3) := by decide +kernel
theorem dX11_year_32 : decode cX11_year 32 = .ok (.iload_n 3, 1) := by decide +kernel
theorem dX11_year_33 : decode cX11_year 33 = .ok (.invokevirtual 141, 3) := by decide +kernel
theorem dX11_year_36 : decode cX11_year 36 = .ok (.ifCond .ne 5, 3) := by decide +kernel
theorem dX11_year_39 : decode cX11_year 39 = .ok (.iconst (-1), 1) := by decide +kernel
theorem dX11_year_40 : decode cX11_year 40 = .ok (.ireturn, 1) := by decide +kernel
theorem dX11_year_41 : decode cX11_year 41 = .ok (.iload_n 3, 1) := by decide +kernel
theorem dX11_year_42 : decode cX11_year 42 = .ok (.iconst (-1), 1) := by decide +kernel
theorem dX11_year_43 : decode cX11_year 43 = .ok (.if_icmp .eq 21, 3) := by decide +kernel
theorem dX11_year_46 : decode cX11_year 46 = .ok (.aload_n 0, 1) := by decide +kernel
theorem dX11_year_47 : decode cX11_year 47 = .ok (.getfield 19, 3) := by decide +kernel
theorem dX11_year_50 : decode cX11_year 50 = .ok (.getfield 147, 3) := by decide +kernel
theorem dX11_year_53 : decode cX11_year 53 = .ok (.getfield 162, 3) := by decide +kernel
theorem dX11_year_56 : decode cX11_year 56 = .ok (.iload_n 3, 1) := by decide +kernel
theorem dX11_year_57 : decode cX11_year 57 = .ok (.baload, 1) := by decide +kernel
theorem dX11_year_58 : decode cX11_year 58 = .ok (.ifCond .eq 6, 3) := by decide +kernel
theorem dX11_year_61 : decode cX11_year 61 = .ok (.bipush (-2), 2) := by decide +kernel
theorem dX11_year_63 : decode cX11_year 63 = .ok (.ireturn, 1) := by decide +kernel
theorem dX11_year_64 : decode cX11_year 64 = .ok (.iconst 0, 1) := by decide +kernel
theorem dX11_year_65 : decode cX11_year 65 = .ok (.istore 4, 2) := by decide +kernel
theorem dX11_year_67 : decode cX11_year 67 = .ok (.iconst 0, 1) := by decide +kernel
theorem dX11_year_68 : decode cX11_year 68 = .ok (.istore 5, 2) := by decide +kernel
theorem dX11_year_70 : decode cX11_year 70 = .ok (.iload 5, 2) := by decide +kernel
theorem dX11_year_72 : decode cX11_year 72 = .ok (.iload_n 2, 1) := by decide +kernel
theorem dX11_year_73 : decode cX11_year 73 = .ok (.if_icmp .ge 56, 3) := by decide +kernel
theorem dX11_year_76 : decode cX11_year 76 = .ok (.aload_n 0, 1) := by decide +kernel
theorem dX11_year_77 : decode cX11_year 77 = .ok (.iload_n 1, 1) := by decide +kernel
theorem dX11_year_78 : decode cX11_year 78 = .ok (.iload 5, 2) := by decide +kernel
theorem dX11_year_80 : decode cX11_year 80 = .ok (.invokevirtual 327, 3) := by decide +kernel
theorem dX11_year_83 : decode cX11_year 83 = .ok (.aload_n 0, 1) := by decide +kernel
theorem dX11_year_84 : decode cX11_year 84 = .ok (.getfield 40, 3) := by decide +kernel
theorem dX11_year_87 : decode cX11_year 87 = .ok (.iconst (-1), 1) := by decide +kernel
theorem dX11_year_88 : decode cX11_year 88 = .ok (.invokevirtual 298, 3) := by decide +kernel
theorem dX11_year_91 : decode cX11_year 91 = .ok (.pop, 1) := by decide +kernel
theorem dX11_year_92 : decode cX11_year 92 = .ok (.aload_n 0, 1) := by decide +kernel
theorem dX11_year_93 : decode cX11_year 93 = .ok (.getfield 40, 3) := by decide +kernel
theorem dX11_year_96 : decode cX11_year 96 = .ok (.getfield 237, 3) := by decide +kernel
theorem dX11_year_99 : decode cX11_year 99 = .ok (.bipush (-4), 2) := by decide +kernel
theorem dX11_year_101 : decode cX11_year 101 = .ok (.if_icmp .eq 22, 3) := by decide +kernel
theorem dX11_year_104 : decode cX11_year 104 = .ok (.iload_n 3, 1) := by decide +kernel
theorem dX11_year_105 : decode cX11_year 105 = .ok (.iconst (-1), 1) := by decide +kernel
theorem dX11_year_106 : decode cX11_year 106 = .ok (.if_icmp .eq 14, 3) := by decide +kernel
theorem dX11_year_109 : decode cX11_year 109 = .ok (.aload_n 0, 1) := by decide +kernel
theorem dX11_year_110 : decode cX11_year 110 = .ok (.getfield 40, 3) := by decide +kernel
theorem dX11_year_113 : decode cX11_year 113 = .ok (.getfield 237, 3) := by decide +kernel
theorem dX11_year_116 : decode cX11_year 116 = .ok (.iload_n 3, 1) := by decide +kernel
theorem dX11_year_117 : decode cX11_year 117 = .ok (.if_icmp .ne 6, 3) := by decide +kernel
theorem dX11_year_120 : decode cX11_year 120 = .ok (.iinc 4 1, 3) := by decide +kernel
theorem dX11_year_123 : decode cX11_year 123 = .ok (.iinc 5 1, 3) := by decide +kernel
theorem dX11_year_126 : decode cX11_year 126 = .ok (.goto (-56), 3) := by decide +kernel
theorem dX11_year_129 : decode cX11_year 129 = .ok (.iload 4, 2) := by decide +kernel
theorem dX11_year_131 : decode cX11_year 131 = .ok (.ireturn, 1) := by decide +kernel
theorem dX11_keep_0 : decode cX11_keep 0 = .ok (.aload_n 0, 1) := by decide +kernel
theorem dX11_keep_1 : decode cX11_keep 1 = .ok (.getfield 32, 3) := by decide +kernel
theorem dX11_keep_4 : decode cX11_keep 4 = .ok (.getfield 228, 3) := by decide +kernel
theorem dX11_keep_7 : decode cX11_keep 7 = .ok (.iconst 2, 1) := by decide +kernel
theorem dX11_keep_8 : decode cX11_keep 8 = .ok (.if_icmp .lt 6, 3) := by decide +kernel
theorem dX11_keep_11 : decode cX11_keep 11 = .ok (.bipush (-3), 2) := by decide +kernel
theorem dX11_keep_13 : decode cX11_keep 13 = .ok (.ireturn, 1) := by decide +kernel
theorem dX11_keep_14 : decode cX11_keep 14 = .ok (.aload_n 0, 1) := by decide +kernel
theorem dX11_keep_15 : decode cX11_keep 15 = .ok (.getfield 32, 3) := by decide +kernel
theorem dX11_keep_18 : decode cX11_keep 18 = .ok (.aload_n 0, 1) := by decide +kernel
theorem dX11_keep_19 : decode cX11_keep 19 = .ok (.getfield 19, 3) := by decide +kernel
theorem dX11_keep_22 : decode cX11_keep 22 = .ok (.getfield 147, 3) := by decide +kernel
theorem dX11_keep_25 : decode cX11_keep 25 = .ok (.invokevirtual 184, 3) := by decide +kernel
theorem dX11_keep_28 : decode cX11_keep 28 = .ok (.aload_n 0, 1) := by decide +kernel
theorem dX11_keep_29 : decode cX11_keep 29 = .ok (.getfield 32, 3) := by decide +kernel
theorem dX11_keep_32 : decode cX11_keep 32 = .ok (.getfield 228, 3) := by decide +kernel
theorem dX11_keep_35 : decode cX11_keep 35 = .ok (.ireturn, 1) := by decide +kernel
theorem dX11_back_0 : decode cX11_back 0 = .ok (.aload_n 0, 1) := by decide +kernel
theorem dX11_back_1 : decode cX11_back 1 = .ok (.getfield 32, 3) := by decide +kernel
theorem dX11_back_4 : decode cX11_back 4 = .ok (.aload_n 0, 1) := by decide +kernel
theorem dX11_back_5 : decode cX11_back 5 = .ok (.getfield 19, 3) := by decide +kernel
theorem dX11_back_8 : decode cX11_back 8 = .ok (.getfield 147, 3) := by decide +kernel
theorem dX11_back_11 : decode cX11_back 11 = .ok (.invokevirtual 224, 3) := by decide +kernel
theorem dX11_back_14 : decode cX11_back 14 = .ok (.ifCond .ne 6, 3) := by decide +kernel
theorem dX11_back_17 : decode cX11_back 17 = .ok (.bipush (-2), 2) := by decide +kernel
theorem dX11_back_19 : decode cX11_back 19 = .ok (.ireturn, 1) := by decide +kernel
theorem dX11_back_20 : decode cX11_back 20 = .ok (.aload_n 0, 1) := by decide +kernel
theorem dX11_back_21 : decode cX11_back 21 = .ok (.getfield 28, 3) := by decide +kernel
theorem dX11_back_24 : decode cX11_back 24 = .ok (.invokevirtual 330, 3) := by decide +kernel
theorem dX11_back_27 : decode cX11_back 27 = .ok (.aload_n 0, 1) := by decide +kernel
theorem dX11_back_28 : decode cX11_back 28 = .ok (.getfield 32, 3) := by decide +kernel
theorem dX11_back_31 : decode cX11_back 31 = .ok (.getfield 228, 3) := by decide +kernel
theorem dX11_back_34 : decode cX11_back 34 = .ok (.ireturn, 1) := by decide +kernel
theorem dX11_count_0 : decode cX11_count 0 = .ok (.iload_n 1, 1) := by decide +kernel
theorem dX11_count_1 : decode cX11_count 1 = .ok (.tableswitch 150 0 9 #[55, 66, 77, 88, 99, 110, 118, 126, 134, 142], 55) := by decide +kernel
theorem dX11_count_56 : decode cX11_count 56 = .ok (.aload_n 0, 1) := by decide +kernel
theorem dX11_count_57 : decode cX11_count 57 = .ok (.getfield 19, 3) := by decide +kernel
theorem dX11_count_60 : decode cX11_count 60 = .ok (.getfield 122, 3) := by decide +kernel
theorem dX11_count_63 : decode cX11_count 63 = .ok (.getfield 125, 3) := by decide +kernel
theorem dX11_count_66 : decode cX11_count 66 = .ok (.ireturn, 1) := by decide +kernel
theorem dX11_count_67 : decode cX11_count 67 = .ok (.aload_n 0, 1) := by decide +kernel
theorem dX11_count_68 : decode cX11_count 68 = .ok (.getfield 19, 3) := by decide +kernel
theorem dX11_count_71 : decode cX11_count 71 = .ok (.getfield 122, 3) := by decide +kernel
theorem dX11_count_74 : decode cX11_count 74 = .ok (.getfield 267, 3) := by decide +kernel
theorem dX11_count_77 : decode cX11_count 77 = .ok (.ireturn, 1) := by decide +kernel
theorem dX11_count_78 : decode cX11_count 78 = .ok (.aload_n 0, 1) := by decide +kernel
theorem dX11_count_79 : decode cX11_count 79 = .ok (.getfield 19, 3) := by decide +kernel
theorem dX11_count_82 : decode cX11_count 82 = .ok (.getfield 122, 3) := by decide +kernel
theorem dX11_count_85 : decode cX11_count 85 = .ok (.getfield 264, 3) := by decide +kernel
theorem dX11_count_88 : decode cX11_count 88 = .ok (.ireturn, 1) := by decide +kernel
theorem dX11_count_89 : decode cX11_count 89 = .ok (.aload_n 0, 1) := by decide +kernel
theorem dX11_count_90 : decode cX11_count 90 = .ok (.getfield 19, 3) := by decide +kernel
theorem dX11_count_93 : decode cX11_count 93 = .ok (.getfield 147, 3) := by decide +kernel
theorem dX11_count_96 : decode cX11_count 96 = .ok (.getfield 188, 3) := by decide +kernel
theorem dX11_count_99 : decode cX11_count 99 = .ok (.ireturn, 1) := by decide +kernel
theorem dX11_count_100 : decode cX11_count 100 = .ok (.aload_n 0, 1) := by decide +kernel
theorem dX11_count_101 : decode cX11_count 101 = .ok (.getfield 19, 3) := by decide +kernel
theorem dX11_count_104 : decode cX11_count 104 = .ok (.getfield 147, 3) := by decide +kernel
theorem dX11_count_107 : decode cX11_count 107 = .ok (.getfield 181, 3) := by decide +kernel
theorem dX11_count_110 : decode cX11_count 110 = .ok (.ireturn, 1) := by decide +kernel
theorem dX11_count_111 : decode cX11_count 111 = .ok (.aload_n 0, 1) := by decide +kernel
theorem dX11_count_112 : decode cX11_count 112 = .ok (.getfield 59, 3) := by decide +kernel
theorem dX11_count_115 : decode cX11_count 115 = .ok (.getfield 272, 3) := by decide +kernel
theorem dX11_count_118 : decode cX11_count 118 = .ok (.ireturn, 1) := by decide +kernel
theorem dX11_count_119 : decode cX11_count 119 = .ok (.aload_n 0, 1) := by decide +kernel
theorem dX11_count_120 : decode cX11_count 120 = .ok (.getfield 73, 3) := by decide +kernel
theorem dX11_count_123 : decode cX11_count 123 = .ok (.getfield 312, 3) := by decide +kernel
theorem dX11_count_126 : decode cX11_count 126 = .ok (.ireturn, 1) := by decide +kernel
theorem dX11_count_127 : decode cX11_count 127 = .ok (.aload_n 0, 1) := by decide +kernel
theorem dX11_count_128 : decode cX11_count 128 = .ok (.getfield 28, 3) := by decide +kernel
theorem dX11_count_131 : decode cX11_count 131 = .ok (.getfield 228, 3) := by decide +kernel
theorem dX11_count_134 : decode cX11_count 134 = .ok (.ireturn, 1) := by decide +kernel
theorem dX11_count_135 : decode cX11_count 135 = .ok (.aload_n 0, 1) := by decide +kernel
theorem dX11_count_136 : decode cX11_count 136 = .ok (.getfield 32, 3) := by decide +kernel
theorem dX11_count_139 : decode cX11_count 139 = .ok (.getfield 228, 3) := by decide +kernel
theorem dX11_count_142 : decode cX11_count 142 = .ok (.ireturn, 1) := by decide +kernel
theorem dX11_count_143 : decode cX11_count 143 = .ok (.aload_n 0, 1) := by decide +kernel
theorem dX11_count_144 : decode cX11_count 144 = .ok (.getfield 12, 3) := by decide +kernel
theorem dX11_count_147 : decode cX11_count 147 = .ok (.getfield 115, 3) := by decide +kernel
theorem dX11_count_150 : decode cX11_count 150 = .ok (.ireturn, 1) := by decide +kernel
theorem dX11_count_151 : decode cX11_count 151 = .ok (.iconst (-1), 1) := by decide +kernel
theorem dX11_count_152 : decode cX11_count 152 = .ok (.ireturn, 1) := by decide +kernel
theorem dX11_within_0 : decode cX11_within 0 = .ok (.iload_n 0, 1) := by decide +kernel
theorem dX11_within_1 : decode cX11_within 1 = .ok (.iload_n 1, 1) := by decide +kernel
theorem dX11_within_2 : decode cX11_within 2 = .ok (.if_icmp .lt 12, 3) := by decide +kernel
theorem dX11_within_5 : decode cX11_within 5 = .ok (.iload_n 0, 1) := by decide +kernel
theorem dX11_within_6 : decode cX11_within 6 = .ok (.iload_n 2, 1) := by decide +kernel
theorem dX11_within_7 : decode cX11_within 7 = .ok (.if_icmp .gt 7, 3) := by decide +kernel
theorem dX11_within_10 : decode cX11_within 10 = .ok (.iconst 1, 1) := by decide +kernel
theorem dX11_within_11 : decode cX11_within 11 = .ok (.goto 4, 3) := by decide +kernel
theorem dX11_within_14 : decode cX11_within 14 = .ok (.iconst 0, 1) := by decide +kernel
theorem dX11_within_15 : decode cX11_within 15 = .ok (.ireturn, 1) := by decide +kernel
theorem dX11_spotOf_0 : decode cX11_spotOf 0 = .ok (.bipush 24, 2) := by decide +kernel
theorem dX11_spotOf_2 : decode cX11_spotOf 2 = .ok (.iload_n 0, 1) := by decide +kernel
theorem dX11_spotOf_3 : decode cX11_spotOf 3 = .ok (.imul, 1) := by decide +kernel
theorem dX11_spotOf_4 : decode cX11_spotOf 4 = .ok (.iload_n 1, 1) := by decide +kernel
theorem dX11_spotOf_5 : decode cX11_spotOf 5 = .ok (.iadd, 1) := by decide +kernel
theorem dX11_spotOf_6 : decode cX11_spotOf 6 = .ok (.ireturn, 1) := by decide +kernel
theorem dX11_layText_0 : decode cX11_layText 0 = .ok (.aload_n 0, 1) := by decide +kernel
theorem dX11_layText_1 : decode cX11_layText 1 = .ok (.getfield 12, 3) := by decide +kernel
theorem dX11_layText_4 : decode cX11_layText 4 = .ok (.aload_n 0, 1) := by decide +kernel
theorem dX11_layText_5 : decode cX11_layText 5 = .ok (.getfield 84, 3) := by decide +kernel
theorem dX11_layText_8 : decode cX11_layText 8 = .ok (.invokevirtual 118, 3) := by decide +kernel
theorem dX11_layText_11 : decode cX11_layText 11 = .ok (.bipush (-4), 2) := by decide +kernel
theorem dX11_layText_13 : decode cX11_layText 13 = .ok (.if_icmp .ne 13, 3) := by decide +kernel
theorem dX11_layText_16 : decode cX11_layText 16 = .ok (.aload_n 0, 1) := by decide +kernel
theorem dX11_layText_17 : decode cX11_layText 17 = .ok (.getfield 84, 3) := by decide +kernel
theorem dX11_layText_20 : decode cX11_layText 20 = .ok (.invokevirtual 332, 3) := by decide +kernel
theorem dX11_layText_23 : decode cX11_layText 23 = .ok (.ifCond .ne 5, 3) := by decide +kernel
theorem dX11_layText_26 : decode cX11_layText 26 = .ok (.iconst 0, 1) := by decide +kernel
theorem dX11_layText_27 : decode cX11_layText 27 = .ok (.ireturn, 1) := by decide +kernel
theorem dX11_layText_28 : decode cX11_layText 28 = .ok (.aload_n 0, 1) := by decide +kernel
theorem dX11_layText_29 : decode cX11_layText 29 = .ok (.getfield 19, 3) := by decide +kernel
theorem dX11_layText_32 : decode cX11_layText 32 = .ok (.getfield 122, 3) := by decide +kernel
theorem dX11_layText_35 : decode cX11_layText 35 = .ok (.astore_n 1, 1) := by decide +kernel
theorem dX11_layText_36 : decode cX11_layText 36 = .ok (.aload_n 0, 1) := by decide +kernel
theorem dX11_layText_37 : decode cX11_layText 37 = .ok (.getfield 19, 3) := by decide +kernel
theorem dX11_layText_40 : decode cX11_layText 40 = .ok (.aload_n 0, 1) := by decide +kernel
theorem dX11_layText_41 : decode cX11_layText 41 = .ok (.getfield 84, 3) := by decide +kernel
theorem dX11_layText_44 : decode cX11_layText 44 = .ok (.putfield 122, 3) := by decide +kernel
theorem dX11_layText_47 : decode cX11_layText 47 = .ok (.aload_n 0, 1) := by decide +kernel
theorem dX11_layText_48 : decode cX11_layText 48 = .ok (.aload_n 1, 1) := by decide +kernel
theorem dX11_layText_49 : decode cX11_layText 49 = .ok (.putfield 84, 3) := by decide +kernel
theorem dX11_layText_52 : decode cX11_layText 52 = .ok (.aload_n 0, 1) := by decide +kernel
theorem dX11_layText_53 : decode cX11_layText 53 = .ok (.getfield 19, 3) := by decide +kernel
theorem dX11_layText_56 : decode cX11_layText 56 = .ok (.invokevirtual 335, 3) := by decide +kernel
theorem dX11_layText_59 : decode cX11_layText 59 = .ok (.aload_n 0, 1) := by decide +kernel
theorem dX11_layText_60 : decode cX11_layText 60 = .ok (.getfield 50, 3) := by decide +kernel
theorem dX11_layText_63 : decode cX11_layText 63 = .ok (.invokevirtual 338, 3) := by decide +kernel
theorem dX11_layText_66 : decode cX11_layText 66 = .ok (.aload_n 0, 1) := by decide +kernel
theorem dX11_layText_67 : decode cX11_layText 67 = .ok (.getfield 59, 3) := by decide +kernel
theorem dX11_layText_70 : decode cX11_layText 70 = .ok (.invokevirtual 273, 3) := by decide +kernel
theorem dX11_layText_73 : decode cX11_layText 73 = .ok (.pop, 1) := by decide +kernel
theorem dX11_layText_74 : decode cX11_layText 74 = .ok (.aload_n 0, 1) := by decide +kernel
theorem dX11_layText_75 : decode cX11_layText 75 = .ok (.getfield 73, 3) := by decide +kernel
theorem dX11_layText_78 : decode cX11_layText 78 = .ok (.invokevirtual 313, 3) := by decide +kernel
theorem dX11_layText_81 : decode cX11_layText 81 = .ok (.pop, 1) := by decide +kernel
theorem dX11_layText_82 : decode cX11_layText 82 = .ok (.aload_n 0, 1) := by decide +kernel
theorem dX11_layText_83 : decode cX11_layText 83 = .ok (.getfield 28, 3) := by decide +kernel
theorem dX11_layText_86 : decode cX11_layText 86 = .ok (.invokevirtual 330, 3) := by decide +kernel
theorem dX11_layText_89 : decode cX11_layText 89 = .ok (.aload_n 0, 1) := by decide +kernel
theorem dX11_layText_90 : decode cX11_layText 90 = .ok (.getfield 32, 3) := by decide +kernel
theorem dX11_layText_93 : decode cX11_layText 93 = .ok (.invokevirtual 330, 3) := by decide +kernel
theorem dX11_layText_96 : decode cX11_layText 96 = .ok (.iconst 1, 1) := by decide +kernel
theorem dX11_layText_97 : decode cX11_layText 97 = .ok (.ireturn, 1) := by decide +kernel
theorem dX11_clearingPrice_0 : decode cX11_clearingPrice 0 = .ok (.aload_n 0, 1) := by decide +kernel
theorem dX11_clearingPrice_1 : decode cX11_clearingPrice 1 = .ok (.iload_n 1, 1) := by decide +kernel
theorem dX11_clearingPrice_2 : decode cX11_clearingPrice 2 = .ok (.iload_n 2, 1) := by decide +kernel
theorem dX11_clearingPrice_3 : decode cX11_clearingPrice 3 = .ok (.invokevirtual 339, 3) := by decide +kernel
theorem dX11_clearingPrice_6 : decode cX11_clearingPrice 6 = .ok (.ifCond .ne 6, 3) := by decide +kernel
theorem dX11_clearingPrice_9 : decode cX11_clearingPrice 9 = .ok (.bipush (-4), 2) := by decide +kernel
theorem dX11_clearingPrice_11 : decode cX11_clearingPrice 11 = .ok (.ireturn, 1) := by decide +kernel
theorem dX11_clearingPrice_12 : decode cX11_clearingPrice 12 = .ok (.iconst 0, 1) := by decide +kernel
theorem dX11_clearingPrice_13 : decode cX11_clearingPrice 13 = .ok (.istore_n 3, 1) := by decide +kernel
theorem dX11_clearingPrice_14 : decode cX11_clearingPrice 14 = .ok (.iload_n 3, 1) := by decide +kernel
theorem dX11_clearingPrice_15 : decode cX11_clearingPrice 15 = .ok (.bipush 20, 2) := by decide +kernel
theorem dX11_clearingPrice_17 : decode cX11_clearingPrice 17 = .ok (.if_icmp .gt 21, 3) := by decide +kernel
theorem dX11_clearingPrice_20 : decode cX11_clearingPrice 20 = .ok (.aload_n 0, 1) := by decide +kernel
theorem dX11_clearingPrice_21 : decode cX11_clearingPrice 21 = .ok (.iload_n 3, 1) := by decide +kernel
theorem dX11_clearingPrice_22 : decode cX11_clearingPrice 22 = .ok (.iload_n 1, 1) := by decide +kernel
theorem dX11_clearingPrice_23 : decode cX11_clearingPrice 23 = .ok (.iload_n 2, 1) := by decide +kernel
theorem dX11_clearingPrice_24 : decode cX11_clearingPrice 24 = .ok (.invokevirtual 342, 3) := by decide +kernel
theorem dX11_clearingPrice_27 : decode cX11_clearingPrice 27 = .ok (.ifCond .gt 5, 3) := by decide +kernel
theorem dX11_clearingPrice_30 : decode cX11_clearingPrice 30 = .ok (.iload_n 3, 1) := by decide +kernel
theorem dX11_clearingPrice_31 : decode cX11_clearingPrice 31 = .ok (.ireturn, 1) := by decide +kernel
theorem dX11_clearingPrice_32 : decode cX11_clearingPrice 32 = .ok (.iinc 3 1, 3) := by decide +kernel
theorem dX11_clearingPrice_35 : decode cX11_clearingPrice 35 = .ok (.goto (-21), 3) := by decide +kernel
theorem dX11_clearingPrice_38 : decode cX11_clearingPrice 38 = .ok (.bipush (-4), 2) := by decide +kernel
theorem dX11_clearingPrice_40 : decode cX11_clearingPrice 40 = .ok (.ireturn, 1) := by decide +kernel
theorem dX11_anyTown_0 : decode cX11_anyTown 0 = .ok (.iconst 0, 1) := by decide +kernel
theorem dX11_anyTown_1 : decode cX11_anyTown 1 = .ok (.istore_n 3, 1) := by decide +kernel
theorem dX11_anyTown_2 : decode cX11_anyTown 2 = .ok (.iload_n 3, 1) := by decide +kernel
theorem dX11_anyTown_3 : decode cX11_anyTown 3 = .ok (.aload_n 0, 1) := by decide +kernel
theorem dX11_anyTown_4 : decode cX11_anyTown 4 = .ok (.getfield 19, 3) := by decide +kernel
theorem dX11_anyTown_7 : decode cX11_anyTown 7 = .ok (.getfield 122, 3) := by decide +kernel
theorem dX11_anyTown_10 : decode cX11_anyTown 10 = .ok (.getfield 264, 3) := by decide +kernel
theorem dX11_anyTown_13 : decode cX11_anyTown 13 = .ok (.if_icmp .ge 46, 3) := by decide +kernel
theorem dX11_anyTown_16 : decode cX11_anyTown 16 = .ok (.aload_n 0, 1) := by decide +kernel
theorem dX11_anyTown_17 : decode cX11_anyTown 17 = .ok (.getfield 19, 3) := by decide +kernel
theorem dX11_anyTown_20 : decode cX11_anyTown 20 = .ok (.getfield 147, 3) := by decide +kernel
theorem dX11_anyTown_23 : decode cX11_anyTown 23 = .ok (.getfield 162, 3) := by decide +kernel
theorem dX11_anyTown_26 : decode cX11_anyTown 26 = .ok (.iload_n 3, 1) := by decide +kernel
theorem dX11_anyTown_27 : decode cX11_anyTown 27 = .ok (.baload, 1) := by decide +kernel
theorem dX11_anyTown_28 : decode cX11_anyTown 28 = .ok (.ifCond .ne 25, 3) := by decide +kernel
theorem dX11_anyTown_31 : decode cX11_anyTown 31 = .ok (.aload_n 0, 1) := by decide +kernel
theorem dX11_anyTown_32 : decode cX11_anyTown 32 = .ok (.getfield 19, 3) := by decide +kernel
theorem dX11_anyTown_35 : decode cX11_anyTown 35 = .ok (.getfield 122, 3) := by decide +kernel
theorem dX11_anyTown_38 : decode cX11_anyTown 38 = .ok (.getfield 144, 3) := by decide +kernel
theorem dX11_anyTown_41 : decode cX11_anyTown 41 = .ok (.iload_n 3, 1) := by decide +kernel
theorem dX11_anyTown_42 : decode cX11_anyTown 42 = .ok (.iaload, 1) := by decide +kernel
theorem dX11_anyTown_43 : decode cX11_anyTown 43 = .ok (.iload_n 1, 1) := by decide +kernel
theorem dX11_anyTown_44 : decode cX11_anyTown 44 = .ok (.iload_n 2, 1) := by decide +kernel
theorem dX11_anyTown_45 : decode cX11_anyTown 45 = .ok (.invokestatic 111, 3) := by decide +kernel
theorem dX11_anyTown_48 : decode cX11_anyTown 48 = .ok (.ifCond .eq 5, 3) := by decide +kernel
theorem dX11_anyTown_51 : decode cX11_anyTown 51 = .ok (.iconst 1, 1) := by decide +kernel
theorem dX11_anyTown_52 : decode cX11_anyTown 52 = .ok (.ireturn, 1) := by decide +kernel
theorem dX11_anyTown_53 : decode cX11_anyTown 53 = .ok (.iinc 3 1, 3) := by decide +kernel
theorem dX11_anyTown_56 : decode cX11_anyTown 56 = .ok (.goto (-54), 3) := by decide +kernel
theorem dX11_anyTown_59 : decode cX11_anyTown 59 = .ok (.iconst 0, 1) := by decide +kernel
theorem dX11_anyTown_60 : decode cX11_anyTown 60 = .ok (.ireturn, 1) := by decide +kernel
theorem dX11_lackAt_0 : decode cX11_lackAt 0 = .ok (.iconst 0, 1) := by decide +kernel
theorem dX11_lackAt_1 : decode cX11_lackAt 1 = .ok (.istore 4, 2) := by decide +kernel
theorem dX11_lackAt_3 : decode cX11_lackAt 3 = .ok (.iconst 0, 1) := by decide +kernel
theorem dX11_lackAt_4 : decode cX11_lackAt 4 = .ok (.istore 5, 2) := by decide +kernel
theorem dX11_lackAt_6 : decode cX11_lackAt 6 = .ok (.iload 5, 2) := by decide +kernel
theorem dX11_lackAt_8 : decode cX11_lackAt 8 = .ok (.aload_n 0, 1) := by decide +kernel
theorem dX11_lackAt_9 : decode cX11_lackAt 9 = .ok (.getfield 19, 3) := by decide +kernel
theorem dX11_lackAt_12 : decode cX11_lackAt 12 = .ok (.getfield 122, 3) := by decide +kernel
theorem dX11_lackAt_15 : decode cX11_lackAt 15 = .ok (.getfield 264, 3) := by decide +kernel
theorem dX11_lackAt_18 : decode cX11_lackAt 18 = .ok (.if_icmp .ge 87, 3) := by decide +kernel
theorem dX11_lackAt_21 : decode cX11_lackAt 21 = .ok (.aload_n 0, 1) := by decide +kernel
theorem dX11_lackAt_22 : decode cX11_lackAt 22 = .ok (.getfield 19, 3) := by decide +kernel
theorem dX11_lackAt_25 : decode cX11_lackAt 25 = .ok (.getfield 147, 3) := by decide +kernel
theorem dX11_lackAt_28 : decode cX11_lackAt 28 = .ok (.getfield 162, 3) := by decide +kernel
theorem dX11_lackAt_31 : decode cX11_lackAt 31 = .ok (.iload 5, 2) := by decide +kernel
theorem dX11_lackAt_33 : decode cX11_lackAt 33 = .ok (.baload, 1) := by decide +kernel
theorem dX11_lackAt_34 : decode cX11_lackAt 34 = .ok (.ifCond .ne 65, 3) := by decide +kernel
theorem dX11_lackAt_37 : decode cX11_lackAt 37 = .ok (.aload_n 0, 1) := by decide +kernel
theorem dX11_lackAt_38 : decode cX11_lackAt 38 = .ok (.getfield 19, 3) := by decide +kernel
theorem dX11_lackAt_41 : decode cX11_lackAt 41 = .ok (.getfield 122, 3) := by decide +kernel
theorem dX11_lackAt_44 : decode cX11_lackAt 44 = .ok (.getfield 144, 3) := by decide +kernel
theorem dX11_lackAt_47 : decode cX11_lackAt 47 = .ok (.iload 5, 2) := by decide +kernel
theorem dX11_lackAt_49 : decode cX11_lackAt 49 = .ok (.iaload, 1) := by decide +kernel
theorem dX11_lackAt_50 : decode cX11_lackAt 50 = .ok (.iload_n 2, 1) := by decide +kernel
theorem dX11_lackAt_51 : decode cX11_lackAt 51 = .ok (.iload_n 3, 1) := by decide +kernel
theorem dX11_lackAt_52 : decode cX11_lackAt 52 = .ok (.invokestatic 111, 3) := by decide +kernel
theorem dX11_lackAt_55 : decode cX11_lackAt 55 = .ok (.ifCond .ne 6, 3) := by decide +kernel
theorem dX11_lackAt_58 : decode cX11_lackAt 58 = .ok (.goto 41, 3) := by decide +kernel
theorem dX11_lackAt_61 : decode cX11_lackAt 61 = .ok (.iload 4, 2) := by decide +kernel
theorem dX11_lackAt_63 : decode cX11_lackAt 63 = .ok (.iconst 0, 1) := by decide +kernel
theorem dX11_lackAt_64 : decode cX11_lackAt 64 = .ok (.aload_n 0, 1) := by decide +kernel
theorem dX11_lackAt_65 : decode cX11_lackAt 65 = .ok (.getfield 19, 3) := by decide +kernel
theorem dX11_lackAt_68 : decode cX11_lackAt 68 = .ok (.getfield 122, 3) := by decide +kernel
theorem dX11_lackAt_71 : decode cX11_lackAt 71 = .ok (.getfield 159, 3) := by decide +kernel
theorem dX11_lackAt_74 : decode cX11_lackAt 74 = .ok (.iload 5, 2) := by decide +kernel
theorem dX11_lackAt_76 : decode cX11_lackAt 76 = .ok (.iaload, 1) := by decide +kernel
theorem dX11_lackAt_77 : decode cX11_lackAt 77 = .ok (.iload_n 1, 1) := by decide +kernel
theorem dX11_lackAt_78 : decode cX11_lackAt 78 = .ok (.isub, 1) := by decide +kernel
theorem dX11_lackAt_79 : decode cX11_lackAt 79 = .ok (.invokestatic 304, 3) := by decide +kernel
theorem dX11_lackAt_82 : decode cX11_lackAt 82 = .ok (.aload_n 0, 1) := by decide +kernel
theorem dX11_lackAt_83 : decode cX11_lackAt 83 = .ok (.getfield 19, 3) := by decide +kernel
theorem dX11_lackAt_86 : decode cX11_lackAt 86 = .ok (.getfield 122, 3) := by decide +kernel
theorem dX11_lackAt_89 : decode cX11_lackAt 89 = .ok (.getfield 156, 3) := by decide +kernel
theorem dX11_lackAt_92 : decode cX11_lackAt 92 = .ok (.iload 5, 2) := by decide +kernel
theorem dX11_lackAt_94 : decode cX11_lackAt 94 = .ok (.iaload, 1) := by decide +kernel
theorem dX11_lackAt_95 : decode cX11_lackAt 95 = .ok (.isub, 1) := by decide +kernel
theorem dX11_lackAt_96 : decode cX11_lackAt 96 = .ok (.iadd, 1) := by decide +kernel
theorem dX11_lackAt_97 : decode cX11_lackAt 97 = .ok (.istore 4, 2) := by decide +kernel
theorem dX11_lackAt_99 : decode cX11_lackAt 99 = .ok (.iinc 5 1, 3) := by decide +kernel
theorem dX11_lackAt_102 : decode cX11_lackAt 102 = .ok (.goto (-96), 3) := by decide +kernel
theorem dX11_lackAt_105 : decode cX11_lackAt 105 = .ok (.iload 4, 2) := by decide +kernel
theorem dX11_lackAt_107 : decode cX11_lackAt 107 = .ok (.ireturn, 1) := by decide +kernel
theorem dX11_spreadOdds_0 : decode cX11_spreadOdds 0 = .ok (.iconst 0, 1) := by decide +kernel
theorem dX11_spreadOdds_1 : decode cX11_spreadOdds 1 = .ok (.istore 4, 2) := by decide +kernel
theorem dX11_spreadOdds_3 : decode cX11_spreadOdds 3 = .ok (.iload 4, 2) := by decide +kernel
theorem dX11_spreadOdds_5 : decode cX11_spreadOdds 5 = .ok (.bipush 9, 2) := by decide +kernel
theorem dX11_spreadOdds_7 : decode cX11_spreadOdds 7 = .ok (.if_icmp .gt 27, 3) := by decide +kernel
theorem dX11_spreadOdds_10 : decode cX11_spreadOdds 10 = .ok (.aload_n 0, 1) := by decide +kernel
theorem dX11_spreadOdds_11 : decode cX11_spreadOdds 11 = .ok (.getfield 77, 3) := by decide +kernel
theorem dX11_spreadOdds_14 : decode cX11_spreadOdds 14 = .ok (.iload 4, 2) := by decide +kernel
theorem dX11_spreadOdds_16 : decode cX11_spreadOdds 16 = .ok (.iload 4, 2) := by decide +kernel
theorem dX11_spreadOdds_18 : decode cX11_spreadOdds 18 = .ok (.iload_n 1, 1) := by decide +kernel
theorem dX11_spreadOdds_19 : decode cX11_spreadOdds 19 = .ok (.if_icmp .ne 7, 3) := by decide +kernel
theorem dX11_spreadOdds_22 : decode cX11_spreadOdds 22 = .ok (.lconst 1, 1) := by decide +kernel
theorem dX11_spreadOdds_23 : decode cX11_spreadOdds 23 = .ok (.goto 4, 3) := by decide +kernel
theorem dX11_spreadOdds_26 : decode cX11_spreadOdds 26 = .ok (.lconst 0, 1) := by decide +kernel
theorem dX11_spreadOdds_27 : decode cX11_spreadOdds 27 = .ok (.lastore, 1) := by decide +kernel
theorem dX11_spreadOdds_28 : decode cX11_spreadOdds 28 = .ok (.iinc 4 1, 3) := by decide +kernel
theorem dX11_spreadOdds_31 : decode cX11_spreadOdds 31 = .ok (.goto (-28), 3) := by decide +kernel
theorem dX11_spreadOdds_34 : decode cX11_spreadOdds 34 = .ok (.iconst 0, 1) := by decide +kernel
theorem dX11_spreadOdds_35 : decode cX11_spreadOdds 35 = .ok (.istore 4, 2) := by decide +kernel
theorem dX11_spreadOdds_37 : decode cX11_spreadOdds 37 = .ok (.iload 4, 2) := by decide +kernel
theorem dX11_spreadOdds_39 : decode cX11_spreadOdds 39 = .ok (.iload_n 2, 1) := by decide +kernel
theorem dX11_spreadOdds_40 : decode cX11_spreadOdds 40 = .ok (.if_icmp .ge 99, 3) := by decide +kernel
theorem dX11_spreadOdds_43 : decode cX11_spreadOdds 43 = .ok (.aload_n 0, 1) := by decide +kernel
theorem dX11_spreadOdds_44 : decode cX11_spreadOdds 44 = .ok (.getfield 77, 3) := by decide +kernel
theorem dX11_spreadOdds_47 : decode cX11_spreadOdds 47 = .ok (.iconst 0, 1) := by decide +kernel
theorem dX11_spreadOdds_48 : decode cX11_spreadOdds 48 = .ok (.aload_n 0, 1) := by decide +kernel
theorem dX11_spreadOdds_49 : decode cX11_spreadOdds 49 = .ok (.getfield 77, 3) := by decide +kernel
theorem dX11_spreadOdds_52 : decode cX11_spreadOdds 52 = .ok (.iconst 0, 1) := by decide +kernel
theorem dX11_spreadOdds_53 : decode cX11_spreadOdds 53 = .ok (.laload, 1) := by decide +kernel
theorem dX11_spreadOdds_54 : decode cX11_spreadOdds 54 = .ok (.ldc2_w 345, 3) := by decide +kernel
theorem dX11_spreadOdds_57 : decode cX11_spreadOdds 57 = .ok (.lmul, 1) := by decide +kernel
theorem dX11_spreadOdds_58 : decode cX11_spreadOdds 58 = .ok (.aload_n 0, 1) := by decide +kernel
theorem dX11_spreadOdds_59 : decode cX11_spreadOdds 59 = .ok (.getfield 77, 3) := by decide +kernel
theorem dX11_spreadOdds_62 : decode cX11_spreadOdds 62 = .ok (.iconst 1, 1) := by decide +kernel
theorem dX11_spreadOdds_63 : decode cX11_spreadOdds 63 = .ok (.laload, 1) := by decide +kernel
theorem dX11_spreadOdds_64 : decode cX11_spreadOdds 64 = .ok (.iload_n 3, 1) := by decide +kernel
theorem dX11_spreadOdds_65 : decode cX11_spreadOdds 65 = .ok (.i2l, 1) := by decide +kernel
theorem dX11_spreadOdds_66 : decode cX11_spreadOdds 66 = .ok (.lmul, 1) := by decide +kernel
theorem dX11_spreadOdds_67 : decode cX11_spreadOdds 67 = .ok (.ladd, 1) := by decide +kernel
theorem dX11_spreadOdds_68 : decode cX11_spreadOdds 68 = .ok (.lastore, 1) := by decide +kernel
theorem dX11_spreadOdds_69 : decode cX11_spreadOdds 69 = .ok (.iconst 1, 1) := by decide +kernel
theorem dX11_spreadOdds_70 : decode cX11_spreadOdds 70 = .ok (.istore 5, 2) := by decide +kernel
theorem dX11_spreadOdds_72 : decode cX11_spreadOdds 72 = .ok (.iload 5, 2) := by decide +kernel
theorem dX11_spreadOdds_74 : decode cX11_spreadOdds 74 = .ok (.bipush 9, 2) := by decide +kernel
theorem dX11_spreadOdds_76 : decode cX11_spreadOdds 76 = .ok (.if_icmp .gt 57, 3) := by decide +kernel
theorem dX11_spreadOdds_79 : decode cX11_spreadOdds 79 = .ok (.iload 5, 2) := by decide +kernel
theorem dX11_spreadOdds_81 : decode cX11_spreadOdds 81 = .ok (.bipush 9, 2) := by decide +kernel
theorem dX11_spreadOdds_83 : decode cX11_spreadOdds 83 = .ok (.if_icmp .ge 18, 3) := by decide +kernel
theorem dX11_spreadOdds_86 : decode cX11_spreadOdds 86 = .ok (.aload_n 0, 1) := by decide +kernel
theorem dX11_spreadOdds_87 : decode cX11_spreadOdds 87 = .ok (.getfield 77, 3) := by decide +kernel
theorem dX11_spreadOdds_90 : decode cX11_spreadOdds 90 = .ok (.iload 5, 2) := by decide +kernel
theorem dX11_spreadOdds_92 : decode cX11_spreadOdds 92 = .ok (.iconst 1, 1) := by decide +kernel
theorem dX11_spreadOdds_93 : decode cX11_spreadOdds 93 = .ok (.iadd, 1) := by decide +kernel
theorem dX11_spreadOdds_94 : decode cX11_spreadOdds 94 = .ok (.laload, 1) := by decide +kernel
theorem dX11_spreadOdds_95 : decode cX11_spreadOdds 95 = .ok (.iload_n 3, 1) := by decide +kernel
theorem dX11_spreadOdds_96 : decode cX11_spreadOdds 96 = .ok (.i2l, 1) := by decide +kernel
theorem dX11_spreadOdds_97 : decode cX11_spreadOdds 97 = .ok (.lmul, 1) := by decide +kernel
theorem dX11_spreadOdds_98 : decode cX11_spreadOdds 98 = .ok (.goto 4, 3) := by decide +kernel
theorem dX11_spreadOdds_101 : decode cX11_spreadOdds 101 = .ok (.lconst 0, 1) := by decide +kernel
theorem dX11_spreadOdds_102 : decode cX11_spreadOdds 102 = .ok (.lstore 6, 2) := by decide +kernel
theorem dX11_spreadOdds_104 : decode cX11_spreadOdds 104 = .ok (.aload_n 0, 1) := by decide +kernel
theorem dX11_spreadOdds_105 : decode cX11_spreadOdds 105 = .ok (.getfield 77, 3) := by decide +kernel
theorem dX11_spreadOdds_108 : decode cX11_spreadOdds 108 = .ok (.iload 5, 2) := by decide +kernel
theorem dX11_spreadOdds_110 : decode cX11_spreadOdds 110 = .ok (.aload_n 0, 1) := by decide +kernel
theorem dX11_spreadOdds_111 : decode cX11_spreadOdds 111 = .ok (.getfield 77, 3) := by decide +kernel
theorem dX11_spreadOdds_114 : decode cX11_spreadOdds 114 = .ok (.iload 5, 2) := by decide +kernel
theorem dX11_spreadOdds_116 : decode cX11_spreadOdds 116 = .ok (.laload, 1) := by decide +kernel
theorem dX11_spreadOdds_117 : decode cX11_spreadOdds 117 = .ok (.bipush 10, 2) := by decide +kernel
theorem dX11_spreadOdds_119 : decode cX11_spreadOdds 119 = .ok (.iload_n 3, 1) := by decide +kernel
theorem dX11_spreadOdds_120 : decode cX11_spreadOdds 120 = .ok (.isub, 1) := by decide +kernel
theorem dX11_spreadOdds_121 : decode cX11_spreadOdds 121 = .ok (.i2l, 1) := by decide +kernel
theorem dX11_spreadOdds_122 : decode cX11_spreadOdds 122 = .ok (.lmul, 1) := by decide +kernel
theorem dX11_spreadOdds_123 : decode cX11_spreadOdds 123 = .ok (.lload 6, 2) := by decide +kernel
theorem dX11_spreadOdds_125 : decode cX11_spreadOdds 125 = .ok (.ladd, 1) := by decide +kernel
theorem dX11_spreadOdds_126 : decode cX11_spreadOdds 126 = .ok (.lastore, 1) := by decide +kernel
theorem dX11_spreadOdds_127 : decode cX11_spreadOdds 127 = .ok (.iinc 5 1, 3) := by decide +kernel
theorem dX11_spreadOdds_130 : decode cX11_spreadOdds 130 = .ok (.goto (-58), 3) := by decide +kernel
theorem dX11_spreadOdds_133 : decode cX11_spreadOdds 133 = .ok (.iinc 4 1, 3) := by decide +kernel
theorem dX11_spreadOdds_136 : decode cX11_spreadOdds 136 = .ok (.goto (-99), 3) := by decide +kernel
theorem dX11_spreadOdds_139 : decode cX11_spreadOdds 139 = .ok (.return_, 1) := by decide +kernel
theorem dX11_commonDivisor_0 : decode cX11_commonDivisor 0 = .ok (.iconst 0, 1) := by decide +kernel
theorem dX11_commonDivisor_1 : decode cX11_commonDivisor 1 = .ok (.istore 4, 2) := by decide +kernel
theorem dX11_commonDivisor_3 : decode cX11_commonDivisor 3 = .ok (.lload_n 2, 1) := by decide +kernel
theorem dX11_commonDivisor_4 : decode cX11_commonDivisor 4 = .ok (.lconst 0, 1) := by decide +kernel
theorem dX11_commonDivisor_5 : decode cX11_commonDivisor 5 = .ok (.lcmp, 1) := by decide +kernel
theorem dX11_commonDivisor_6 : decode cX11_commonDivisor 6 = .ok (.ifCond .eq 27, 3) := by decide +kernel
theorem dX11_commonDivisor_9 : decode cX11_commonDivisor 9 = .ok (.iload 4, 2) := by decide +kernel
theorem dX11_commonDivisor_11 : decode cX11_commonDivisor 11 = .ok (.sipush 1000, 3) := by decide +kernel
theorem dX11_commonDivisor_14 : decode cX11_commonDivisor 14 = .ok (.if_icmp .ge 19, 3) := by decide +kernel
theorem dX11_commonDivisor_17 : decode cX11_commonDivisor 17 = .ok (.lload_n 0, 1) := by decide +kernel
theorem dX11_commonDivisor_18 : decode cX11_commonDivisor 18 = .ok (.lload_n 2, 1) := by decide +kernel
theorem dX11_commonDivisor_19 : decode cX11_commonDivisor 19 = .ok (.lrem, 1) := by decide +kernel
theorem dX11_commonDivisor_20 : decode cX11_commonDivisor 20 = .ok (.lstore 5, 2) := by decide +kernel
theorem dX11_commonDivisor_22 : decode cX11_commonDivisor 22 = .ok (.lload_n 2, 1) := by decide +kernel
theorem dX11_commonDivisor_23 : decode cX11_commonDivisor 23 = .ok (.lstore_n 0, 1) := by decide +kernel
theorem dX11_commonDivisor_24 : decode cX11_commonDivisor 24 = .ok (.lload 5, 2) := by decide +kernel
theorem dX11_commonDivisor_26 : decode cX11_commonDivisor 26 = .ok (.lstore_n 2, 1) := by decide +kernel
theorem dX11_commonDivisor_27 : decode cX11_commonDivisor 27 = .ok (.iinc 4 1, 3) := by decide +kernel
theorem dX11_commonDivisor_30 : decode cX11_commonDivisor 30 = .ok (.goto (-27), 3) := by decide +kernel
theorem dX11_commonDivisor_33 : decode cX11_commonDivisor 33 = .ok (.lload_n 0, 1) := by decide +kernel
theorem dX11_commonDivisor_34 : decode cX11_commonDivisor 34 = .ok (.lreturn, 1) := by decide +kernel
theorem dX11_putDrawn_0 : decode cX11_putDrawn 0 = .ok (.ldc2_w 347, 3) := by decide +kernel
theorem dX11_putDrawn_3 : decode cX11_putDrawn 3 = .ok (.iload_n 1, 1) := by decide +kernel
theorem dX11_putDrawn_4 : decode cX11_putDrawn 4 = .ok (.i2l, 1) := by decide +kernel
theorem dX11_putDrawn_5 : decode cX11_putDrawn 5 = .ok (.lmul, 1) := by decide +kernel
theorem dX11_putDrawn_6 : decode cX11_putDrawn 6 = .ok (.ldc2_w 349, 3) := by decide +kernel
theorem dX11_putDrawn_9 : decode cX11_putDrawn 9 = .ok (.iload_n 2, 1) := by decide +kernel
theorem dX11_putDrawn_10 : decode cX11_putDrawn 10 = .ok (.i2l, 1) := by decide +kernel
theorem dX11_putDrawn_11 : decode cX11_putDrawn 11 = .ok (.lmul, 1) := by decide +kernel
theorem dX11_putDrawn_12 : decode cX11_putDrawn 12 = .ok (.ladd, 1) := by decide +kernel
theorem dX11_putDrawn_13 : decode cX11_putDrawn 13 = .ok (.lconst 1, 1) := by decide +kernel
theorem dX11_putDrawn_14 : decode cX11_putDrawn 14 = .ok (.ladd, 1) := by decide +kernel
theorem dX11_putDrawn_15 : decode cX11_putDrawn 15 = .ok (.lstore_n 3, 1) := by decide +kernel
theorem dX11_putDrawn_16 : decode cX11_putDrawn 16 = .ok (.lload_n 3, 1) := by decide +kernel
theorem dX11_putDrawn_17 : decode cX11_putDrawn 17 = .ok (.lload_n 3, 1) := by decide +kernel
theorem dX11_putDrawn_18 : decode cX11_putDrawn 18 = .ok (.lmul, 1) := by decide +kernel
theorem dX11_putDrawn_19 : decode cX11_putDrawn 19 = .ok (.ldc2_w 351, 3) := by decide +kernel
theorem dX11_putDrawn_22 : decode cX11_putDrawn 22 = .ok (.lrem, 1) := by decide +kernel
theorem dX11_putDrawn_23 : decode cX11_putDrawn 23 = .ok (.l2i, 1) := by decide +kernel
theorem dX11_putDrawn_24 : decode cX11_putDrawn 24 = .ok (.istore 5, 2) := by decide +kernel
theorem dX11_putDrawn_26 : decode cX11_putDrawn 26 = .ok (.aload_n 0, 1) := by decide +kernel
theorem dX11_putDrawn_27 : decode cX11_putDrawn 27 = .ok (.getfield 19, 3) := by decide +kernel
theorem dX11_putDrawn_30 : decode cX11_putDrawn 30 = .ok (.getfield 122, 3) := by decide +kernel
theorem dX11_putDrawn_33 : decode cX11_putDrawn 33 = .ok (.getfield 125, 3) := by decide +kernel
theorem dX11_putDrawn_36 : decode cX11_putDrawn 36 = .ok (.iconst 1, 1) := by decide +kernel
theorem dX11_putDrawn_37 : decode cX11_putDrawn 37 = .ok (.if_icmp .ge 4, 3) := by decide +kernel
theorem dX11_putDrawn_40 : decode cX11_putDrawn 40 = .ok (.return_, 1) := by decide +kernel
theorem dX11_putDrawn_41 : decode cX11_putDrawn 41 = .ok (.aload_n 0, 1) := by decide +kernel
theorem dX11_putDrawn_42 : decode cX11_putDrawn 42 = .ok (.getfield 40, 3) := by decide +kernel
theorem dX11_putDrawn_45 : decode cX11_putDrawn 45 = .ok (.iload 5, 2) := by decide +kernel
theorem dX11_putDrawn_47 : decode cX11_putDrawn 47 = .ok (.aload_n 0, 1) := by decide +kernel
theorem dX11_putDrawn_48 : decode cX11_putDrawn 48 = .ok (.getfield 19, 3) := by decide +kernel
theorem dX11_putDrawn_51 : decode cX11_putDrawn 51 = .ok (.getfield 122, 3) := by decide +kernel
theorem dX11_putDrawn_54 : decode cX11_putDrawn 54 = .ok (.getfield 125, 3) := by decide +kernel
theorem dX11_putDrawn_57 : decode cX11_putDrawn 57 = .ok (.irem, 1) := by decide +kernel
theorem dX11_putDrawn_58 : decode cX11_putDrawn 58 = .ok (.aload_n 0, 1) := by decide +kernel
theorem dX11_putDrawn_59 : decode cX11_putDrawn 59 = .ok (.getfield 19, 3) := by decide +kernel
theorem dX11_putDrawn_62 : decode cX11_putDrawn 62 = .ok (.getfield 122, 3) := by decide +kernel
theorem dX11_putDrawn_65 : decode cX11_putDrawn 65 = .ok (.iload 5, 2) := by decide +kernel
theorem dX11_putDrawn_67 : decode cX11_putDrawn 67 = .ok (.bipush 8, 2) := by decide +kernel
theorem dX11_putDrawn_69 : decode cX11_putDrawn 69 = .ok (.idiv, 1) := by decide +kernel
theorem dX11_putDrawn_70 : decode cX11_putDrawn 70 = .ok (.invokevirtual 353, 3) := by decide +kernel
theorem dX11_putDrawn_73 : decode cX11_putDrawn 73 = .ok (.iload 5, 2) := by decide +kernel
theorem dX11_putDrawn_75 : decode cX11_putDrawn 75 = .ok (.sipush 256, 3) := by decide +kernel
theorem dX11_putDrawn_78 : decode cX11_putDrawn 78 = .ok (.idiv, 1) := by decide +kernel
theorem dX11_putDrawn_79 : decode cX11_putDrawn 79 = .ok (.bipush 10, 2) := by decide +kernel
theorem dX11_putDrawn_81 : decode cX11_putDrawn 81 = .ok (.irem, 1) := by decide +kernel
theorem dX11_putDrawn_82 : decode cX11_putDrawn 82 = .ok (.invokevirtual 294, 3) := by decide +kernel
theorem dX11_putDrawn_85 : decode cX11_putDrawn 85 = .ok (.return_, 1) := by decide +kernel
theorem dJ9_floorMod_7cf53_0 : decode cJ9_floorMod_7cf53 0 = .ok (.iload_n 0, 1) := by decide +kernel
theorem dJ9_floorMod_7cf53_1 : decode cJ9_floorMod_7cf53 1 = .ok (.iload_n 1, 1) := by decide +kernel
theorem dJ9_floorMod_7cf53_2 : decode cJ9_floorMod_7cf53 2 = .ok (.irem, 1) := by decide +kernel
theorem dJ9_floorMod_7cf53_3 : decode cJ9_floorMod_7cf53 3 = .ok (.istore_n 2, 1) := by decide +kernel
theorem dJ9_floorMod_7cf53_4 : decode cJ9_floorMod_7cf53 4 = .ok (.iload_n 0, 1) := by decide +kernel
theorem dJ9_floorMod_7cf53_5 : decode cJ9_floorMod_7cf53 5 = .ok (.iload_n 1, 1) := by decide +kernel
theorem dJ9_floorMod_7cf53_6 : decode cJ9_floorMod_7cf53 6 = .ok (.ixor, 1) := by decide +kernel
theorem dJ9_floorMod_7cf53_7 : decode cJ9_floorMod_7cf53 7 = .ok (.ifCond .ge 11, 3) := by decide +kernel
theorem dJ9_floorMod_7cf53_10 : decode cJ9_floorMod_7cf53 10 = .ok (.iload_n 2, 1) := by decide +kernel
theorem dJ9_floorMod_7cf53_11 : decode cJ9_floorMod_7cf53 11 = .ok (.ifCond .eq 7, 3) := by decide +kernel
theorem dJ9_floorMod_7cf53_14 : decode cJ9_floorMod_7cf53 14 = .ok (.iload_n 2, 1) := by decide +kernel
theorem dJ9_floorMod_7cf53_15 : decode cJ9_floorMod_7cf53 15 = .ok (.iload_n 1, 1) := by decide +kernel
theorem dJ9_floorMod_7cf53_16 : decode cJ9_floorMod_7cf53 16 = .ok (.iadd, 1) := by decide +kernel
theorem dJ9_floorMod_7cf53_17 : decode cJ9_floorMod_7cf53 17 = .ok (.ireturn, 1) := by decide +kernel
theorem dJ9_floorMod_7cf53_18 : decode cJ9_floorMod_7cf53 18 = .ok (.iload_n 2, 1) := by decide +kernel
theorem dJ9_floorMod_7cf53_19 : decode cJ9_floorMod_7cf53 19 = .ok (.ireturn, 1) := by decide +kernel
theorem dJ9_max_7cf53_0 : decode cJ9_max_7cf53 0 = .ok (.iload_n 0, 1) := by decide +kernel
theorem dJ9_max_7cf53_1 : decode cJ9_max_7cf53 1 = .ok (.iload_n 1, 1) := by decide +kernel
theorem dJ9_max_7cf53_2 : decode cJ9_max_7cf53 2 = .ok (.if_icmp .lt 7, 3) := by decide +kernel
theorem dJ9_max_7cf53_5 : decode cJ9_max_7cf53 5 = .ok (.iload_n 0, 1) := by decide +kernel
theorem dJ9_max_7cf53_6 : decode cJ9_max_7cf53 6 = .ok (.goto 4, 3) := by decide +kernel
theorem dJ9_max_7cf53_9 : decode cJ9_max_7cf53 9 = .ok (.iload_n 1, 1) := by decide +kernel
theorem dJ9_max_7cf53_10 : decode cJ9_max_7cf53 10 = .ok (.ireturn, 1) := by decide +kernel
theorem dJ0_length_8abf5_0 : decode cJ0_length_8abf5 0 = .ok (.aload_n 0, 1) := by decide +kernel
theorem dJ0_length_8abf5_1 : decode cJ0_length_8abf5 1 = .ok (.getfield 9, 3) := by decide +kernel
theorem dJ0_length_8abf5_4 : decode cJ0_length_8abf5 4 = .ok (.arraylength, 1) := by decide +kernel
theorem dJ0_length_8abf5_5 : decode cJ0_length_8abf5 5 = .ok (.aload_n 0, 1) := by decide +kernel
theorem dJ0_length_8abf5_6 : decode cJ0_length_8abf5 6 = .ok (.invokevirtual 335, 3) := by decide +kernel
theorem dJ0_length_8abf5_9 : decode cJ0_length_8abf5 9 = .ok (.ishr, 1) := by decide +kernel
theorem dJ0_length_8abf5_10 : decode cJ0_length_8abf5 10 = .ok (.ireturn, 1) := by decide +kernel
theorem dJ0_charAt_5068e_0 : decode cJ0_charAt_5068e 0 = .ok (.aload_n 0, 1) := by decide +kernel
theorem dJ0_charAt_5068e_1 : decode cJ0_charAt_5068e 1 = .ok (.invokevirtual 492, 3) := by decide +kernel
theorem dJ0_charAt_5068e_4 : decode cJ0_charAt_5068e 4 = .ok (.ifCond .eq 12, 3) := by decide +kernel
theorem dJ0_charAt_5068e_7 : decode cJ0_charAt_5068e 7 = .ok (.aload_n 0, 1) := by decide +kernel
theorem dJ0_charAt_5068e_8 : decode cJ0_charAt_5068e 8 = .ok (.getfield 9, 3) := by decide +kernel
theorem dJ0_charAt_5068e_11 : decode cJ0_charAt_5068e 11 = .ok (.iload_n 1, 1) := by decide +kernel
theorem dJ0_charAt_5068e_12 : decode cJ0_charAt_5068e 12 = .ok (.invokestatic 495, 3) := by decide +kernel
theorem dJ0_charAt_5068e_15 : decode cJ0_charAt_5068e 15 = .ok (.ireturn, 1) := by decide +kernel
theorem dJ0_charAt_5068e_16 : decode cJ0_charAt_5068e 16 = .ok (.aload_n 0, 1) := by decide +kernel
theorem dJ0_charAt_5068e_17 : decode cJ0_charAt_5068e 17 = .ok (.getfield 9, 3) := by decide +kernel
theorem dJ0_charAt_5068e_20 : decode cJ0_charAt_5068e 20 = .ok (.iload_n 1, 1) := by decide +kernel
theorem dJ0_charAt_5068e_21 : decode cJ0_charAt_5068e 21 = .ok (.invokestatic 498, 3) := by decide +kernel
theorem dJ0_charAt_5068e_24 : decode cJ0_charAt_5068e 24 = .ok (.ireturn, 1) := by decide +kernel
theorem dJ0_coder_7d493_0 : decode cJ0_coder_7d493 0 = .ok (.getstatic 38, 3) := by decide +kernel
theorem dJ0_coder_7d493_3 : decode cJ0_coder_7d493 3 = .ok (.ifCond .eq 10, 3) := by decide +kernel
theorem dJ0_coder_7d493_6 : decode cJ0_coder_7d493 6 = .ok (.aload_n 0, 1) := by decide +kernel
theorem dJ0_coder_7d493_7 : decode cJ0_coder_7d493 7 = .ok (.getfield 15, 3) := by decide +kernel
theorem dJ0_coder_7d493_10 : decode cJ0_coder_7d493 10 = .ok (.goto 4, 3) := by decide +kernel
theorem dJ0_coder_7d493_13 : decode cJ0_coder_7d493 13 = .ok (.iconst 1, 1) := by decide +kernel
theorem dJ0_coder_7d493_14 : decode cJ0_coder_7d493 14 = .ok (.ireturn, 1) := by decide +kernel
theorem dJ0_isLatin1_aae02_0 : decode cJ0_isLatin1_aae02 0 = .ok (.getstatic 38, 3) := by decide +kernel
theorem dJ0_isLatin1_aae02_3 : decode cJ0_isLatin1_aae02 3 = .ok (.ifCond .eq 14, 3) := by decide +kernel
theorem dJ0_isLatin1_aae02_6 : decode cJ0_isLatin1_aae02 6 = .ok (.aload_n 0, 1) := by decide +kernel
theorem dJ0_isLatin1_aae02_7 : decode cJ0_isLatin1_aae02 7 = .ok (.getfield 15, 3) := by decide +kernel
theorem dJ0_isLatin1_aae02_10 : decode cJ0_isLatin1_aae02 10 = .ok (.ifCond .ne 7, 3) := by decide +kernel
theorem dJ0_isLatin1_aae02_13 : decode cJ0_isLatin1_aae02 13 = .ok (.iconst 1, 1) := by decide +kernel
theorem dJ0_isLatin1_aae02_14 : decode cJ0_isLatin1_aae02 14 = .ok (.goto 4, 3) := by decide +kernel
theorem dJ0_isLatin1_aae02_17 : decode cJ0_isLatin1_aae02 17 = .ok (.iconst 0, 1) := by decide +kernel
theorem dJ0_isLatin1_aae02_18 : decode cJ0_isLatin1_aae02 18 = .ok (.ireturn, 1) := by decide +kernel
theorem dJ0_checkIndex_df160_0 : decode cJ0_checkIndex_df160 0 = .ok (.iload_n 0, 1) := by decide +kernel
theorem dJ0_checkIndex_df160_1 : decode cJ0_checkIndex_df160 1 = .ok (.iload_n 1, 1) := by decide +kernel
theorem dJ0_checkIndex_df160_2 : decode cJ0_checkIndex_df160 2 = .ok (.getstatic 1053, 3) := by decide +kernel
theorem dJ0_checkIndex_df160_5 : decode cJ0_checkIndex_df160 5 = .ok (.invokestatic 1059, 3) := by decide +kernel
theorem dJ0_checkIndex_df160_8 : decode cJ0_checkIndex_df160 8 = .ok (.pop, 1) := by decide +kernel
theorem dJ0_checkIndex_df160_9 : decode cJ0_checkIndex_df160 9 = .ok (.return_, 1) := by decide +kernel
theorem dJ1_charAt_3b067_0 : decode cJ1_charAt_3b067 0 = .ok (.iload_n 1, 1) := by decide +kernel
theorem dJ1_charAt_3b067_1 : decode cJ1_charAt_3b067 1 = .ok (.aload_n 0, 1) := by decide +kernel
theorem dJ1_charAt_3b067_2 : decode cJ1_charAt_3b067 2 = .ok (.arraylength, 1) := by decide +kernel
theorem dJ1_charAt_3b067_3 : decode cJ1_charAt_3b067 3 = .ok (.invokestatic 9, 3) := by decide +kernel
theorem dJ1_charAt_3b067_6 : decode cJ1_charAt_3b067 6 = .ok (.aload_n 0, 1) := by decide +kernel
theorem dJ1_charAt_3b067_7 : decode cJ1_charAt_3b067 7 = .ok (.iload_n 1, 1) := by decide +kernel
theorem dJ1_charAt_3b067_8 : decode cJ1_charAt_3b067 8 = .ok (.baload, 1) := by decide +kernel
theorem dJ1_charAt_3b067_9 : decode cJ1_charAt_3b067 9 = .ok (.sipush 255, 3) := by decide +kernel
theorem dJ1_charAt_3b067_12 : decode cJ1_charAt_3b067 12 = .ok (.iand, 1) := by decide +kernel
theorem dJ1_charAt_3b067_13 : decode cJ1_charAt_3b067 13 = .ok (.i2c, 1) := by decide +kernel
theorem dJ1_charAt_3b067_14 : decode cJ1_charAt_3b067 14 = .ok (.ireturn, 1) := by decide +kernel
theorem dJ2_getChar_3b067_0 : decode cJ2_getChar_3b067 0 = .ok (.getstatic 44, 3) := by decide +kernel
theorem dJ2_getChar_3b067_3 : decode cJ2_getChar_3b067 3 = .ok (.ifCond .ne 25, 3) := by decide +kernel
theorem dJ2_getChar_3b067_6 : decode cJ2_getChar_3b067 6 = .ok (.iload_n 1, 1) := by decide +kernel
theorem dJ2_getChar_3b067_7 : decode cJ2_getChar_3b067 7 = .ok (.ifCond .lt 11, 3) := by decide +kernel
theorem dJ2_getChar_3b067_10 : decode cJ2_getChar_3b067 10 = .ok (.iload_n 1, 1) := by decide +kernel
theorem dJ2_getChar_3b067_11 : decode cJ2_getChar_3b067 11 = .ok (.aload_n 0, 1) := by decide +kernel
theorem dJ2_getChar_3b067_12 : decode cJ2_getChar_3b067 12 = .ok (.invokestatic 48, 3) := by decide +kernel
theorem dJ2_getChar_3b067_15 : decode cJ2_getChar_3b067 15 = .ok (.if_icmp .lt 13, 3) := by decide +kernel
theorem dJ2_getChar_3b067_18 : decode cJ2_getChar_3b067 18 = .ok (.new 52, 3) := by decide +kernel
theorem dJ2_getChar_3b067_21 : decode cJ2_getChar_3b067 21 = .ok (.dup, 1) := by decide +kernel
theorem dJ2_getChar_3b067_22 : decode cJ2_getChar_3b067 22 = .ok (.ldc 54, 2) := by decide +kernel
theorem dJ2_getChar_3b067_24 : decode cJ2_getChar_3b067 24 = .ok (.invokespecial 56, 3) := by decide +kernel
theorem dJ2_getChar_3b067_27 : decode cJ2_getChar_3b067 27 = .ok (.athrow, 1) := by decide +kernel
theorem dJ2_getChar_3b067_28 : decode cJ2_getChar_3b067 28 = .ok (.iload_n 1, 1) := by decide +kernel
theorem dJ2_getChar_3b067_29 : decode cJ2_getChar_3b067 29 = .ok (.iconst 1, 1) := by decide +kernel
theorem dJ2_getChar_3b067_30 : decode cJ2_getChar_3b067 30 = .ok (.ishl, 1) := by decide +kernel
theorem dJ2_getChar_3b067_31 : decode cJ2_getChar_3b067 31 = .ok (.istore_n 1, 1) := by decide +kernel
theorem dJ2_getChar_3b067_32 : decode cJ2_getChar_3b067 32 = .ok (.aload_n 0, 1) := by decide +kernel
theorem dJ2_getChar_3b067_33 : decode cJ2_getChar_3b067 33 = .ok (.iload_n 1, 1) := by decide +kernel
theorem dJ2_getChar_3b067_34 : decode cJ2_getChar_3b067 34 = .ok (.iinc 1 1, 3) := by decide +kernel
theorem dJ2_getChar_3b067_37 : decode cJ2_getChar_3b067 37 = .ok (.baload, 1) := by decide +kernel
theorem dJ2_getChar_3b067_38 : decode cJ2_getChar_3b067 38 = .ok (.sipush 255, 3) := by decide +kernel
theorem dJ2_getChar_3b067_41 : decode cJ2_getChar_3b067 41 = .ok (.iand, 1) := by decide +kernel
theorem dJ2_getChar_3b067_42 : decode cJ2_getChar_3b067 42 = .ok (.getstatic 59, 3) := by decide +kernel
theorem dJ2_getChar_3b067_45 : decode cJ2_getChar_3b067 45 = .ok (.ishl, 1) := by decide +kernel
theorem dJ2_getChar_3b067_46 : decode cJ2_getChar_3b067 46 = .ok (.aload_n 0, 1) := by decide +kernel
theorem dJ2_getChar_3b067_47 : decode cJ2_getChar_3b067 47 = .ok (.iload_n 1, 1) := by decide +kernel
theorem dJ2_getChar_3b067_48 : decode cJ2_getChar_3b067 48 = .ok (.baload, 1) := by decide +kernel
theorem dJ2_getChar_3b067_49 : decode cJ2_getChar_3b067 49 = .ok (.sipush 255, 3) := by decide +kernel
theorem dJ2_getChar_3b067_52 : decode cJ2_getChar_3b067 52 = .ok (.iand, 1) := by decide +kernel
theorem dJ2_getChar_3b067_53 : decode cJ2_getChar_3b067 53 = .ok (.getstatic 63, 3) := by decide +kernel
theorem dJ2_getChar_3b067_56 : decode cJ2_getChar_3b067 56 = .ok (.ishl, 1) := by decide +kernel
theorem dJ2_getChar_3b067_57 : decode cJ2_getChar_3b067 57 = .ok (.ior, 1) := by decide +kernel
theorem dJ2_getChar_3b067_58 : decode cJ2_getChar_3b067 58 = .ok (.i2c, 1) := by decide +kernel
theorem dJ2_getChar_3b067_59 : decode cJ2_getChar_3b067 59 = .ok (.ireturn, 1) := by decide +kernel
theorem dJ2_length_9d52b_0 : decode cJ2_length_9d52b 0 = .ok (.aload_n 0, 1) := by decide +kernel
theorem dJ2_length_9d52b_1 : decode cJ2_length_9d52b 1 = .ok (.arraylength, 1) := by decide +kernel
theorem dJ2_length_9d52b_2 : decode cJ2_length_9d52b 2 = .ok (.iconst 1, 1) := by decide +kernel
theorem dJ2_length_9d52b_3 : decode cJ2_length_9d52b 3 = .ok (.ishr, 1) := by decide +kernel
theorem dJ2_length_9d52b_4 : decode cJ2_length_9d52b 4 = .ok (.ireturn, 1) := by decide +kernel
theorem dJ2_charAt_3b067_0 : decode cJ2_charAt_3b067 0 = .ok (.iload_n 1, 1) := by decide +kernel
theorem dJ2_charAt_3b067_1 : decode cJ2_charAt_3b067 1 = .ok (.aload_n 0, 1) := by decide +kernel
theorem dJ2_charAt_3b067_2 : decode cJ2_charAt_3b067 2 = .ok (.invokestatic 67, 3) := by decide +kernel
theorem dJ2_charAt_3b067_5 : decode cJ2_charAt_3b067 5 = .ok (.aload_n 0, 1) := by decide +kernel
theorem dJ2_charAt_3b067_6 : decode cJ2_charAt_3b067 6 = .ok (.iload_n 1, 1) := by decide +kernel
theorem dJ2_charAt_3b067_7 : decode cJ2_charAt_3b067 7 = .ok (.invokestatic 71, 3) := by decide +kernel
theorem dJ2_charAt_3b067_10 : decode cJ2_charAt_3b067 10 = .ok (.ireturn, 1) := by decide +kernel
theorem dJ2_checkIndex_2214a_0 : decode cJ2_checkIndex_2214a 0 = .ok (.iload_n 0, 1) := by decide +kernel
theorem dJ2_checkIndex_2214a_1 : decode cJ2_checkIndex_2214a 1 = .ok (.aload_n 1, 1) := by decide +kernel
theorem dJ2_checkIndex_2214a_2 : decode cJ2_checkIndex_2214a 2 = .ok (.invokestatic 48, 3) := by decide +kernel
theorem dJ2_checkIndex_2214a_5 : decode cJ2_checkIndex_2214a 5 = .ok (.invokestatic 414, 3) := by decide +kernel
theorem dJ2_checkIndex_2214a_8 : decode cJ2_checkIndex_2214a 8 = .ok (.return_, 1) := by decide +kernel
theorem dJ3_checkIndex_8e157_0 : decode cJ3_checkIndex_8e157 0 = .ok (.iload_n 0, 1) := by decide +kernel
theorem dJ3_checkIndex_8e157_1 : decode cJ3_checkIndex_8e157 1 = .ok (.ifCond .lt 8, 3) := by decide +kernel
theorem dJ3_checkIndex_8e157_4 : decode cJ3_checkIndex_8e157 4 = .ok (.iload_n 0, 1) := by decide +kernel
theorem dJ3_checkIndex_8e157_5 : decode cJ3_checkIndex_8e157 5 = .ok (.iload_n 1, 1) := by decide +kernel
theorem dJ3_checkIndex_8e157_6 : decode cJ3_checkIndex_8e157 6 = .ok (.if_icmp .lt 10, 3) := by decide +kernel
theorem dJ3_checkIndex_8e157_9 : decode cJ3_checkIndex_8e157 9 = .ok (.aload_n 2, 1) := by decide +kernel
theorem dJ3_checkIndex_8e157_10 : decode cJ3_checkIndex_8e157 10 = .ok (.iload_n 0, 1) := by decide +kernel
theorem dJ3_checkIndex_8e157_11 : decode cJ3_checkIndex_8e157 11 = .ok (.iload_n 1, 1) := by decide +kernel
theorem dJ3_checkIndex_8e157_12 : decode cJ3_checkIndex_8e157 12 = .ok (.invokestatic 95, 3) := by decide +kernel
theorem dJ3_checkIndex_8e157_15 : decode cJ3_checkIndex_8e157 15 = .ok (.athrow, 1) := by decide +kernel
theorem dJ3_checkIndex_8e157_16 : decode cJ3_checkIndex_8e157 16 = .ok (.iload_n 0, 1) := by decide +kernel
theorem dJ3_checkIndex_8e157_17 : decode cJ3_checkIndex_8e157 17 = .ok (.ireturn, 1) := by decide +kernel
end
section
theorem dX12_init_0 : decode cX12_init 0 = .ok (.aload_n 0, 1) := by decide +kernel
theorem dX12_init_1 : decode cX12_init 1 = .ok (.invokespecial 1, 3) := by decide +kernel
theorem dX12_init_4 : decode cX12_init 4 = .ok (.aload_n 0, 1) := by decide +kernel
theorem dX12_init_5 : decode cX12_init 5 = .ok (.sipush 200, 3) := by decide +kernel
theorem dX12_init_8 : decode cX12_init 8 = .ok (.newarray .byte, 2) := by decide +kernel
theorem dX12_init_10 : decode cX12_init 10 = .ok (.putfield 7, 3) := by decide +kernel
theorem dX12_init_13 : decode cX12_init 13 = .ok (.aload_n 0, 1) := by decide +kernel
theorem dX12_init_14 : decode cX12_init 14 = .ok (.bipush 12, 2) := by decide +kernel
theorem dX12_init_16 : decode cX12_init 16 = .ok (.newarray .int, 2) := by decide +kernel
theorem dX12_init_18 : decode cX12_init 18 = .ok (.putfield 13, 3) := by decide +kernel
theorem dX12_init_21 : decode cX12_init 21 = .ok (.aload_n 0, 1) := by decide +kernel
theorem dX12_init_22 : decode cX12_init 22 = .ok (.bipush 48, 2) := by decide +kernel
theorem dX12_init_24 : decode cX12_init 24 = .ok (.newarray .int, 2) := by decide +kernel
theorem dX12_init_26 : decode cX12_init 26 = .ok (.putfield 17, 3) := by decide +kernel
theorem dX12_init_29 : decode cX12_init 29 = .ok (.aload_n 0, 1) := by decide +kernel
theorem dX12_init_30 : decode cX12_init 30 = .ok (.bipush 48, 2) := by decide +kernel
theorem dX12_init_32 : decode cX12_init 32 = .ok (.newarray .int, 2) := by decide +kernel
theorem dX12_init_34 : decode cX12_init 34 = .ok (.putfield 20, 3) := by decide +kernel
theorem dX12_init_37 : decode cX12_init 37 = .ok (.aload_n 0, 1) := by decide +kernel
theorem dX12_init_38 : decode cX12_init 38 = .ok (.bipush 32, 2) := by decide +kernel
theorem dX12_init_40 : decode cX12_init 40 = .ok (.newarray .int, 2) := by decide +kernel
theorem dX12_init_42 : decode cX12_init 42 = .ok (.putfield 23, 3) := by decide +kernel
theorem dX12_init_45 : decode cX12_init 45 = .ok (.aload_n 0, 1) := by decide +kernel
theorem dX12_init_46 : decode cX12_init 46 = .ok (.bipush 30, 2) := by decide +kernel
theorem dX12_init_48 : decode cX12_init 48 = .ok (.newarray .int, 2) := by decide +kernel
theorem dX12_init_50 : decode cX12_init 50 = .ok (.putfield 26, 3) := by decide +kernel
theorem dX12_init_53 : decode cX12_init 53 = .ok (.aload_n 0, 1) := by decide +kernel
theorem dX12_init_54 : decode cX12_init 54 = .ok (.sipush 504, 3) := by decide +kernel
theorem dX12_init_57 : decode cX12_init 57 = .ok (.newarray .int, 2) := by decide +kernel
theorem dX12_init_59 : decode cX12_init 59 = .ok (.putfield 29, 3) := by decide +kernel
theorem dX12_init_62 : decode cX12_init 62 = .ok (.aload_n 0, 1) := by decide +kernel
theorem dX12_init_63 : decode cX12_init 63 = .ok (.bipush 12, 2) := by decide +kernel
theorem dX12_init_65 : decode cX12_init 65 = .ok (.newarray .int, 2) := by decide +kernel
theorem dX12_init_67 : decode cX12_init 67 = .ok (.putfield 32, 3) := by decide +kernel
theorem dX12_init_70 : decode cX12_init 70 = .ok (.aload_n 0, 1) := by decide +kernel
theorem dX12_init_71 : decode cX12_init 71 = .ok (.bipush 24, 2) := by decide +kernel
theorem dX12_init_73 : decode cX12_init 73 = .ok (.newarray .int, 2) := by decide +kernel
theorem dX12_init_75 : decode cX12_init 75 = .ok (.putfield 35, 3) := by decide +kernel
theorem dX12_init_78 : decode cX12_init 78 = .ok (.aload_n 0, 1) := by decide +kernel
theorem dX12_init_79 : decode cX12_init 79 = .ok (.ldc 38, 2) := by decide +kernel
theorem dX12_init_81 : decode cX12_init 81 = .ok (.newarray .int, 2) := by decide +kernel
theorem dX12_init_83 : decode cX12_init 83 = .ok (.putfield 39, 3) := by decide +kernel
theorem dX12_init_86 : decode cX12_init 86 = .ok (.aload_n 0, 1) := by decide +kernel
theorem dX12_init_87 : decode cX12_init 87 = .ok (.bipush 6, 2) := by decide +kernel
theorem dX12_init_89 : decode cX12_init 89 = .ok (.newarray .int, 2) := by decide +kernel
theorem dX12_init_91 : decode cX12_init 91 = .ok (.putfield 42, 3) := by decide +kernel
theorem dX12_init_94 : decode cX12_init 94 = .ok (.aload_n 0, 1) := by decide +kernel
theorem dX12_init_95 : decode cX12_init 95 = .ok (.bipush 11, 2) := by decide +kernel
theorem dX12_init_97 : decode cX12_init 97 = .ok (.newarray .long, 2) := by decide +kernel
theorem dX12_init_99 : decode cX12_init 99 = .ok (.putfield 45, 3) := by decide +kernel
theorem dX12_init_102 : decode cX12_init 102 = .ok (.aload_n 0, 1) := by decide +kernel
theorem dX12_init_103 : decode cX12_init 103 = .ok (.iconst 4, 1) := by decide +kernel
theorem dX12_init_104 : decode cX12_init 104 = .ok (.newarray .int, 2) := by decide +kernel
theorem dX12_init_106 : decode cX12_init 106 = .ok (.putfield 49, 3) := by decide +kernel
theorem dX12_init_109 : decode cX12_init 109 = .ok (.aload_n 0, 1) := by decide +kernel
theorem dX12_init_110 : decode cX12_init 110 = .ok (.invokevirtual 52, 3) := by decide +kernel
theorem dX12_init_113 : decode cX12_init 113 = .ok (.aload_n 0, 1) := by decide +kernel
theorem dX12_init_114 : decode cX12_init 114 = .ok (.getfield 13, 3) := by decide +kernel
theorem dX12_init_117 : decode cX12_init 117 = .ok (.bipush 7, 2) := by decide +kernel
theorem dX12_init_119 : decode cX12_init 119 = .ok (.iconst 3, 1) := by decide +kernel
theorem dX12_init_120 : decode cX12_init 120 = .ok (.iastore, 1) := by decide +kernel
theorem dX12_init_121 : decode cX12_init 121 = .ok (.aload_n 0, 1) := by decide +kernel
theorem dX12_init_122 : decode cX12_init 122 = .ok (.getfield 17, 3) := by decide +kernel
theorem dX12_init_125 : decode cX12_init 125 = .ok (.bipush 24, 2) := by decide +kernel
theorem dX12_init_127 : decode cX12_init 127 = .ok (.iconst 4, 1) := by decide +kernel
theorem dX12_init_128 : decode cX12_init 128 = .ok (.iastore, 1) := by decide +kernel
theorem dX12_init_129 : decode cX12_init 129 = .ok (.aload_n 0, 1) := by decide +kernel
theorem dX12_init_130 : decode cX12_init 130 = .ok (.getfield 17, 3) := by decide +kernel
theorem dX12_init_133 : decode cX12_init 133 = .ok (.bipush 25, 2) := by decide +kernel
theorem dX12_init_135 : decode cX12_init 135 = .ok (.iconst 1, 1) := by decide +kernel
theorem dX12_init_136 : decode cX12_init 136 = .ok (.iastore, 1) := by decide +kernel
theorem dX12_init_137 : decode cX12_init 137 = .ok (.aload_n 0, 1) := by decide +kernel
theorem dX12_init_138 : decode cX12_init 138 = .ok (.getfield 17, 3) := by decide +kernel
theorem dX12_init_141 : decode cX12_init 141 = .ok (.bipush 26, 2) := by decide +kernel
theorem dX12_init_143 : decode cX12_init 143 = .ok (.iconst 2, 1) := by decide +kernel
theorem dX12_init_144 : decode cX12_init 144 = .ok (.iastore, 1) := by decide +kernel
theorem dX12_init_145 : decode cX12_init 145 = .ok (.aload_n 0, 1) := by decide +kernel
theorem dX12_init_146 : decode cX12_init 146 = .ok (.getfield 17, 3) := by decide +kernel
theorem dX12_init_149 : decode cX12_init 149 = .ok (.bipush 27, 2) := by decide +kernel
theorem dX12_init_151 : decode cX12_init 151 = .ok (.iconst 2, 1) := by decide +kernel
theorem dX12_init_152 : decode cX12_init 152 = .ok (.iastore, 1) := by decide +kernel
theorem dX12_init_153 : decode cX12_init 153 = .ok (.aload_n 0, 1) := by decide +kernel
theorem dX12_init_154 : decode cX12_init 154 = .ok (.getfield 17, 3) := by decide +kernel
theorem dX12_init_157 : decode cX12_init 157 = .ok (.bipush 28, 2) := by decide +kernel
theorem dX12_init_159 : decode cX12_init 159 = .ok (.iconst 3, 1) := by decide +kernel
theorem dX12_init_160 : decode cX12_init 160 = .ok (.iastore, 1) := by decide +kernel
theorem dX12_init_161 : decode cX12_init 161 = .ok (.aload_n 0, 1) := by decide +kernel
theorem dX12_init_162 : decode cX12_init 162 = .ok (.getfield 17, 3) := by decide +kernel
theorem dX12_init_165 : decode cX12_init 165 = .ok (.bipush 29, 2) := by decide +kernel
theorem dX12_init_167 : decode cX12_init 167 = .ok (.iconst 1, 1) := by decide +kernel
theorem dX12_init_168 : decode cX12_init 168 = .ok (.iastore, 1) := by decide +kernel
theorem dX12_init_169 : decode cX12_init 169 = .ok (.aload_n 0, 1) := by decide +kernel
theorem dX12_init_170 : decode cX12_init 170 = .ok (.getfield 17, 3) := by decide +kernel
theorem dX12_init_173 : decode cX12_init 173 = .ok (.bipush 30, 2) := by decide +kernel
theorem dX12_init_175 : decode cX12_init 175 = .ok (.iconst 3, 1) := by decide +kernel
theorem dX12_init_176 : decode cX12_init 176 = .ok (.iastore, 1) := by decide +kernel
theorem dX12_init_177 : decode cX12_init 177 = .ok (.aload_n 0, 1) := by decide +kernel
theorem dX12_init_178 : decode cX12_init 178 = .ok (.getfield 17, 3) := by decide +kernel
theorem dX12_init_181 : decode cX12_init 181 = .ok (.bipush 31, 2) := by decide +kernel
theorem dX12_init_183 : decode cX12_init 183 = .ok (.bipush 6, 2) := by decide +kernel
theorem dX12_init_185 : decode cX12_init 185 = .ok (.iastore, 1) := by decide +kernel
theorem dX12_init_186 : decode cX12_init 186 = .ok (.aload_n 0, 1) := by decide +kernel
theorem dX12_init_187 : decode cX12_init 187 = .ok (.getfield 17, 3) := by decide +kernel
theorem dX12_init_190 : decode cX12_init 190 = .ok (.bipush 32, 2) := by decide +kernel
theorem dX12_init_192 : decode cX12_init 192 = .ok (.iconst 1, 1) := by decide +kernel
theorem dX12_init_193 : decode cX12_init 193 = .ok (.iastore, 1) := by decide +kernel
theorem dX12_init_194 : decode cX12_init 194 = .ok (.aload_n 0, 1) := by decide +kernel
theorem dX12_init_195 : decode cX12_init 195 = .ok (.getfield 13, 3) := by decide +kernel
theorem dX12_init_198 : decode cX12_init 198 = .ok (.bipush 8, 2) := by decide +kernel
theorem dX12_init_200 : decode cX12_init 200 = .ok (.iconst 2, 1) := by decide +kernel
theorem dX12_init_201 : decode cX12_init 201 = .ok (.iastore, 1) := by decide +kernel
theorem dX12_init_202 : decode cX12_init 202 = .ok (.aload_n 0, 1) := by decide +kernel
theorem dX12_init_203 : decode cX12_init 203 = .ok (.getfield 20, 3) := by decide +kernel
theorem dX12_init_206 : decode cX12_init 206 = .ok (.bipush 24, 2) := by decide +kernel
theorem dX12_init_208 : decode cX12_init 208 = .ok (.iconst 0, 1) := by decide +kernel
theorem dX12_init_209 : decode cX12_init 209 = .ok (.iastore, 1) := by decide +kernel
theorem dX12_init_210 : decode cX12_init 210 = .ok (.aload_n 0, 1) := by decide +kernel
theorem dX12_init_211 : decode cX12_init 211 = .ok (.getfield 20, 3) := by decide +kernel
theorem dX12_init_214 : decode cX12_init 214 = .ok (.bipush 25, 2) := by decide +kernel
theorem dX12_init_216 : decode cX12_init 216 = .ok (.iconst 1, 1) := by decide +kernel
theorem dX12_init_217 : decode cX12_init 217 = .ok (.iastore, 1) := by decide +kernel
theorem dX12_init_218 : decode cX12_init 218 = .ok (.aload_n 0, 1) := by decide +kernel
theorem dX12_init_219 : decode cX12_init 219 = .ok (.getfield 20, 3) := by decide +kernel
theorem dX12_init_222 : decode cX12_init 222 = .ok (.bipush 26, 2) := by decide +kernel
theorem dX12_init_224 : decode cX12_init 224 = .ok (.iconst 3, 1) := by decide +kernel
theorem dX12_init_225 : decode cX12_init 225 = .ok (.iastore, 1) := by decide +kernel
theorem dX12_init_226 : decode cX12_init 226 = .ok (.aload_n 0, 1) := by decide +kernel
theorem dX12_init_227 : decode cX12_init 227 = .ok (.getfield 20, 3) := by decide +kernel
theorem dX12_init_230 : decode cX12_init 230 = .ok (.bipush 27, 2) := by decide +kernel
theorem dX12_init_232 : decode cX12_init 232 = .ok (.iconst 5, 1) := by decide +kernel
theorem dX12_init_233 : decode cX12_init 233 = .ok (.iastore, 1) := by decide +kernel
theorem dX12_init_234 : decode cX12_init 234 = .ok (.aload_n 0, 1) := by decide +kernel
theorem dX12_init_235 : decode cX12_init 235 = .ok (.getfield 20, 3) := by decide +kernel
theorem dX12_init_238 : decode cX12_init 238 = .ok (.bipush 28, 2) := by decide +kernel
theorem dX12_init_240 : decode cX12_init 240 = .ok (.bipush 6, 2) := by decide +kernel
theorem dX12_init_242 : decode cX12_init 242 = .ok (.iastore, 1) := by decide +kernel
theorem dX12_init_243 : decode cX12_init 243 = .ok (.aload_n 0, 1) := by decide +kernel
theorem dX12_init_244 : decode cX12_init 244 = .ok (.getfield 20, 3) := by decide +kernel
theorem dX12_init_247 : decode cX12_init 247 = .ok (.bipush 29, 2) := by decide +kernel
theorem dX12_init_249 : decode cX12_init 249 = .ok (.iconst 2, 1) := by decide +kernel
theorem dX12_init_250 : decode cX12_init 250 = .ok (.iastore, 1) := by decide +kernel
theorem dX12_init_251 : decode cX12_init 251 = .ok (.aload_n 0, 1) := by decide +kernel
theorem dX12_init_252 : decode cX12_init 252 = .ok (.getfield 20, 3) := by decide +kernel
theorem dX12_init_255 : decode cX12_init 255 = .ok (.bipush 30, 2) := by decide +kernel
theorem dX12_init_257 : decode cX12_init 257 = .ok (.iconst 4, 1) := by decide +kernel
theorem dX12_init_258 : decode cX12_init 258 = .ok (.iastore, 1) := by decide +kernel
theorem dX12_init_259 : decode cX12_init 259 = .ok (.aload_n 0, 1) := by decide +kernel
theorem dX12_init_260 : decode cX12_init 260 = .ok (.getfield 20, 3) := by decide +kernel
theorem dX12_init_263 : decode cX12_init 263 = .ok (.bipush 31, 2) := by decide +kernel
theorem dX12_init_265 : decode cX12_init 265 = .ok (.iconst 2, 1) := by decide +kernel
theorem dX12_init_266 : decode cX12_init 266 = .ok (.iastore, 1) := by decide +kernel
theorem dX12_init_267 : decode cX12_init 267 = .ok (.aload_n 0, 1) := by decide +kernel
theorem dX12_init_268 : decode cX12_init 268 = .ok (.getfield 13, 3) := by decide +kernel
theorem dX12_init_271 : decode cX12_init 271 = .ok (.bipush 10, 2) := by decide +kernel
theorem dX12_init_273 : decode cX12_init 273 = .ok (.iconst 1, 1) := by decide +kernel
theorem dX12_init_274 : decode cX12_init 274 = .ok (.iastore, 1) := by decide +kernel
theorem dX12_init_275 : decode cX12_init 275 = .ok (.aload_n 0, 1) := by decide +kernel
theorem dX12_init_276 : decode cX12_init 276 = .ok (.getfield 26, 3) := by decide +kernel
theorem dX12_init_279 : decode cX12_init 279 = .ok (.bipush 15, 2) := by decide +kernel
theorem dX12_init_281 : decode cX12_init 281 = .ok (.iconst 0, 1) := by decide +kernel
theorem dX12_init_282 : decode cX12_init 282 = .ok (.iastore, 1) := by decide +kernel
theorem dX12_init_283 : decode cX12_init 283 = .ok (.aload_n 0, 1) := by decide +kernel
theorem dX12_init_284 : decode cX12_init 284 = .ok (.getfield 26, 3) := by decide +kernel
theorem dX12_init_287 : decode cX12_init 287 = .ok (.bipush 16, 2) := by decide +kernel
theorem dX12_init_289 : decode cX12_init 289 = .ok (.iconst 3, 1) := by decide +kernel
theorem dX12_init_290 : decode cX12_init 290 = .ok (.iastore, 1) := by decide +kernel
theorem dX12_init_291 : decode cX12_init 291 = .ok (.aload_n 0, 1) := by decide +kernel
theorem dX12_init_292 : decode cX12_init 292 = .ok (.getfield 26, 3) := by decide +kernel
theorem dX12_init_295 : decode cX12_init 295 = .ok (.bipush 17, 2) := by decide +kernel
theorem dX12_init_297 : decode cX12_init 297 = .ok (.iconst 5, 1) := by decide +kernel
theorem dX12_init_298 : decode cX12_init 298 = .ok (.iastore, 1) := by decide +kernel
theorem dX12_init_299 : decode cX12_init 299 = .ok (.aload_n 0, 1) := by decide +kernel
theorem dX12_init_300 : decode cX12_init 300 = .ok (.invokevirtual 55, 3) := by decide +kernel
theorem dX12_init_303 : decode cX12_init 303 = .ok (.return_, 1) := by decide +kernel
theorem dX12_in_0 : decode cX12_in 0 = .ok (.lload_n 0, 1) := by decide +kernel
theorem dX12_in_1 : decode cX12_in 1 = .ok (.lload_n 2, 1) := by decide +kernel
theorem dX12_in_2 : decode cX12_in 2 = .ok (.lcmp, 1) := by decide +kernel
theorem dX12_in_3 : decode cX12_in 3 = .ok (.ifCond .lt 14, 3) := by decide +kernel
theorem dX12_in_6 : decode cX12_in 6 = .ok (.lload_n 0, 1) := by decide +kernel
theorem dX12_in_7 : decode cX12_in 7 = .ok (.lload 4, 2) := by decide +kernel
theorem dX12_in_9 : decode cX12_in 9 = .ok (.lcmp, 1) := by decide +kernel
theorem dX12_in_10 : decode cX12_in 10 = .ok (.ifCond .gt 7, 3) := by decide +kernel
theorem dX12_in_13 : decode cX12_in 13 = .ok (.iconst 1, 1) := by decide +kernel
theorem dX12_in_14 : decode cX12_in 14 = .ok (.goto 4, 3) := by decide +kernel
theorem dX12_in_17 : decode cX12_in 17 = .ok (.iconst 0, 1) := by decide +kernel
theorem dX12_in_18 : decode cX12_in 18 = .ok (.ireturn, 1) := by decide +kernel
theorem dX12_write_0 : decode cX12_write 0 = .ok (.iload_n 1, 1) := by decide +kernel
theorem dX12_write_1 : decode cX12_write 1 = .ok (.i2l, 1) := by decide +kernel
theorem dX12_write_2 : decode cX12_write 2 = .ok (.ldc2_w 58, 3) := by decide +kernel
theorem dX12_write_5 : decode cX12_write 5 = .ok (.ldc2_w 60, 3) := by decide +kernel
theorem dX12_write_8 : decode cX12_write 8 = .ok (.invokestatic 62, 3) := by decide +kernel
theorem dX12_write_11 : decode cX12_write 11 = .ok (.ifCond .ne 5, 3) := by decide +kernel
theorem dX12_write_14 : decode cX12_write 14 = .ok (.iconst (-1), 1) := by decide +kernel
theorem dX12_write_15 : decode cX12_write 15 = .ok (.ireturn, 1) := by decide +kernel
theorem dX12_write_16 : decode cX12_write 16 = .ok (.aload_n 0, 1) := by decide +kernel
theorem dX12_write_17 : decode cX12_write 17 = .ok (.getfield 66, 3) := by decide +kernel
theorem dX12_write_20 : decode cX12_write 20 = .ok (.sipush 200, 3) := by decide +kernel
theorem dX12_write_23 : decode cX12_write 23 = .ok (.if_icmp .ne 6, 3) := by decide +kernel
theorem dX12_write_26 : decode cX12_write 26 = .ok (.bipush (-3), 2) := by decide +kernel
theorem dX12_write_28 : decode cX12_write 28 = .ok (.ireturn, 1) := by decide +kernel
theorem dX12_write_29 : decode cX12_write 29 = .ok (.aload_n 0, 1) := by decide +kernel
theorem dX12_write_30 : decode cX12_write 30 = .ok (.getfield 7, 3) := by decide +kernel
theorem dX12_write_33 : decode cX12_write 33 = .ok (.aload_n 0, 1) := by decide +kernel
theorem dX12_write_34 : decode cX12_write 34 = .ok (.getfield 66, 3) := by decide +kernel
theorem dX12_write_37 : decode cX12_write 37 = .ok (.iload_n 1, 1) := by decide +kernel
theorem dX12_write_38 : decode cX12_write 38 = .ok (.i2b, 1) := by decide +kernel
theorem dX12_write_39 : decode cX12_write 39 = .ok (.bastore, 1) := by decide +kernel
theorem dX12_write_40 : decode cX12_write 40 = .ok (.aload_n 0, 1) := by decide +kernel
theorem dX12_write_41 : decode cX12_write 41 = .ok (.dup, 1) := by decide +kernel
theorem dX12_write_42 : decode cX12_write 42 = .ok (.getfield 66, 3) := by decide +kernel
theorem dX12_write_45 : decode cX12_write 45 = .ok (.iconst 1, 1) := by decide +kernel
theorem dX12_write_46 : decode cX12_write 46 = .ok (.iadd, 1) := by decide +kernel
theorem dX12_write_47 : decode cX12_write 47 = .ok (.putfield 66, 3) := by decide +kernel
theorem dX12_write_50 : decode cX12_write 50 = .ok (.aload_n 0, 1) := by decide +kernel
theorem dX12_write_51 : decode cX12_write 51 = .ok (.getfield 66, 3) := by decide +kernel
theorem dX12_write_54 : decode cX12_write 54 = .ok (.ireturn, 1) := by decide +kernel
theorem dX12_wipe_0 : decode cX12_wipe 0 = .ok (.aload_n 0, 1) := by decide +kernel
theorem dX12_wipe_1 : decode cX12_wipe 1 = .ok (.getfield 66, 3) := by decide +kernel
theorem dX12_wipe_4 : decode cX12_wipe 4 = .ok (.istore_n 1, 1) := by decide +kernel
theorem dX12_wipe_5 : decode cX12_wipe 5 = .ok (.aload_n 0, 1) := by decide +kernel
theorem dX12_wipe_6 : decode cX12_wipe 6 = .ok (.iconst 0, 1) := by decide +kernel
theorem dX12_wipe_7 : decode cX12_wipe 7 = .ok (.putfield 66, 3) := by decide +kernel
theorem dX12_wipe_10 : decode cX12_wipe 10 = .ok (.iload_n 1, 1) := by decide +kernel
theorem dX12_wipe_11 : decode cX12_wipe 11 = .ok (.ireturn, 1) := by decide +kernel
theorem dX12_number_0 : decode cX12_number 0 = .ok (.iconst 0, 1) := by decide +kernel
theorem dX12_number_1 : decode cX12_number 1 = .ok (.istore_n 1, 1) := by decide +kernel
theorem dX12_number_2 : decode cX12_number 2 = .ok (.iconst 0, 1) := by decide +kernel
theorem dX12_number_3 : decode cX12_number 3 = .ok (.istore_n 2, 1) := by decide +kernel
theorem dX12_number_4 : decode cX12_number 4 = .ok (.aload_n 0, 1) := by decide +kernel
theorem dX12_number_5 : decode cX12_number 5 = .ok (.getfield 70, 3) := by decide +kernel
theorem dX12_number_8 : decode cX12_number 8 = .ok (.aload_n 0, 1) := by decide +kernel
theorem dX12_number_9 : decode cX12_number 9 = .ok (.getfield 66, 3) := by decide +kernel
theorem dX12_number_12 : decode cX12_number 12 = .ok (.if_icmp .ge 68, 3) := by decide +kernel
theorem dX12_number_15 : decode cX12_number 15 = .ok (.aload_n 0, 1) := by decide +kernel
theorem dX12_number_16 : decode cX12_number 16 = .ok (.getfield 7, 3) := by decide +kernel
theorem dX12_number_19 : decode cX12_number 19 = .ok (.aload_n 0, 1) := by decide +kernel
theorem dX12_number_20 : decode cX12_number 20 = .ok (.getfield 70, 3) := by decide +kernel
theorem dX12_number_23 : decode cX12_number 23 = .ok (.baload, 1) := by decide +kernel
theorem dX12_number_24 : decode cX12_number 24 = .ok (.i2l, 1) := by decide +kernel
theorem dX12_number_25 : decode cX12_number 25 = .ok (.ldc2_w 73, 3) := by decide +kernel
theorem dX12_number_28 : decode cX12_number 28 = .ok (.ldc2_w 75, 3) := by decide +kernel
theorem dX12_number_31 : decode cX12_number 31 = .ok (.invokestatic 62, 3) := by decide +kernel
theorem dX12_number_34 : decode cX12_number 34 = .ok (.ifCond .eq 46, 3) := by decide +kernel
theorem dX12_number_37 : decode cX12_number 37 = .ok (.iload_n 2, 1) := by decide +kernel
theorem dX12_number_38 : decode cX12_number 38 = .ok (.iconst 2, 1) := by decide +kernel
theorem dX12_number_39 : decode cX12_number 39 = .ok (.if_icmp .ge 23, 3) := by decide +kernel
theorem dX12_number_42 : decode cX12_number 42 = .ok (.bipush 10, 2) := by decide +kernel
theorem dX12_number_44 : decode cX12_number 44 = .ok (.iload_n 1, 1) := by decide +kernel
theorem dX12_number_45 : decode cX12_number 45 = .ok (.imul, 1) := by decide +kernel
theorem dX12_number_46 : decode cX12_number 46 = .ok (.aload_n 0, 1) := by decide +kernel
theorem dX12_number_47 : decode cX12_number 47 = .ok (.getfield 7, 3) := by decide +kernel
theorem dX12_number_50 : decode cX12_number 50 = .ok (.aload_n 0, 1) := by decide +kernel
theorem dX12_number_51 : decode cX12_number 51 = .ok (.getfield 70, 3) := by decide +kernel
theorem dX12_number_54 : decode cX12_number 54 = .ok (.baload, 1) := by decide +kernel
theorem dX12_number_55 : decode cX12_number 55 = .ok (.iadd, 1) := by decide +kernel
theorem dX12_number_56 : decode cX12_number 56 = .ok (.bipush 48, 2) := by decide +kernel
theorem dX12_number_58 : decode cX12_number 58 = .ok (.isub, 1) := by decide +kernel
theorem dX12_number_59 : decode cX12_number 59 = .ok (.goto 4, 3) := by decide +kernel
theorem dX12_number_62 : decode cX12_number 62 = .ok (.iload_n 1, 1) := by decide +kernel
theorem dX12_number_63 : decode cX12_number 63 = .ok (.istore_n 1, 1) := by decide +kernel
theorem dX12_number_64 : decode cX12_number 64 = .ok (.iinc 2 1, 3) := by decide +kernel
theorem dX12_number_67 : decode cX12_number 67 = .ok (.aload_n 0, 1) := by decide +kernel
theorem dX12_number_68 : decode cX12_number 68 = .ok (.dup, 1) := by decide +kernel
theorem dX12_number_69 : decode cX12_number 69 = .ok (.getfield 70, 3) := by decide +kernel
theorem dX12_number_72 : decode cX12_number 72 = .ok (.iconst 1, 1) := by decide +kernel
theorem dX12_number_73 : decode cX12_number 73 = .ok (.iadd, 1) := by decide +kernel
theorem dX12_number_74 : decode cX12_number 74 = .ok (.putfield 70, 3) := by decide +kernel
theorem dX12_number_77 : decode cX12_number 77 = .ok (.goto (-73), 3) := by decide +kernel
theorem dX12_number_80 : decode cX12_number 80 = .ok (.iload_n 2, 1) := by decide +kernel
theorem dX12_number_81 : decode cX12_number 81 = .ok (.i2l, 1) := by decide +kernel
theorem dX12_number_82 : decode cX12_number 82 = .ok (.lconst 1, 1) := by decide +kernel
theorem dX12_number_83 : decode cX12_number 83 = .ok (.ldc2_w 77, 3) := by decide +kernel
theorem dX12_number_86 : decode cX12_number 86 = .ok (.invokestatic 62, 3) := by decide +kernel
theorem dX12_number_89 : decode cX12_number 89 = .ok (.ifCond .eq 7, 3) := by decide +kernel
theorem dX12_number_92 : decode cX12_number 92 = .ok (.iload_n 1, 1) := by decide +kernel
theorem dX12_number_93 : decode cX12_number 93 = .ok (.goto 4, 3) := by decide +kernel
theorem dX12_number_96 : decode cX12_number 96 = .ok (.iconst (-1), 1) := by decide +kernel
theorem dX12_number_97 : decode cX12_number 97 = .ok (.ireturn, 1) := by decide +kernel
theorem dX12_numbers_0 : decode cX12_numbers 0 = .ok (.iload_n 0, 1) := by decide +kernel
theorem dX12_numbers_1 : decode cX12_numbers 1 = .ok (.bipush 116, 2) := by decide +kernel
theorem dX12_numbers_3 : decode cX12_numbers 3 = .ok (.if_icmp .ne 7, 3) := by decide +kernel
theorem dX12_numbers_6 : decode cX12_numbers 6 = .ok (.iconst 4, 1) := by decide +kernel
theorem dX12_numbers_7 : decode cX12_numbers 7 = .ok (.goto 40, 3) := by decide +kernel
theorem dX12_numbers_10 : decode cX12_numbers 10 = .ok (.iload_n 0, 1) := by decide +kernel
theorem dX12_numbers_11 : decode cX12_numbers 11 = .ok (.bipush 108, 2) := by decide +kernel
theorem dX12_numbers_13 : decode cX12_numbers 13 = .ok (.if_icmp .eq 9, 3) := by decide +kernel
theorem dX12_numbers_16 : decode cX12_numbers 16 = .ok (.iload_n 0, 1) := by decide +kernel
theorem dX12_numbers_17 : decode cX12_numbers 17 = .ok (.bipush 103, 2) := by decide +kernel
theorem dX12_numbers_19 : decode cX12_numbers 19 = .ok (.if_icmp .ne 7, 3) := by decide +kernel
theorem dX12_numbers_22 : decode cX12_numbers 22 = .ok (.iconst 3, 1) := by decide +kernel
theorem dX12_numbers_23 : decode cX12_numbers 23 = .ok (.goto 24, 3) := by decide +kernel
theorem dX12_numbers_26 : decode cX12_numbers 26 = .ok (.iload_n 0, 1) := by decide +kernel
theorem dX12_numbers_27 : decode cX12_numbers 27 = .ok (.bipush 109, 2) := by decide +kernel
theorem dX12_numbers_29 : decode cX12_numbers 29 = .ok (.if_icmp .ne 7, 3) := by decide +kernel
theorem dX12_numbers_32 : decode cX12_numbers 32 = .ok (.iconst 2, 1) := by decide +kernel
theorem dX12_numbers_33 : decode cX12_numbers 33 = .ok (.goto 14, 3) := by decide +kernel
theorem dX12_numbers_36 : decode cX12_numbers 36 = .ok (.iload_n 0, 1) := by decide +kernel
theorem dX12_numbers_37 : decode cX12_numbers 37 = .ok (.bipush 110, 2) := by decide +kernel
theorem dX12_numbers_39 : decode cX12_numbers 39 = .ok (.if_icmp .ne 7, 3) := by decide +kernel
theorem dX12_numbers_42 : decode cX12_numbers 42 = .ok (.iconst 1, 1) := by decide +kernel
theorem dX12_numbers_43 : decode cX12_numbers 43 = .ok (.goto 4, 3) := by decide +kernel
theorem dX12_numbers_46 : decode cX12_numbers 46 = .ok (.iconst 0, 1) := by decide +kernel
theorem dX12_numbers_47 : decode cX12_numbers 47 = .ok (.ireturn, 1) := by decide +kernel
theorem dX12_isItem_0 : decode cX12_isItem 0 = .ok (.aload_n 0, 1) := by decide +kernel
theorem dX12_isItem_1 : decode cX12_isItem 1 = .ok (.getfield 7, 3) := by decide +kernel
theorem dX12_isItem_4 : decode cX12_isItem 4 = .ok (.aload_n 0, 1) := by decide +kernel
theorem dX12_isItem_5 : decode cX12_isItem 5 = .ok (.getfield 70, 3) := by decide +kernel
theorem dX12_isItem_8 : decode cX12_isItem 8 = .ok (.baload, 1) := by decide +kernel
theorem dX12_isItem_9 : decode cX12_isItem 9 = .ok (.istore_n 1, 1) := by decide +kernel
theorem dX12_isItem_10 : decode cX12_isItem 10 = .ok (.aload_n 0, 1) := by decide +kernel
theorem dX12_isItem_11 : decode cX12_isItem 11 = .ok (.dup, 1) := by decide +kernel
theorem dX12_isItem_12 : decode cX12_isItem 12 = .ok (.getfield 70, 3) := by decide +kernel
theorem dX12_isItem_15 : decode cX12_isItem 15 = .ok (.iconst 1, 1) := by decide +kernel
theorem dX12_isItem_16 : decode cX12_isItem 16 = .ok (.iadd, 1) := by decide +kernel
theorem dX12_isItem_17 : decode cX12_isItem 17 = .ok (.putfield 70, 3) := by decide +kernel
theorem dX12_isItem_20 : decode cX12_isItem 20 = .ok (.iload_n 1, 1) := by decide +kernel
theorem dX12_isItem_21 : decode cX12_isItem 21 = .ok (.invokestatic 79, 3) := by decide +kernel
theorem dX12_isItem_24 : decode cX12_isItem 24 = .ok (.istore_n 2, 1) := by decide +kernel
theorem dX12_isItem_25 : decode cX12_isItem 25 = .ok (.iload_n 2, 1) := by decide +kernel
theorem dX12_isItem_26 : decode cX12_isItem 26 = .ok (.ifCond .le 7, 3) := by decide +kernel
theorem dX12_isItem_29 : decode cX12_isItem 29 = .ok (.iconst 1, 1) := by decide +kernel
theorem dX12_isItem_30 : decode cX12_isItem 30 = .ok (.goto 4, 3) := by decide +kernel
theorem dX12_isItem_33 : decode cX12_isItem 33 = .ok (.iconst 0, 1) := by decide +kernel
theorem dX12_isItem_34 : decode cX12_isItem 34 = .ok (.istore_n 3, 1) := by decide +kernel
theorem dX12_isItem_35 : decode cX12_isItem 35 = .ok (.iconst 0, 1) := by decide +kernel
theorem dX12_isItem_36 : decode cX12_isItem 36 = .ok (.istore 4, 2) := by decide +kernel
theorem dX12_isItem_38 : decode cX12_isItem 38 = .ok (.iload 4, 2) := by decide +kernel
theorem dX12_isItem_40 : decode cX12_isItem 40 = .ok (.iload_n 2, 1) := by decide +kernel
theorem dX12_isItem_41 : decode cX12_isItem 41 = .ok (.if_icmp .ge 103, 3) := by decide +kernel
theorem dX12_isItem_44 : decode cX12_isItem 44 = .ok (.iload_n 3, 1) := by decide +kernel
theorem dX12_isItem_45 : decode cX12_isItem 45 = .ok (.ifCond .eq 99, 3) := by decide +kernel
theorem dX12_isItem_48 : decode cX12_isItem 48 = .ok (.iload 4, 2) := by decide +kernel
theorem dX12_isItem_50 : decode cX12_isItem 50 = .ok (.ifCond .eq 28, 3) := by decide +kernel
theorem dX12_isItem_53 : decode cX12_isItem 53 = .ok (.aload_n 0, 1) := by decide +kernel
theorem dX12_isItem_54 : decode cX12_isItem 54 = .ok (.getfield 70, 3) := by decide +kernel
theorem dX12_isItem_57 : decode cX12_isItem 57 = .ok (.aload_n 0, 1) := by decide +kernel
theorem dX12_isItem_58 : decode cX12_isItem 58 = .ok (.getfield 66, 3) := by decide +kernel
theorem dX12_isItem_61 : decode cX12_isItem 61 = .ok (.if_icmp .ge 21, 3) := by decide +kernel
theorem dX12_isItem_64 : decode cX12_isItem 64 = .ok (.aload_n 0, 1) := by decide +kernel
theorem dX12_isItem_65 : decode cX12_isItem 65 = .ok (.getfield 7, 3) := by decide +kernel
theorem dX12_isItem_68 : decode cX12_isItem 68 = .ok (.aload_n 0, 1) := by decide +kernel
theorem dX12_isItem_69 : decode cX12_isItem 69 = .ok (.getfield 70, 3) := by decide +kernel
theorem dX12_isItem_72 : decode cX12_isItem 72 = .ok (.baload, 1) := by decide +kernel
theorem dX12_isItem_73 : decode cX12_isItem 73 = .ok (.bipush 44, 2) := by decide +kernel
theorem dX12_isItem_75 : decode cX12_isItem 75 = .ok (.if_icmp .ne 7, 3) := by decide +kernel
theorem dX12_isItem_78 : decode cX12_isItem 78 = .ok (.iconst 1, 1) := by decide +kernel
theorem dX12_isItem_79 : decode cX12_isItem 79 = .ok (.goto 4, 3) := by decide +kernel
theorem dX12_isItem_82 : decode cX12_isItem 82 = .ok (.iconst 0, 1) := by decide +kernel
theorem dX12_isItem_83 : decode cX12_isItem 83 = .ok (.istore_n 3, 1) := by decide +kernel
theorem dX12_isItem_84 : decode cX12_isItem 84 = .ok (.aload_n 0, 1) := by decide +kernel
theorem dX12_isItem_85 : decode cX12_isItem 85 = .ok (.dup, 1) := by decide +kernel
theorem dX12_isItem_86 : decode cX12_isItem 86 = .ok (.getfield 70, 3) := by decide +kernel
theorem dX12_isItem_89 : decode cX12_isItem 89 = .ok (.iload 4, 2) := by decide +kernel
theorem dX12_isItem_91 : decode cX12_isItem 91 = .ok (.ifCond .ne 7, 3) := by decide +kernel
theorem dX12_isItem_94 : decode cX12_isItem 94 = .ok (.iconst 0, 1) := by decide +kernel
theorem dX12_isItem_95 : decode cX12_isItem 95 = .ok (.goto 4, 3) := by decide +kernel
theorem dX12_isItem_98 : decode cX12_isItem 98 = .ok (.iconst 1, 1) := by decide +kernel
theorem dX12_isItem_99 : decode cX12_isItem 99 = .ok (.iadd, 1) := by decide +kernel
theorem dX12_isItem_100 : decode cX12_isItem 100 = .ok (.putfield 70, 3) := by decide +kernel
theorem dX12_isItem_103 : decode cX12_isItem 103 = .ok (.aload_n 0, 1) := by decide +kernel
theorem dX12_isItem_104 : decode cX12_isItem 104 = .ok (.getfield 49, 3) := by decide +kernel
theorem dX12_isItem_107 : decode cX12_isItem 107 = .ok (.iload 4, 2) := by decide +kernel
theorem dX12_isItem_109 : decode cX12_isItem 109 = .ok (.iload_n 3, 1) := by decide +kernel
theorem dX12_isItem_110 : decode cX12_isItem 110 = .ok (.ifCond .eq 10, 3) := by decide +kernel
theorem dX12_isItem_113 : decode cX12_isItem 113 = .ok (.aload_n 0, 1) := by decide +kernel
theorem dX12_isItem_114 : decode cX12_isItem 114 = .ok (.invokevirtual 83, 3) := by decide +kernel
theorem dX12_isItem_117 : decode cX12_isItem 117 = .ok (.goto 4, 3) := by decide +kernel
theorem dX12_isItem_120 : decode cX12_isItem 120 = .ok (.iconst (-1), 1) := by decide +kernel
theorem dX12_isItem_121 : decode cX12_isItem 121 = .ok (.iastore, 1) := by decide +kernel
theorem dX12_isItem_122 : decode cX12_isItem 122 = .ok (.aload_n 0, 1) := by decide +kernel
theorem dX12_isItem_123 : decode cX12_isItem 123 = .ok (.getfield 49, 3) := by decide +kernel
theorem dX12_isItem_126 : decode cX12_isItem 126 = .ok (.iload 4, 2) := by decide +kernel
theorem dX12_isItem_128 : decode cX12_isItem 128 = .ok (.iaload, 1) := by decide +kernel
theorem dX12_isItem_129 : decode cX12_isItem 129 = .ok (.ifCond .lt 7, 3) := by decide +kernel
theorem dX12_isItem_132 : decode cX12_isItem 132 = .ok (.iconst 1, 1) := by decide +kernel
theorem dX12_isItem_133 : decode cX12_isItem 133 = .ok (.goto 4, 3) := by decide +kernel
theorem dX12_isItem_136 : decode cX12_isItem 136 = .ok (.iconst 0, 1) := by decide +kernel
theorem dX12_isItem_137 : decode cX12_isItem 137 = .ok (.istore_n 3, 1) := by decide +kernel
theorem dX12_isItem_138 : decode cX12_isItem 138 = .ok (.iinc 4 1, 3) := by decide +kernel
theorem dX12_isItem_141 : decode cX12_isItem 141 = .ok (.goto (-103), 3) := by decide +kernel
theorem dX12_isItem_144 : decode cX12_isItem 144 = .ok (.iload_n 3, 1) := by decide +kernel
theorem dX12_isItem_145 : decode cX12_isItem 145 = .ok (.ifCond .eq 32, 3) := by decide +kernel
theorem dX12_isItem_148 : decode cX12_isItem 148 = .ok (.aload_n 0, 1) := by decide +kernel
theorem dX12_isItem_149 : decode cX12_isItem 149 = .ok (.getfield 70, 3) := by decide +kernel
theorem dX12_isItem_152 : decode cX12_isItem 152 = .ok (.aload_n 0, 1) := by decide +kernel
theorem dX12_isItem_153 : decode cX12_isItem 153 = .ok (.getfield 66, 3) := by decide +kernel
theorem dX12_isItem_156 : decode cX12_isItem 156 = .ok (.if_icmp .ge 21, 3) := by decide +kernel
theorem dX12_isItem_159 : decode cX12_isItem 159 = .ok (.aload_n 0, 1) := by decide +kernel
theorem dX12_isItem_160 : decode cX12_isItem 160 = .ok (.getfield 7, 3) := by decide +kernel
theorem dX12_isItem_163 : decode cX12_isItem 163 = .ok (.aload_n 0, 1) := by decide +kernel
theorem dX12_isItem_164 : decode cX12_isItem 164 = .ok (.getfield 70, 3) := by decide +kernel
theorem dX12_isItem_167 : decode cX12_isItem 167 = .ok (.baload, 1) := by decide +kernel
theorem dX12_isItem_168 : decode cX12_isItem 168 = .ok (.bipush 59, 2) := by decide +kernel
theorem dX12_isItem_170 : decode cX12_isItem 170 = .ok (.if_icmp .ne 7, 3) := by decide +kernel
theorem dX12_isItem_173 : decode cX12_isItem 173 = .ok (.iconst 1, 1) := by decide +kernel
theorem dX12_isItem_174 : decode cX12_isItem 174 = .ok (.goto 4, 3) := by decide +kernel
theorem dX12_isItem_177 : decode cX12_isItem 177 = .ok (.iconst 0, 1) := by decide +kernel
theorem dX12_isItem_178 : decode cX12_isItem 178 = .ok (.istore_n 3, 1) := by decide +kernel
theorem dX12_isItem_179 : decode cX12_isItem 179 = .ok (.aload_n 0, 1) := by decide +kernel
theorem dX12_isItem_180 : decode cX12_isItem 180 = .ok (.dup, 1) := by decide +kernel
theorem dX12_isItem_181 : decode cX12_isItem 181 = .ok (.getfield 70, 3) := by decide +kernel
theorem dX12_isItem_184 : decode cX12_isItem 184 = .ok (.iconst 1, 1) := by decide +kernel
theorem dX12_isItem_185 : decode cX12_isItem 185 = .ok (.iadd, 1) := by decide +kernel
theorem dX12_isItem_186 : decode cX12_isItem 186 = .ok (.putfield 70, 3) := by decide +kernel
theorem dX12_isItem_189 : decode cX12_isItem 189 = .ok (.iload_n 3, 1) := by decide +kernel
theorem dX12_isItem_190 : decode cX12_isItem 190 = .ok (.ifCond .eq 15, 3) := by decide +kernel
theorem dX12_isItem_193 : decode cX12_isItem 193 = .ok (.aload_n 0, 1) := by decide +kernel
theorem dX12_isItem_194 : decode cX12_isItem 194 = .ok (.iload_n 1, 1) := by decide +kernel
theorem dX12_isItem_195 : decode cX12_isItem 195 = .ok (.invokevirtual 87, 3) := by decide +kernel
theorem dX12_isItem_198 : decode cX12_isItem 198 = .ok (.ifCond .eq 7, 3) := by decide +kernel
theorem dX12_isItem_201 : decode cX12_isItem 201 = .ok (.iconst 1, 1) := by decide +kernel
theorem dX12_isItem_202 : decode cX12_isItem 202 = .ok (.goto 4, 3) := by decide +kernel
theorem dX12_isItem_205 : decode cX12_isItem 205 = .ok (.iconst 0, 1) := by decide +kernel
theorem dX12_isItem_206 : decode cX12_isItem 206 = .ok (.ireturn, 1) := by decide +kernel
theorem dX12_isGood_0 : decode cX12_isGood 0 = .ok (.aload_n 0, 1) := by decide +kernel
theorem dX12_isGood_1 : decode cX12_isGood 1 = .ok (.getfield 49, 3) := by decide +kernel
theorem dX12_isGood_4 : decode cX12_isGood 4 = .ok (.iconst 0, 1) := by decide +kernel
theorem dX12_isGood_5 : decode cX12_isGood 5 = .ok (.iaload, 1) := by decide +kernel
theorem dX12_isGood_6 : decode cX12_isGood 6 = .ok (.istore_n 2, 1) := by decide +kernel
theorem dX12_isGood_7 : decode cX12_isGood 7 = .ok (.aload_n 0, 1) := by decide +kernel
theorem dX12_isGood_8 : decode cX12_isGood 8 = .ok (.getfield 49, 3) := by decide +kernel
theorem dX12_isGood_11 : decode cX12_isGood 11 = .ok (.iconst 1, 1) := by decide +kernel
theorem dX12_isGood_12 : decode cX12_isGood 12 = .ok (.iaload, 1) := by decide +kernel
theorem dX12_isGood_13 : decode cX12_isGood 13 = .ok (.istore_n 3, 1) := by decide +kernel
theorem dX12_isGood_14 : decode cX12_isGood 14 = .ok (.aload_n 0, 1) := by decide +kernel
theorem dX12_isGood_15 : decode cX12_isGood 15 = .ok (.getfield 49, 3) := by decide +kernel
theorem dX12_isGood_18 : decode cX12_isGood 18 = .ok (.iconst 2, 1) := by decide +kernel
theorem dX12_isGood_19 : decode cX12_isGood 19 = .ok (.iaload, 1) := by decide +kernel
theorem dX12_isGood_20 : decode cX12_isGood 20 = .ok (.istore 4, 2) := by decide +kernel
theorem dX12_isGood_22 : decode cX12_isGood 22 = .ok (.iload_n 1, 1) := by decide +kernel
theorem dX12_isGood_23 : decode cX12_isGood 23 = .ok (.bipush 110, 2) := by decide +kernel
theorem dX12_isGood_25 : decode cX12_isGood 25 = .ok (.if_icmp .ne 41, 3) := by decide +kernel
theorem dX12_isGood_28 : decode cX12_isGood 28 = .ok (.aload_n 0, 1) := by decide +kernel
theorem dX12_isGood_29 : decode cX12_isGood 29 = .ok (.getfield 13, 3) := by decide +kernel
theorem dX12_isGood_32 : decode cX12_isGood 32 = .ok (.bipush 6, 2) := by decide +kernel
theorem dX12_isGood_34 : decode cX12_isGood 34 = .ok (.iload_n 2, 1) := by decide +kernel
theorem dX12_isGood_35 : decode cX12_isGood 35 = .ok (.iastore, 1) := by decide +kernel
theorem dX12_isGood_36 : decode cX12_isGood 36 = .ok (.iload_n 2, 1) := by decide +kernel
theorem dX12_isGood_37 : decode cX12_isGood 37 = .ok (.i2l, 1) := by decide +kernel
theorem dX12_isGood_38 : decode cX12_isGood 38 = .ok (.ldc2_w 91, 3) := by decide +kernel
theorem dX12_isGood_41 : decode cX12_isGood 41 = .ok (.ldc2_w 93, 3) := by decide +kernel
theorem dX12_isGood_44 : decode cX12_isGood 44 = .ok (.invokestatic 62, 3) := by decide +kernel
theorem dX12_isGood_47 : decode cX12_isGood 47 = .ok (.ifCond .eq 17, 3) := by decide +kernel
theorem dX12_isGood_50 : decode cX12_isGood 50 = .ok (.aload_n 0, 1) := by decide +kernel
theorem dX12_isGood_51 : decode cX12_isGood 51 = .ok (.getfield 13, 3) := by decide +kernel
theorem dX12_isGood_54 : decode cX12_isGood 54 = .ok (.bipush 11, 2) := by decide +kernel
theorem dX12_isGood_56 : decode cX12_isGood 56 = .ok (.iaload, 1) := by decide +kernel
theorem dX12_isGood_57 : decode cX12_isGood 57 = .ok (.ifCond .ne 7, 3) := by decide +kernel
theorem dX12_isGood_60 : decode cX12_isGood 60 = .ok (.iconst 1, 1) := by decide +kernel
theorem dX12_isGood_61 : decode cX12_isGood 61 = .ok (.goto 4, 3) := by decide +kernel
theorem dX12_isGood_64 : decode cX12_isGood 64 = .ok (.iconst 0, 1) := by decide +kernel
theorem dX12_isGood_65 : decode cX12_isGood 65 = .ok (.ireturn, 1) := by decide +kernel
theorem dX12_isGood_66 : decode cX12_isGood 66 = .ok (.aload_n 0, 1) := by decide +kernel
theorem dX12_isGood_67 : decode cX12_isGood 67 = .ok (.getfield 13, 3) := by decide +kernel
theorem dX12_isGood_70 : decode cX12_isGood 70 = .ok (.bipush 11, 2) := by decide +kernel
theorem dX12_isGood_72 : decode cX12_isGood 72 = .ok (.iconst 1, 1) := by decide +kernel
theorem dX12_isGood_73 : decode cX12_isGood 73 = .ok (.iastore, 1) := by decide +kernel
theorem dX12_isGood_74 : decode cX12_isGood 74 = .ok (.iload_n 1, 1) := by decide +kernel
theorem dX12_isGood_75 : decode cX12_isGood 75 = .ok (.lookupswitch 182 #[(108, 33), (109, 141), (116, 82)], 33) := by decide +kernel
theorem dX12_isGood_108 : decode cX12_isGood 108 = .ok (.iload_n 2, 1) := by decide +kernel
theorem dX12_isGood_109 : decode cX12_isGood 109 = .ok (.bipush 7, 2) := by decide +kernel
theorem dX12_isGood_111 : decode cX12_isGood 111 = .ok (.if_icmp .ge 44, 3) := by decide +kernel
theorem dX12_isGood_114 : decode cX12_isGood 114 = .ok (.iload_n 3, 1) := by decide +kernel
theorem dX12_isGood_115 : decode cX12_isGood 115 = .ok (.bipush 10, 2) := by decide +kernel
theorem dX12_isGood_117 : decode cX12_isGood 117 = .ok (.if_icmp .ge 38, 3) := by decide +kernel
theorem dX12_isGood_120 : decode cX12_isGood 120 = .ok (.iload 4, 2) := by decide +kernel
theorem dX12_isGood_122 : decode cX12_isGood 122 = .ok (.i2l, 1) := by decide +kernel
theorem dX12_isGood_123 : decode cX12_isGood 123 = .ok (.lconst 1, 1) := by decide +kernel
theorem dX12_isGood_124 : decode cX12_isGood 124 = .ok (.ldc2_w 95, 3) := by decide +kernel
theorem dX12_isGood_127 : decode cX12_isGood 127 = .ok (.invokestatic 62, 3) := by decide +kernel
theorem dX12_isGood_130 : decode cX12_isGood 130 = .ok (.ifCond .eq 25, 3) := by decide +kernel
theorem dX12_isGood_133 : decode cX12_isGood 133 = .ok (.aload_n 0, 1) := by decide +kernel
theorem dX12_isGood_134 : decode cX12_isGood 134 = .ok (.aload_n 0, 1) := by decide +kernel
theorem dX12_isGood_135 : decode cX12_isGood 135 = .ok (.getfield 17, 3) := by decide +kernel
theorem dX12_isGood_138 : decode cX12_isGood 138 = .ok (.bipush 24, 2) := by decide +kernel
theorem dX12_isGood_140 : decode cX12_isGood 140 = .ok (.iconst 3, 1) := by decide +kernel
theorem dX12_isGood_141 : decode cX12_isGood 141 = .ok (.bipush 7, 2) := by decide +kernel
theorem dX12_isGood_143 : decode cX12_isGood 143 = .ok (.bipush 8, 2) := by decide +kernel
theorem dX12_isGood_145 : decode cX12_isGood 145 = .ok (.invokevirtual 97, 3) := by decide +kernel
theorem dX12_isGood_148 : decode cX12_isGood 148 = .ok (.ifCond .eq 7, 3) := by decide +kernel
theorem dX12_isGood_151 : decode cX12_isGood 151 = .ok (.iconst 1, 1) := by decide +kernel
theorem dX12_isGood_152 : decode cX12_isGood 152 = .ok (.goto 4, 3) := by decide +kernel
theorem dX12_isGood_155 : decode cX12_isGood 155 = .ok (.iconst 0, 1) := by decide +kernel
theorem dX12_isGood_156 : decode cX12_isGood 156 = .ok (.ireturn, 1) := by decide +kernel
theorem dX12_isGood_157 : decode cX12_isGood 157 = .ok (.iload_n 2, 1) := by decide +kernel
theorem dX12_isGood_158 : decode cX12_isGood 158 = .ok (.aload_n 0, 1) := by decide +kernel
theorem dX12_isGood_159 : decode cX12_isGood 159 = .ok (.getfield 13, 3) := by decide +kernel
theorem dX12_isGood_162 : decode cX12_isGood 162 = .ok (.bipush 6, 2) := by decide +kernel
theorem dX12_isGood_164 : decode cX12_isGood 164 = .ok (.iaload, 1) := by decide +kernel
theorem dX12_isGood_165 : decode cX12_isGood 165 = .ok (.if_icmp .ge 49, 3) := by decide +kernel
theorem dX12_isGood_168 : decode cX12_isGood 168 = .ok (.iload_n 3, 1) := by decide +kernel
theorem dX12_isGood_169 : decode cX12_isGood 169 = .ok (.bipush 8, 2) := by decide +kernel
theorem dX12_isGood_171 : decode cX12_isGood 171 = .ok (.if_icmp .ge 43, 3) := by decide +kernel
theorem dX12_isGood_174 : decode cX12_isGood 174 = .ok (.iload 4, 2) := by decide +kernel
theorem dX12_isGood_176 : decode cX12_isGood 176 = .ok (.bipush 21, 2) := by decide +kernel
theorem dX12_isGood_178 : decode cX12_isGood 178 = .ok (.if_icmp .ge 36, 3) := by decide +kernel
theorem dX12_isGood_181 : decode cX12_isGood 181 = .ok (.aload_n 0, 1) := by decide +kernel
theorem dX12_isGood_182 : decode cX12_isGood 182 = .ok (.getfield 49, 3) := by decide +kernel
theorem dX12_isGood_185 : decode cX12_isGood 185 = .ok (.iconst 3, 1) := by decide +kernel
theorem dX12_isGood_186 : decode cX12_isGood 186 = .ok (.iaload, 1) := by decide +kernel
theorem dX12_isGood_187 : decode cX12_isGood 187 = .ok (.bipush 21, 2) := by decide +kernel
theorem dX12_isGood_189 : decode cX12_isGood 189 = .ok (.if_icmp .ge 25, 3) := by decide +kernel
theorem dX12_isGood_192 : decode cX12_isGood 192 = .ok (.aload_n 0, 1) := by decide +kernel
theorem dX12_isGood_193 : decode cX12_isGood 193 = .ok (.aload_n 0, 1) := by decide +kernel
theorem dX12_isGood_194 : decode cX12_isGood 194 = .ok (.getfield 20, 3) := by decide +kernel
theorem dX12_isGood_197 : decode cX12_isGood 197 = .ok (.bipush 24, 2) := by decide +kernel
theorem dX12_isGood_199 : decode cX12_isGood 199 = .ok (.iconst 4, 1) := by decide +kernel
theorem dX12_isGood_200 : decode cX12_isGood 200 = .ok (.bipush 8, 2) := by decide +kernel
theorem dX12_isGood_202 : decode cX12_isGood 202 = .ok (.bipush 6, 2) := by decide +kernel
theorem dX12_isGood_204 : decode cX12_isGood 204 = .ok (.invokevirtual 97, 3) := by decide +kernel
theorem dX12_isGood_207 : decode cX12_isGood 207 = .ok (.ifCond .eq 7, 3) := by decide +kernel
theorem dX12_isGood_210 : decode cX12_isGood 210 = .ok (.iconst 1, 1) := by decide +kernel
theorem dX12_isGood_211 : decode cX12_isGood 211 = .ok (.goto 4, 3) := by decide +kernel
theorem dX12_isGood_214 : decode cX12_isGood 214 = .ok (.iconst 0, 1) := by decide +kernel
theorem dX12_isGood_215 : decode cX12_isGood 215 = .ok (.ireturn, 1) := by decide +kernel
theorem dX12_isGood_216 : decode cX12_isGood 216 = .ok (.iload_n 2, 1) := by decide +kernel
theorem dX12_isGood_217 : decode cX12_isGood 217 = .ok (.bipush 8, 2) := by decide +kernel
theorem dX12_isGood_219 : decode cX12_isGood 219 = .ok (.if_icmp .ge 36, 3) := by decide +kernel
theorem dX12_isGood_222 : decode cX12_isGood 222 = .ok (.iload_n 3, 1) := by decide +kernel
theorem dX12_isGood_223 : decode cX12_isGood 223 = .ok (.aload_n 0, 1) := by decide +kernel
theorem dX12_isGood_224 : decode cX12_isGood 224 = .ok (.getfield 13, 3) := by decide +kernel
theorem dX12_isGood_227 : decode cX12_isGood 227 = .ok (.bipush 6, 2) := by decide +kernel
theorem dX12_isGood_229 : decode cX12_isGood 229 = .ok (.iaload, 1) := by decide +kernel
theorem dX12_isGood_230 : decode cX12_isGood 230 = .ok (.if_icmp .ge 25, 3) := by decide +kernel
theorem dX12_isGood_233 : decode cX12_isGood 233 = .ok (.aload_n 0, 1) := by decide +kernel
theorem dX12_isGood_234 : decode cX12_isGood 234 = .ok (.aload_n 0, 1) := by decide +kernel
theorem dX12_isGood_235 : decode cX12_isGood 235 = .ok (.getfield 23, 3) := by decide +kernel
theorem dX12_isGood_238 : decode cX12_isGood 238 = .ok (.bipush 16, 2) := by decide +kernel
theorem dX12_isGood_240 : decode cX12_isGood 240 = .ok (.iconst 2, 1) := by decide +kernel
theorem dX12_isGood_241 : decode cX12_isGood 241 = .ok (.bipush 9, 2) := by decide +kernel
theorem dX12_isGood_243 : decode cX12_isGood 243 = .ok (.bipush 8, 2) := by decide +kernel
theorem dX12_isGood_245 : decode cX12_isGood 245 = .ok (.invokevirtual 97, 3) := by decide +kernel
theorem dX12_isGood_248 : decode cX12_isGood 248 = .ok (.ifCond .eq 7, 3) := by decide +kernel
theorem dX12_isGood_251 : decode cX12_isGood 251 = .ok (.iconst 1, 1) := by decide +kernel
theorem dX12_isGood_252 : decode cX12_isGood 252 = .ok (.goto 4, 3) := by decide +kernel
theorem dX12_isGood_255 : decode cX12_isGood 255 = .ok (.iconst 0, 1) := by decide +kernel
theorem dX12_isGood_256 : decode cX12_isGood 256 = .ok (.ireturn, 1) := by decide +kernel
theorem dX12_isGood_257 : decode cX12_isGood 257 = .ok (.iload_n 2, 1) := by decide +kernel
theorem dX12_isGood_258 : decode cX12_isGood 258 = .ok (.bipush 8, 2) := by decide +kernel
theorem dX12_isGood_260 : decode cX12_isGood 260 = .ok (.if_icmp .ge 42, 3) := by decide +kernel
theorem dX12_isGood_263 : decode cX12_isGood 263 = .ok (.iload_n 3, 1) := by decide +kernel
theorem dX12_isGood_264 : decode cX12_isGood 264 = .ok (.aload_n 0, 1) := by decide +kernel
theorem dX12_isGood_265 : decode cX12_isGood 265 = .ok (.getfield 13, 3) := by decide +kernel
theorem dX12_isGood_268 : decode cX12_isGood 268 = .ok (.bipush 6, 2) := by decide +kernel
theorem dX12_isGood_270 : decode cX12_isGood 270 = .ok (.iaload, 1) := by decide +kernel
theorem dX12_isGood_271 : decode cX12_isGood 271 = .ok (.if_icmp .ge 31, 3) := by decide +kernel
theorem dX12_isGood_274 : decode cX12_isGood 274 = .ok (.iload 4, 2) := by decide +kernel
theorem dX12_isGood_276 : decode cX12_isGood 276 = .ok (.bipush 10, 2) := by decide +kernel
theorem dX12_isGood_278 : decode cX12_isGood 278 = .ok (.if_icmp .ge 24, 3) := by decide +kernel
theorem dX12_isGood_281 : decode cX12_isGood 281 = .ok (.aload_n 0, 1) := by decide +kernel
theorem dX12_isGood_282 : decode cX12_isGood 282 = .ok (.aload_n 0, 1) := by decide +kernel
theorem dX12_isGood_283 : decode cX12_isGood 283 = .ok (.getfield 26, 3) := by decide +kernel
theorem dX12_isGood_286 : decode cX12_isGood 286 = .ok (.bipush 15, 2) := by decide +kernel
theorem dX12_isGood_288 : decode cX12_isGood 288 = .ok (.iconst 3, 1) := by decide +kernel
theorem dX12_isGood_289 : decode cX12_isGood 289 = .ok (.bipush 10, 2) := by decide +kernel
theorem dX12_isGood_291 : decode cX12_isGood 291 = .ok (.iconst 5, 1) := by decide +kernel
theorem dX12_isGood_292 : decode cX12_isGood 292 = .ok (.invokevirtual 97, 3) := by decide +kernel
theorem dX12_isGood_295 : decode cX12_isGood 295 = .ok (.ifCond .eq 7, 3) := by decide +kernel
theorem dX12_isGood_298 : decode cX12_isGood 298 = .ok (.iconst 1, 1) := by decide +kernel
theorem dX12_isGood_299 : decode cX12_isGood 299 = .ok (.goto 4, 3) := by decide +kernel
theorem dX12_isGood_302 : decode cX12_isGood 302 = .ok (.iconst 0, 1) := by decide +kernel
theorem dX12_isGood_303 : decode cX12_isGood 303 = .ok (.ireturn, 1) := by decide +kernel
theorem dX12_isPut_0 : decode cX12_isPut 0 = .ok (.aload_n 0, 1) := by decide +kernel
theorem dX12_isPut_1 : decode cX12_isPut 1 = .ok (.getfield 13, 3) := by decide +kernel
theorem dX12_isPut_4 : decode cX12_isPut 4 = .ok (.iload 4, 2) := by decide +kernel
theorem dX12_isPut_6 : decode cX12_isPut 6 = .ok (.iaload, 1) := by decide +kernel
theorem dX12_isPut_7 : decode cX12_isPut 7 = .ok (.iload 5, 2) := by decide +kernel
theorem dX12_isPut_9 : decode cX12_isPut 9 = .ok (.if_icmp .ne 5, 3) := by decide +kernel
theorem dX12_isPut_12 : decode cX12_isPut 12 = .ok (.iconst 0, 1) := by decide +kernel
theorem dX12_isPut_13 : decode cX12_isPut 13 = .ok (.ireturn, 1) := by decide +kernel
theorem dX12_isPut_14 : decode cX12_isPut 14 = .ok (.iconst 0, 1) := by decide +kernel
theorem dX12_isPut_15 : decode cX12_isPut 15 = .ok (.istore 6, 2) := by decide +kernel
theorem dX12_isPut_17 : decode cX12_isPut 17 = .ok (.iload 6, 2) := by decide +kernel
theorem dX12_isPut_19 : decode cX12_isPut 19 = .ok (.iload_n 3, 1) := by decide +kernel
theorem dX12_isPut_20 : decode cX12_isPut 20 = .ok (.if_icmp .ge 32, 3) := by decide +kernel
theorem dX12_isPut_23 : decode cX12_isPut 23 = .ok (.aload_n 1, 1) := by decide +kernel
theorem dX12_isPut_24 : decode cX12_isPut 24 = .ok (.iload_n 2, 1) := by decide +kernel
theorem dX12_isPut_25 : decode cX12_isPut 25 = .ok (.iload_n 3, 1) := by decide +kernel
theorem dX12_isPut_26 : decode cX12_isPut 26 = .ok (.aload_n 0, 1) := by decide +kernel
theorem dX12_isPut_27 : decode cX12_isPut 27 = .ok (.getfield 13, 3) := by decide +kernel
theorem dX12_isPut_30 : decode cX12_isPut 30 = .ok (.iload 4, 2) := by decide +kernel
theorem dX12_isPut_32 : decode cX12_isPut 32 = .ok (.iaload, 1) := by decide +kernel
theorem dX12_isPut_33 : decode cX12_isPut 33 = .ok (.imul, 1) := by decide +kernel
theorem dX12_isPut_34 : decode cX12_isPut 34 = .ok (.iadd, 1) := by decide +kernel
theorem dX12_isPut_35 : decode cX12_isPut 35 = .ok (.iload 6, 2) := by decide +kernel
theorem dX12_isPut_37 : decode cX12_isPut 37 = .ok (.iadd, 1) := by decide +kernel
theorem dX12_isPut_38 : decode cX12_isPut 38 = .ok (.aload_n 0, 1) := by decide +kernel
theorem dX12_isPut_39 : decode cX12_isPut 39 = .ok (.getfield 49, 3) := by decide +kernel
theorem dX12_isPut_42 : decode cX12_isPut 42 = .ok (.iload 6, 2) := by decide +kernel
theorem dX12_isPut_44 : decode cX12_isPut 44 = .ok (.iaload, 1) := by decide +kernel
theorem dX12_isPut_45 : decode cX12_isPut 45 = .ok (.iastore, 1) := by decide +kernel
theorem dX12_isPut_46 : decode cX12_isPut 46 = .ok (.iinc 6 1, 3) := by decide +kernel
theorem dX12_isPut_49 : decode cX12_isPut 49 = .ok (.goto (-32), 3) := by decide +kernel
theorem dX12_isPut_52 : decode cX12_isPut 52 = .ok (.aload_n 0, 1) := by decide +kernel
theorem dX12_isPut_53 : decode cX12_isPut 53 = .ok (.getfield 13, 3) := by decide +kernel
theorem dX12_isPut_56 : decode cX12_isPut 56 = .ok (.iload 4, 2) := by decide +kernel
theorem dX12_isPut_58 : decode cX12_isPut 58 = .ok (.dup2, 1) := by decide +kernel
theorem dX12_isPut_59 : decode cX12_isPut 59 = .ok (.iaload, 1) := by decide +kernel
theorem dX12_isPut_60 : decode cX12_isPut 60 = .ok (.iconst 1, 1) := by decide +kernel
theorem dX12_isPut_61 : decode cX12_isPut 61 = .ok (.iadd, 1) := by decide +kernel
theorem dX12_isPut_62 : decode cX12_isPut 62 = .ok (.iastore, 1) := by decide +kernel
theorem dX12_isPut_63 : decode cX12_isPut 63 = .ok (.iconst 1, 1) := by decide +kernel
theorem dX12_isPut_64 : decode cX12_isPut 64 = .ok (.ireturn, 1) := by decide +kernel
theorem dX12_begins_0 : decode cX12_begins 0 = .ok (.bipush 6, 2) := by decide +kernel
theorem dX12_begins_2 : decode cX12_begins 2 = .ok (.istore_n 1, 1) := by decide +kernel
theorem dX12_begins_3 : decode cX12_begins 3 = .ok (.iload_n 1, 1) := by decide +kernel
theorem dX12_begins_4 : decode cX12_begins 4 = .ok (.bipush 12, 2) := by decide +kernel
theorem dX12_begins_6 : decode cX12_begins 6 = .ok (.if_icmp .ge 27, 3) := by decide +kernel
theorem dX12_begins_9 : decode cX12_begins 9 = .ok (.aload_n 0, 1) := by decide +kernel
theorem dX12_begins_10 : decode cX12_begins 10 = .ok (.getfield 13, 3) := by decide +kernel
theorem dX12_begins_13 : decode cX12_begins 13 = .ok (.iload_n 1, 1) := by decide +kernel
theorem dX12_begins_14 : decode cX12_begins 14 = .ok (.iload_n 1, 1) := by decide +kernel
theorem dX12_begins_15 : decode cX12_begins 15 = .ok (.bipush 6, 2) := by decide +kernel
theorem dX12_begins_17 : decode cX12_begins 17 = .ok (.if_icmp .ne 8, 3) := by decide +kernel
theorem dX12_begins_20 : decode cX12_begins 20 = .ok (.bipush 12, 2) := by decide +kernel
theorem dX12_begins_22 : decode cX12_begins 22 = .ok (.goto 4, 3) := by decide +kernel
theorem dX12_begins_25 : decode cX12_begins 25 = .ok (.iconst 0, 1) := by decide +kernel
theorem dX12_begins_26 : decode cX12_begins 26 = .ok (.iastore, 1) := by decide +kernel
theorem dX12_begins_27 : decode cX12_begins 27 = .ok (.iinc 1 1, 3) := by decide +kernel
theorem dX12_begins_30 : decode cX12_begins 30 = .ok (.goto (-27), 3) := by decide +kernel
theorem dX12_begins_33 : decode cX12_begins 33 = .ok (.return_, 1) := by decide +kernel
theorem dX12_takes_0 : decode cX12_takes 0 = .ok (.iconst 0, 1) := by decide +kernel
theorem dX12_takes_1 : decode cX12_takes 1 = .ok (.istore_n 1, 1) := by decide +kernel
theorem dX12_takes_2 : decode cX12_takes 2 = .ok (.iload_n 1, 1) := by decide +kernel
theorem dX12_takes_3 : decode cX12_takes 3 = .ok (.bipush 24, 2) := by decide +kernel
theorem dX12_takes_5 : decode cX12_takes 5 = .ok (.if_icmp .ge 102, 3) := by decide +kernel
theorem dX12_takes_8 : decode cX12_takes 8 = .ok (.aload_n 0, 1) := by decide +kernel
theorem dX12_takes_9 : decode cX12_takes 9 = .ok (.getfield 17, 3) := by decide +kernel
theorem dX12_takes_12 : decode cX12_takes 12 = .ok (.iload_n 1, 1) := by decide +kernel
theorem dX12_takes_13 : decode cX12_takes 13 = .ok (.aload_n 0, 1) := by decide +kernel
theorem dX12_takes_14 : decode cX12_takes 14 = .ok (.getfield 17, 3) := by decide +kernel
theorem dX12_takes_17 : decode cX12_takes 17 = .ok (.bipush 24, 2) := by decide +kernel
theorem dX12_takes_19 : decode cX12_takes 19 = .ok (.iload_n 1, 1) := by decide +kernel
theorem dX12_takes_20 : decode cX12_takes 20 = .ok (.iadd, 1) := by decide +kernel
theorem dX12_takes_21 : decode cX12_takes 21 = .ok (.iaload, 1) := by decide +kernel
theorem dX12_takes_22 : decode cX12_takes 22 = .ok (.iastore, 1) := by decide +kernel
theorem dX12_takes_23 : decode cX12_takes 23 = .ok (.aload_n 0, 1) := by decide +kernel
theorem dX12_takes_24 : decode cX12_takes 24 = .ok (.getfield 20, 3) := by decide +kernel
theorem dX12_takes_27 : decode cX12_takes 27 = .ok (.iload_n 1, 1) := by decide +kernel
theorem dX12_takes_28 : decode cX12_takes 28 = .ok (.aload_n 0, 1) := by decide +kernel
theorem dX12_takes_29 : decode cX12_takes 29 = .ok (.getfield 20, 3) := by decide +kernel
theorem dX12_takes_32 : decode cX12_takes 32 = .ok (.bipush 24, 2) := by decide +kernel
theorem dX12_takes_34 : decode cX12_takes 34 = .ok (.iload_n 1, 1) := by decide +kernel
theorem dX12_takes_35 : decode cX12_takes 35 = .ok (.iadd, 1) := by decide +kernel
theorem dX12_takes_36 : decode cX12_takes 36 = .ok (.iaload, 1) := by decide +kernel
theorem dX12_takes_37 : decode cX12_takes 37 = .ok (.iastore, 1) := by decide +kernel
theorem dX12_takes_38 : decode cX12_takes 38 = .ok (.iload_n 1, 1) := by decide +kernel
theorem dX12_takes_39 : decode cX12_takes 39 = .ok (.bipush 16, 2) := by decide +kernel
theorem dX12_takes_41 : decode cX12_takes 41 = .ok (.if_icmp .ge 18, 3) := by decide +kernel
theorem dX12_takes_44 : decode cX12_takes 44 = .ok (.aload_n 0, 1) := by decide +kernel
theorem dX12_takes_45 : decode cX12_takes 45 = .ok (.getfield 23, 3) := by decide +kernel
theorem dX12_takes_48 : decode cX12_takes 48 = .ok (.iload_n 1, 1) := by decide +kernel
theorem dX12_takes_49 : decode cX12_takes 49 = .ok (.aload_n 0, 1) := by decide +kernel
theorem dX12_takes_50 : decode cX12_takes 50 = .ok (.getfield 23, 3) := by decide +kernel
theorem dX12_takes_53 : decode cX12_takes 53 = .ok (.bipush 16, 2) := by decide +kernel
theorem dX12_takes_55 : decode cX12_takes 55 = .ok (.iload_n 1, 1) := by decide +kernel
theorem dX12_takes_56 : decode cX12_takes 56 = .ok (.iadd, 1) := by decide +kernel
theorem dX12_takes_57 : decode cX12_takes 57 = .ok (.iaload, 1) := by decide +kernel
theorem dX12_takes_58 : decode cX12_takes 58 = .ok (.iastore, 1) := by decide +kernel
theorem dX12_takes_59 : decode cX12_takes 59 = .ok (.iload_n 1, 1) := by decide +kernel
theorem dX12_takes_60 : decode cX12_takes 60 = .ok (.bipush 15, 2) := by decide +kernel
theorem dX12_takes_62 : decode cX12_takes 62 = .ok (.if_icmp .ge 18, 3) := by decide +kernel
theorem dX12_takes_65 : decode cX12_takes 65 = .ok (.aload_n 0, 1) := by decide +kernel
theorem dX12_takes_66 : decode cX12_takes 66 = .ok (.getfield 26, 3) := by decide +kernel
theorem dX12_takes_69 : decode cX12_takes 69 = .ok (.iload_n 1, 1) := by decide +kernel
theorem dX12_takes_70 : decode cX12_takes 70 = .ok (.aload_n 0, 1) := by decide +kernel
theorem dX12_takes_71 : decode cX12_takes 71 = .ok (.getfield 26, 3) := by decide +kernel
theorem dX12_takes_74 : decode cX12_takes 74 = .ok (.bipush 15, 2) := by decide +kernel
theorem dX12_takes_76 : decode cX12_takes 76 = .ok (.iload_n 1, 1) := by decide +kernel
theorem dX12_takes_77 : decode cX12_takes 77 = .ok (.iadd, 1) := by decide +kernel
theorem dX12_takes_78 : decode cX12_takes 78 = .ok (.iaload, 1) := by decide +kernel
theorem dX12_takes_79 : decode cX12_takes 79 = .ok (.iastore, 1) := by decide +kernel
theorem dX12_takes_80 : decode cX12_takes 80 = .ok (.iload_n 1, 1) := by decide +kernel
theorem dX12_takes_81 : decode cX12_takes 81 = .ok (.bipush 6, 2) := by decide +kernel
theorem dX12_takes_83 : decode cX12_takes 83 = .ok (.if_icmp .ge 18, 3) := by decide +kernel
theorem dX12_takes_86 : decode cX12_takes 86 = .ok (.aload_n 0, 1) := by decide +kernel
theorem dX12_takes_87 : decode cX12_takes 87 = .ok (.getfield 13, 3) := by decide +kernel
theorem dX12_takes_90 : decode cX12_takes 90 = .ok (.iload_n 1, 1) := by decide +kernel
theorem dX12_takes_91 : decode cX12_takes 91 = .ok (.aload_n 0, 1) := by decide +kernel
theorem dX12_takes_92 : decode cX12_takes 92 = .ok (.getfield 13, 3) := by decide +kernel
theorem dX12_takes_95 : decode cX12_takes 95 = .ok (.bipush 6, 2) := by decide +kernel
theorem dX12_takes_97 : decode cX12_takes 97 = .ok (.iload_n 1, 1) := by decide +kernel
theorem dX12_takes_98 : decode cX12_takes 98 = .ok (.iadd, 1) := by decide +kernel
theorem dX12_takes_99 : decode cX12_takes 99 = .ok (.iaload, 1) := by decide +kernel
theorem dX12_takes_100 : decode cX12_takes 100 = .ok (.iastore, 1) := by decide +kernel
theorem dX12_takes_101 : decode cX12_takes 101 = .ok (.iinc 1 1, 3) := by decide +kernel
theorem dX12_takes_104 : decode cX12_takes 104 = .ok (.goto (-102), 3) := by decide +kernel
theorem dX12_takes_107 : decode cX12_takes 107 = .ok (.iconst 0, 1) := by decide +kernel
theorem dX12_takes_108 : decode cX12_takes 108 = .ok (.istore_n 1, 1) := by decide +kernel
theorem dX12_takes_109 : decode cX12_takes 109 = .ok (.iload_n 1, 1) := by decide +kernel
theorem dX12_takes_110 : decode cX12_takes 110 = .ok (.bipush 42, 2) := by decide +kernel
theorem dX12_takes_112 : decode cX12_takes 112 = .ok (.if_icmp .ge 16, 3) := by decide +kernel
theorem dX12_takes_115 : decode cX12_takes 115 = .ok (.aload_n 0, 1) := by decide +kernel
theorem dX12_takes_116 : decode cX12_takes 116 = .ok (.getfield 29, 3) := by decide +kernel
theorem dX12_takes_119 : decode cX12_takes 119 = .ok (.iload_n 1, 1) := by decide +kernel
theorem dX12_takes_120 : decode cX12_takes 120 = .ok (.iconst 0, 1) := by decide +kernel
theorem dX12_takes_121 : decode cX12_takes 121 = .ok (.iastore, 1) := by decide +kernel
theorem dX12_takes_122 : decode cX12_takes 122 = .ok (.iinc 1 1, 3) := by decide +kernel
theorem dX12_takes_125 : decode cX12_takes 125 = .ok (.goto (-16), 3) := by decide +kernel
theorem dX12_takes_128 : decode cX12_takes 128 = .ok (.aload_n 0, 1) := by decide +kernel
theorem dX12_takes_129 : decode cX12_takes 129 = .ok (.getfield 29, 3) := by decide +kernel
theorem dX12_takes_132 : decode cX12_takes 132 = .ok (.iconst 0, 1) := by decide +kernel
theorem dX12_takes_133 : decode cX12_takes 133 = .ok (.aload_n 0, 1) := by decide +kernel
theorem dX12_takes_134 : decode cX12_takes 134 = .ok (.getfield 13, 3) := by decide +kernel
theorem dX12_takes_137 : decode cX12_takes 137 = .ok (.iconst 4, 1) := by decide +kernel
theorem dX12_takes_138 : decode cX12_takes 138 = .ok (.iaload, 1) := by decide +kernel
theorem dX12_takes_139 : decode cX12_takes 139 = .ok (.iastore, 1) := by decide +kernel
theorem dX12_takes_140 : decode cX12_takes 140 = .ok (.iconst 0, 1) := by decide +kernel
theorem dX12_takes_141 : decode cX12_takes 141 = .ok (.istore_n 1, 1) := by decide +kernel
theorem dX12_takes_142 : decode cX12_takes 142 = .ok (.iload_n 1, 1) := by decide +kernel
theorem dX12_takes_143 : decode cX12_takes 143 = .ok (.aload_n 0, 1) := by decide +kernel
theorem dX12_takes_144 : decode cX12_takes 144 = .ok (.getfield 13, 3) := by decide +kernel
theorem dX12_takes_147 : decode cX12_takes 147 = .ok (.iconst 4, 1) := by decide +kernel
theorem dX12_takes_148 : decode cX12_takes 148 = .ok (.iaload, 1) := by decide +kernel
theorem dX12_takes_149 : decode cX12_takes 149 = .ok (.if_icmp .ge 63, 3) := by decide +kernel
theorem dX12_takes_152 : decode cX12_takes 152 = .ok (.aload_n 0, 1) := by decide +kernel
theorem dX12_takes_153 : decode cX12_takes 153 = .ok (.getfield 29, 3) := by decide +kernel
theorem dX12_takes_156 : decode cX12_takes 156 = .ok (.iconst 1, 1) := by decide +kernel
theorem dX12_takes_157 : decode cX12_takes 157 = .ok (.iload_n 1, 1) := by decide +kernel
theorem dX12_takes_158 : decode cX12_takes 158 = .ok (.iadd, 1) := by decide +kernel
theorem dX12_takes_159 : decode cX12_takes 159 = .ok (.aload_n 0, 1) := by decide +kernel
theorem dX12_takes_160 : decode cX12_takes 160 = .ok (.getfield 26, 3) := by decide +kernel
theorem dX12_takes_163 : decode cX12_takes 163 = .ok (.iconst 3, 1) := by decide +kernel
theorem dX12_takes_164 : decode cX12_takes 164 = .ok (.iload_n 1, 1) := by decide +kernel
theorem dX12_takes_165 : decode cX12_takes 165 = .ok (.imul, 1) := by decide +kernel
theorem dX12_takes_166 : decode cX12_takes 166 = .ok (.iaload, 1) := by decide +kernel
theorem dX12_takes_167 : decode cX12_takes 167 = .ok (.iastore, 1) := by decide +kernel
theorem dX12_takes_168 : decode cX12_takes 168 = .ok (.aload_n 0, 1) := by decide +kernel
theorem dX12_takes_169 : decode cX12_takes 169 = .ok (.getfield 29, 3) := by decide +kernel
theorem dX12_takes_172 : decode cX12_takes 172 = .ok (.bipush 8, 2) := by decide +kernel
theorem dX12_takes_174 : decode cX12_takes 174 = .ok (.iload_n 1, 1) := by decide +kernel
theorem dX12_takes_175 : decode cX12_takes 175 = .ok (.iadd, 1) := by decide +kernel
theorem dX12_takes_176 : decode cX12_takes 176 = .ok (.aload_n 0, 1) := by decide +kernel
theorem dX12_takes_177 : decode cX12_takes 177 = .ok (.getfield 26, 3) := by decide +kernel
theorem dX12_takes_180 : decode cX12_takes 180 = .ok (.iconst 3, 1) := by decide +kernel
theorem dX12_takes_181 : decode cX12_takes 181 = .ok (.iload_n 1, 1) := by decide +kernel
theorem dX12_takes_182 : decode cX12_takes 182 = .ok (.imul, 1) := by decide +kernel
theorem dX12_takes_183 : decode cX12_takes 183 = .ok (.iconst 1, 1) := by decide +kernel
theorem dX12_takes_184 : decode cX12_takes 184 = .ok (.iadd, 1) := by decide +kernel
theorem dX12_takes_185 : decode cX12_takes 185 = .ok (.iaload, 1) := by decide +kernel
theorem dX12_takes_186 : decode cX12_takes 186 = .ok (.iastore, 1) := by decide +kernel
theorem dX12_takes_187 : decode cX12_takes 187 = .ok (.aload_n 0, 1) := by decide +kernel
theorem dX12_takes_188 : decode cX12_takes 188 = .ok (.getfield 29, 3) := by decide +kernel
theorem dX12_takes_191 : decode cX12_takes 191 = .ok (.bipush 15, 2) := by decide +kernel
theorem dX12_takes_193 : decode cX12_takes 193 = .ok (.iload_n 1, 1) := by decide +kernel
theorem dX12_takes_194 : decode cX12_takes 194 = .ok (.iadd, 1) := by decide +kernel
theorem dX12_takes_195 : decode cX12_takes 195 = .ok (.aload_n 0, 1) := by decide +kernel
theorem dX12_takes_196 : decode cX12_takes 196 = .ok (.getfield 26, 3) := by decide +kernel
theorem dX12_takes_199 : decode cX12_takes 199 = .ok (.iconst 3, 1) := by decide +kernel
theorem dX12_takes_200 : decode cX12_takes 200 = .ok (.iload_n 1, 1) := by decide +kernel
theorem dX12_takes_201 : decode cX12_takes 201 = .ok (.imul, 1) := by decide +kernel
theorem dX12_takes_202 : decode cX12_takes 202 = .ok (.iconst 2, 1) := by decide +kernel
theorem dX12_takes_203 : decode cX12_takes 203 = .ok (.iadd, 1) := by decide +kernel
theorem dX12_takes_204 : decode cX12_takes 204 = .ok (.iaload, 1) := by decide +kernel
theorem dX12_takes_205 : decode cX12_takes 205 = .ok (.iastore, 1) := by decide +kernel
theorem dX12_takes_206 : decode cX12_takes 206 = .ok (.iinc 1 1, 3) := by decide +kernel
theorem dX12_takes_209 : decode cX12_takes 209 = .ok (.goto (-67), 3) := by decide +kernel
theorem dX12_takes_212 : decode cX12_takes 212 = .ok (.iconst 0, 1) := by decide +kernel
theorem dX12_takes_213 : decode cX12_takes 213 = .ok (.istore_n 1, 1) := by decide +kernel
theorem dX12_takes_214 : decode cX12_takes 214 = .ok (.iload_n 1, 1) := by decide +kernel
theorem dX12_takes_215 : decode cX12_takes 215 = .ok (.aload_n 0, 1) := by decide +kernel
theorem dX12_takes_216 : decode cX12_takes 216 = .ok (.getfield 13, 3) := by decide +kernel
theorem dX12_takes_219 : decode cX12_takes 219 = .ok (.iconst 2, 1) := by decide +kernel
theorem dX12_takes_220 : decode cX12_takes 220 = .ok (.iaload, 1) := by decide +kernel
theorem dX12_takes_221 : decode cX12_takes 221 = .ok (.if_icmp .ge 26, 3) := by decide +kernel
theorem dX12_takes_224 : decode cX12_takes 224 = .ok (.aload_n 0, 1) := by decide +kernel
theorem dX12_takes_225 : decode cX12_takes 225 = .ok (.getfield 29, 3) := by decide +kernel
theorem dX12_takes_228 : decode cX12_takes 228 = .ok (.bipush 29, 2) := by decide +kernel
theorem dX12_takes_230 : decode cX12_takes 230 = .ok (.iload_n 1, 1) := by decide +kernel
theorem dX12_takes_231 : decode cX12_takes 231 = .ok (.iadd, 1) := by decide +kernel
theorem dX12_takes_232 : decode cX12_takes 232 = .ok (.aload_n 0, 1) := by decide +kernel
theorem dX12_takes_233 : decode cX12_takes 233 = .ok (.getfield 20, 3) := by decide +kernel
theorem dX12_takes_236 : decode cX12_takes 236 = .ok (.iconst 4, 1) := by decide +kernel
theorem dX12_takes_237 : decode cX12_takes 237 = .ok (.iload_n 1, 1) := by decide +kernel
theorem dX12_takes_238 : decode cX12_takes 238 = .ok (.imul, 1) := by decide +kernel
theorem dX12_takes_239 : decode cX12_takes 239 = .ok (.iaload, 1) := by decide +kernel
theorem dX12_takes_240 : decode cX12_takes 240 = .ok (.iastore, 1) := by decide +kernel
theorem dX12_takes_241 : decode cX12_takes 241 = .ok (.iinc 1 1, 3) := by decide +kernel
theorem dX12_takes_244 : decode cX12_takes 244 = .ok (.goto (-30), 3) := by decide +kernel
theorem dX12_takes_247 : decode cX12_takes 247 = .ok (.aload_n 0, 1) := by decide +kernel
theorem dX12_takes_248 : decode cX12_takes 248 = .ok (.iconst 0, 1) := by decide +kernel
theorem dX12_takes_249 : decode cX12_takes 249 = .ok (.putfield 101, 3) := by decide +kernel
theorem dX12_takes_252 : decode cX12_takes 252 = .ok (.aload_n 0, 1) := by decide +kernel
theorem dX12_takes_253 : decode cX12_takes 253 = .ok (.iconst 0, 1) := by decide +kernel
theorem dX12_takes_254 : decode cX12_takes 254 = .ok (.putfield 105, 3) := by decide +kernel
theorem dX12_takes_257 : decode cX12_takes 257 = .ok (.aload_n 0, 1) := by decide +kernel
theorem dX12_takes_258 : decode cX12_takes 258 = .ok (.iconst 0, 1) := by decide +kernel
theorem dX12_takes_259 : decode cX12_takes 259 = .ok (.putfield 108, 3) := by decide +kernel
theorem dX12_takes_262 : decode cX12_takes 262 = .ok (.aload_n 0, 1) := by decide +kernel
theorem dX12_takes_263 : decode cX12_takes 263 = .ok (.iconst 0, 1) := by decide +kernel
theorem dX12_takes_264 : decode cX12_takes 264 = .ok (.putfield 111, 3) := by decide +kernel
theorem dX12_takes_267 : decode cX12_takes 267 = .ok (.aload_n 0, 1) := by decide +kernel
theorem dX12_takes_268 : decode cX12_takes 268 = .ok (.iconst 0, 1) := by decide +kernel
theorem dX12_takes_269 : decode cX12_takes 269 = .ok (.putfield 114, 3) := by decide +kernel
theorem dX12_takes_272 : decode cX12_takes 272 = .ok (.return_, 1) := by decide +kernel
theorem dX12_fault_0 : decode cX12_fault 0 = .ok (.aload_n 0, 1) := by decide +kernel
theorem dX12_fault_1 : decode cX12_fault 1 = .ok (.iconst 0, 1) := by decide +kernel
theorem dX12_fault_2 : decode cX12_fault 2 = .ok (.putfield 70, 3) := by decide +kernel
theorem dX12_fault_5 : decode cX12_fault 5 = .ok (.aload_n 0, 1) := by decide +kernel
theorem dX12_fault_6 : decode cX12_fault 6 = .ok (.invokevirtual 52, 3) := by decide +kernel
theorem dX12_fault_9 : decode cX12_fault 9 = .ok (.aload_n 0, 1) := by decide +kernel
theorem dX12_fault_10 : decode cX12_fault 10 = .ok (.getfield 70, 3) := by decide +kernel
theorem dX12_fault_13 : decode cX12_fault 13 = .ok (.aload_n 0, 1) := by decide +kernel
theorem dX12_fault_14 : decode cX12_fault 14 = .ok (.getfield 66, 3) := by decide +kernel
theorem dX12_fault_17 : decode cX12_fault 17 = .ok (.if_icmp .ge 20, 3) := by decide +kernel
theorem dX12_fault_20 : decode cX12_fault 20 = .ok (.aload_n 0, 1) := by decide +kernel
theorem dX12_fault_21 : decode cX12_fault 21 = .ok (.getfield 70, 3) := by decide +kernel
theorem dX12_fault_24 : decode cX12_fault 24 = .ok (.istore_n 1, 1) := by decide +kernel
theorem dX12_fault_25 : decode cX12_fault 25 = .ok (.aload_n 0, 1) := by decide +kernel
theorem dX12_fault_26 : decode cX12_fault 26 = .ok (.invokevirtual 117, 3) := by decide +kernel
theorem dX12_fault_29 : decode cX12_fault 29 = .ok (.ifCond .ne 5, 3) := by decide +kernel
theorem dX12_fault_32 : decode cX12_fault 32 = .ok (.iload_n 1, 1) := by decide +kernel
theorem dX12_fault_33 : decode cX12_fault 33 = .ok (.ireturn, 1) := by decide +kernel
theorem dX12_fault_34 : decode cX12_fault 34 = .ok (.goto (-25), 3) := by decide +kernel
theorem dX12_fault_37 : decode cX12_fault 37 = .ok (.bipush (-4), 2) := by decide +kernel
theorem dX12_fault_39 : decode cX12_fault 39 = .ok (.ireturn, 1) := by decide +kernel
theorem dX12_isSound_0 : decode cX12_isSound 0 = .ok (.aload_n 0, 1) := by decide +kernel
theorem dX12_isSound_1 : decode cX12_isSound 1 = .ok (.getfield 13, 3) := by decide +kernel
theorem dX12_isSound_4 : decode cX12_isSound 4 = .ok (.bipush 7, 2) := by decide +kernel
theorem dX12_isSound_6 : decode cX12_isSound 6 = .ok (.iaload, 1) := by decide +kernel
theorem dX12_isSound_7 : decode cX12_isSound 7 = .ok (.ifCond .le 7, 3) := by decide +kernel
theorem dX12_isSound_10 : decode cX12_isSound 10 = .ok (.iconst 1, 1) := by decide +kernel
theorem dX12_isSound_11 : decode cX12_isSound 11 = .ok (.goto 4, 3) := by decide +kernel
theorem dX12_isSound_14 : decode cX12_isSound 14 = .ok (.iconst 0, 1) := by decide +kernel
theorem dX12_isSound_15 : decode cX12_isSound 15 = .ok (.istore_n 1, 1) := by decide +kernel
theorem dX12_isSound_16 : decode cX12_isSound 16 = .ok (.iconst 0, 1) := by decide +kernel
theorem dX12_isSound_17 : decode cX12_isSound 17 = .ok (.istore_n 2, 1) := by decide +kernel
theorem dX12_isSound_18 : decode cX12_isSound 18 = .ok (.iload_n 2, 1) := by decide +kernel
theorem dX12_isSound_19 : decode cX12_isSound 19 = .ok (.aload_n 0, 1) := by decide +kernel
theorem dX12_isSound_20 : decode cX12_isSound 20 = .ok (.getfield 13, 3) := by decide +kernel
theorem dX12_isSound_23 : decode cX12_isSound 23 = .ok (.bipush 10, 2) := by decide +kernel
theorem dX12_isSound_25 : decode cX12_isSound 25 = .ok (.iaload, 1) := by decide +kernel
theorem dX12_isSound_26 : decode cX12_isSound 26 = .ok (.if_icmp .ge 40, 3) := by decide +kernel
theorem dX12_isSound_29 : decode cX12_isSound 29 = .ok (.iload_n 1, 1) := by decide +kernel
theorem dX12_isSound_30 : decode cX12_isSound 30 = .ok (.ifCond .eq 28, 3) := by decide +kernel
theorem dX12_isSound_33 : decode cX12_isSound 33 = .ok (.aload_n 0, 1) := by decide +kernel
theorem dX12_isSound_34 : decode cX12_isSound 34 = .ok (.getfield 26, 3) := by decide +kernel
theorem dX12_isSound_37 : decode cX12_isSound 37 = .ok (.bipush 15, 2) := by decide +kernel
theorem dX12_isSound_39 : decode cX12_isSound 39 = .ok (.iconst 3, 1) := by decide +kernel
theorem dX12_isSound_40 : decode cX12_isSound 40 = .ok (.iload_n 2, 1) := by decide +kernel
theorem dX12_isSound_41 : decode cX12_isSound 41 = .ok (.imul, 1) := by decide +kernel
theorem dX12_isSound_42 : decode cX12_isSound 42 = .ok (.iadd, 1) := by decide +kernel
theorem dX12_isSound_43 : decode cX12_isSound 43 = .ok (.iaload, 1) := by decide +kernel
theorem dX12_isSound_44 : decode cX12_isSound 44 = .ok (.aload_n 0, 1) := by decide +kernel
theorem dX12_isSound_45 : decode cX12_isSound 45 = .ok (.getfield 13, 3) := by decide +kernel
theorem dX12_isSound_48 : decode cX12_isSound 48 = .ok (.bipush 7, 2) := by decide +kernel
theorem dX12_isSound_50 : decode cX12_isSound 50 = .ok (.iaload, 1) := by decide +kernel
theorem dX12_isSound_51 : decode cX12_isSound 51 = .ok (.if_icmp .ge 7, 3) := by decide +kernel
theorem dX12_isSound_54 : decode cX12_isSound 54 = .ok (.iconst 1, 1) := by decide +kernel
theorem dX12_isSound_55 : decode cX12_isSound 55 = .ok (.goto 4, 3) := by decide +kernel
theorem dX12_isSound_58 : decode cX12_isSound 58 = .ok (.iconst 0, 1) := by decide +kernel
theorem dX12_isSound_59 : decode cX12_isSound 59 = .ok (.istore_n 1, 1) := by decide +kernel
theorem dX12_isSound_60 : decode cX12_isSound 60 = .ok (.iinc 2 1, 3) := by decide +kernel
theorem dX12_isSound_63 : decode cX12_isSound 63 = .ok (.goto (-45), 3) := by decide +kernel
theorem dX12_isSound_66 : decode cX12_isSound 66 = .ok (.iconst 0, 1) := by decide +kernel
theorem dX12_isSound_67 : decode cX12_isSound 67 = .ok (.istore_n 2, 1) := by decide +kernel
theorem dX12_isSound_68 : decode cX12_isSound 68 = .ok (.iload_n 2, 1) := by decide +kernel
theorem dX12_isSound_69 : decode cX12_isSound 69 = .ok (.aload_n 0, 1) := by decide +kernel
theorem dX12_isSound_70 : decode cX12_isSound 70 = .ok (.getfield 13, 3) := by decide +kernel
theorem dX12_isSound_73 : decode cX12_isSound 73 = .ok (.bipush 9, 2) := by decide +kernel
theorem dX12_isSound_75 : decode cX12_isSound 75 = .ok (.iaload, 1) := by decide +kernel
theorem dX12_isSound_76 : decode cX12_isSound 76 = .ok (.if_icmp .ge 40, 3) := by decide +kernel
theorem dX12_isSound_79 : decode cX12_isSound 79 = .ok (.iload_n 1, 1) := by decide +kernel
theorem dX12_isSound_80 : decode cX12_isSound 80 = .ok (.ifCond .eq 28, 3) := by decide +kernel
theorem dX12_isSound_83 : decode cX12_isSound 83 = .ok (.aload_n 0, 1) := by decide +kernel
theorem dX12_isSound_84 : decode cX12_isSound 84 = .ok (.getfield 23, 3) := by decide +kernel
theorem dX12_isSound_87 : decode cX12_isSound 87 = .ok (.bipush 16, 2) := by decide +kernel
theorem dX12_isSound_89 : decode cX12_isSound 89 = .ok (.iconst 2, 1) := by decide +kernel
theorem dX12_isSound_90 : decode cX12_isSound 90 = .ok (.iload_n 2, 1) := by decide +kernel
theorem dX12_isSound_91 : decode cX12_isSound 91 = .ok (.imul, 1) := by decide +kernel
theorem dX12_isSound_92 : decode cX12_isSound 92 = .ok (.iadd, 1) := by decide +kernel
theorem dX12_isSound_93 : decode cX12_isSound 93 = .ok (.iaload, 1) := by decide +kernel
theorem dX12_isSound_94 : decode cX12_isSound 94 = .ok (.aload_n 0, 1) := by decide +kernel
theorem dX12_isSound_95 : decode cX12_isSound 95 = .ok (.getfield 13, 3) := by decide +kernel
theorem dX12_isSound_98 : decode cX12_isSound 98 = .ok (.bipush 7, 2) := by decide +kernel
theorem dX12_isSound_100 : decode cX12_isSound 100 = .ok (.iaload, 1) := by decide +kernel
theorem dX12_isSound_101 : decode cX12_isSound 101 = .ok (.if_icmp .ge 7, 3) := by decide +kernel
theorem dX12_isSound_104 : decode cX12_isSound 104 = .ok (.iconst 1, 1) := by decide +kernel
theorem dX12_isSound_105 : decode cX12_isSound 105 = .ok (.goto 4, 3) := by decide +kernel
theorem dX12_isSound_108 : decode cX12_isSound 108 = .ok (.iconst 0, 1) := by decide +kernel
theorem dX12_isSound_109 : decode cX12_isSound 109 = .ok (.istore_n 1, 1) := by decide +kernel
theorem dX12_isSound_110 : decode cX12_isSound 110 = .ok (.iinc 2 1, 3) := by decide +kernel
theorem dX12_isSound_113 : decode cX12_isSound 113 = .ok (.goto (-45), 3) := by decide +kernel
theorem dX12_isSound_116 : decode cX12_isSound 116 = .ok (.iconst 0, 1) := by decide +kernel
theorem dX12_isSound_117 : decode cX12_isSound 117 = .ok (.istore_n 2, 1) := by decide +kernel
theorem dX12_isSound_118 : decode cX12_isSound 118 = .ok (.iload_n 2, 1) := by decide +kernel
theorem dX12_isSound_119 : decode cX12_isSound 119 = .ok (.aload_n 0, 1) := by decide +kernel
theorem dX12_isSound_120 : decode cX12_isSound 120 = .ok (.getfield 13, 3) := by decide +kernel
theorem dX12_isSound_123 : decode cX12_isSound 123 = .ok (.bipush 8, 2) := by decide +kernel
theorem dX12_isSound_125 : decode cX12_isSound 125 = .ok (.iaload, 1) := by decide +kernel
theorem dX12_isSound_126 : decode cX12_isSound 126 = .ok (.if_icmp .ge 178, 3) := by decide +kernel
theorem dX12_isSound_129 : decode cX12_isSound 129 = .ok (.aload_n 0, 1) := by decide +kernel
theorem dX12_isSound_130 : decode cX12_isSound 130 = .ok (.getfield 20, 3) := by decide +kernel
theorem dX12_isSound_133 : decode cX12_isSound 133 = .ok (.bipush 24, 2) := by decide +kernel
theorem dX12_isSound_135 : decode cX12_isSound 135 = .ok (.iconst 4, 1) := by decide +kernel
theorem dX12_isSound_136 : decode cX12_isSound 136 = .ok (.iload_n 2, 1) := by decide +kernel
theorem dX12_isSound_137 : decode cX12_isSound 137 = .ok (.imul, 1) := by decide +kernel
theorem dX12_isSound_138 : decode cX12_isSound 138 = .ok (.iadd, 1) := by decide +kernel
theorem dX12_isSound_139 : decode cX12_isSound 139 = .ok (.iaload, 1) := by decide +kernel
theorem dX12_isSound_140 : decode cX12_isSound 140 = .ok (.istore_n 3, 1) := by decide +kernel
theorem dX12_isSound_141 : decode cX12_isSound 141 = .ok (.aload_n 0, 1) := by decide +kernel
theorem dX12_isSound_142 : decode cX12_isSound 142 = .ok (.getfield 20, 3) := by decide +kernel
theorem dX12_isSound_145 : decode cX12_isSound 145 = .ok (.bipush 25, 2) := by decide +kernel
theorem dX12_isSound_147 : decode cX12_isSound 147 = .ok (.iconst 4, 1) := by decide +kernel
theorem dX12_isSound_148 : decode cX12_isSound 148 = .ok (.iload_n 2, 1) := by decide +kernel
theorem dX12_isSound_149 : decode cX12_isSound 149 = .ok (.imul, 1) := by decide +kernel
theorem dX12_isSound_150 : decode cX12_isSound 150 = .ok (.iadd, 1) := by decide +kernel
theorem dX12_isSound_151 : decode cX12_isSound 151 = .ok (.iaload, 1) := by decide +kernel
theorem dX12_isSound_152 : decode cX12_isSound 152 = .ok (.istore 4, 2) := by decide +kernel
theorem dX12_isSound_154 : decode cX12_isSound 154 = .ok (.iload_n 1, 1) := by decide +kernel
theorem dX12_isSound_155 : decode cX12_isSound 155 = .ok (.ifCond .eq 19, 3) := by decide +kernel
theorem dX12_isSound_158 : decode cX12_isSound 158 = .ok (.iload 4, 2) := by decide +kernel
theorem dX12_isSound_160 : decode cX12_isSound 160 = .ok (.aload_n 0, 1) := by decide +kernel
theorem dX12_isSound_161 : decode cX12_isSound 161 = .ok (.getfield 13, 3) := by decide +kernel
theorem dX12_isSound_164 : decode cX12_isSound 164 = .ok (.bipush 7, 2) := by decide +kernel
theorem dX12_isSound_166 : decode cX12_isSound 166 = .ok (.iaload, 1) := by decide +kernel
theorem dX12_isSound_167 : decode cX12_isSound 167 = .ok (.if_icmp .ge 7, 3) := by decide +kernel
theorem dX12_isSound_170 : decode cX12_isSound 170 = .ok (.iconst 1, 1) := by decide +kernel
theorem dX12_isSound_171 : decode cX12_isSound 171 = .ok (.goto 4, 3) := by decide +kernel
theorem dX12_isSound_174 : decode cX12_isSound 174 = .ok (.iconst 0, 1) := by decide +kernel
theorem dX12_isSound_175 : decode cX12_isSound 175 = .ok (.istore_n 1, 1) := by decide +kernel
theorem dX12_isSound_176 : decode cX12_isSound 176 = .ok (.iconst 0, 1) := by decide +kernel
theorem dX12_isSound_177 : decode cX12_isSound 177 = .ok (.istore 5, 2) := by decide +kernel
theorem dX12_isSound_179 : decode cX12_isSound 179 = .ok (.iload 5, 2) := by decide +kernel
theorem dX12_isSound_181 : decode cX12_isSound 181 = .ok (.aload_n 0, 1) := by decide +kernel
theorem dX12_isSound_182 : decode cX12_isSound 182 = .ok (.getfield 13, 3) := by decide +kernel
theorem dX12_isSound_185 : decode cX12_isSound 185 = .ok (.bipush 9, 2) := by decide +kernel
theorem dX12_isSound_187 : decode cX12_isSound 187 = .ok (.iaload, 1) := by decide +kernel
theorem dX12_isSound_188 : decode cX12_isSound 188 = .ok (.if_icmp .ge 52, 3) := by decide +kernel
theorem dX12_isSound_191 : decode cX12_isSound 191 = .ok (.iload_n 1, 1) := by decide +kernel
theorem dX12_isSound_192 : decode cX12_isSound 192 = .ok (.ifCond .eq 40, 3) := by decide +kernel
theorem dX12_isSound_195 : decode cX12_isSound 195 = .ok (.aload_n 0, 1) := by decide +kernel
theorem dX12_isSound_196 : decode cX12_isSound 196 = .ok (.getfield 23, 3) := by decide +kernel
theorem dX12_isSound_199 : decode cX12_isSound 199 = .ok (.bipush 16, 2) := by decide +kernel
theorem dX12_isSound_201 : decode cX12_isSound 201 = .ok (.iconst 2, 1) := by decide +kernel
theorem dX12_isSound_202 : decode cX12_isSound 202 = .ok (.iload 5, 2) := by decide +kernel
theorem dX12_isSound_204 : decode cX12_isSound 204 = .ok (.imul, 1) := by decide +kernel
theorem dX12_isSound_205 : decode cX12_isSound 205 = .ok (.iadd, 1) := by decide +kernel
theorem dX12_isSound_206 : decode cX12_isSound 206 = .ok (.iaload, 1) := by decide +kernel
theorem dX12_isSound_207 : decode cX12_isSound 207 = .ok (.iload 4, 2) := by decide +kernel
theorem dX12_isSound_209 : decode cX12_isSound 209 = .ok (.if_icmp .ne 19, 3) := by decide +kernel
theorem dX12_isSound_212 : decode cX12_isSound 212 = .ok (.aload_n 0, 1) := by decide +kernel
theorem dX12_isSound_213 : decode cX12_isSound 213 = .ok (.getfield 23, 3) := by decide +kernel
theorem dX12_isSound_216 : decode cX12_isSound 216 = .ok (.bipush 17, 2) := by decide +kernel
theorem dX12_isSound_218 : decode cX12_isSound 218 = .ok (.iconst 2, 1) := by decide +kernel
theorem dX12_isSound_219 : decode cX12_isSound 219 = .ok (.iload 5, 2) := by decide +kernel
theorem dX12_isSound_221 : decode cX12_isSound 221 = .ok (.imul, 1) := by decide +kernel
theorem dX12_isSound_222 : decode cX12_isSound 222 = .ok (.iadd, 1) := by decide +kernel
theorem dX12_isSound_223 : decode cX12_isSound 223 = .ok (.iaload, 1) := by decide +kernel
theorem dX12_isSound_224 : decode cX12_isSound 224 = .ok (.iload_n 3, 1) := by decide +kernel
theorem dX12_isSound_225 : decode cX12_isSound 225 = .ok (.if_icmp .eq 7, 3) := by decide +kernel
theorem dX12_isSound_228 : decode cX12_isSound 228 = .ok (.iconst 1, 1) := by decide +kernel
theorem dX12_isSound_229 : decode cX12_isSound 229 = .ok (.goto 4, 3) := by decide +kernel
theorem dX12_isSound_232 : decode cX12_isSound 232 = .ok (.iconst 0, 1) := by decide +kernel
theorem dX12_isSound_233 : decode cX12_isSound 233 = .ok (.istore_n 1, 1) := by decide +kernel
theorem dX12_isSound_234 : decode cX12_isSound 234 = .ok (.iinc 5 1, 3) := by decide +kernel
theorem dX12_isSound_237 : decode cX12_isSound 237 = .ok (.goto (-58), 3) := by decide +kernel
theorem dX12_isSound_240 : decode cX12_isSound 240 = .ok (.iconst 0, 1) := by decide +kernel
theorem dX12_isSound_241 : decode cX12_isSound 241 = .ok (.istore 5, 2) := by decide +kernel
theorem dX12_isSound_243 : decode cX12_isSound 243 = .ok (.iload 5, 2) := by decide +kernel
theorem dX12_isSound_245 : decode cX12_isSound 245 = .ok (.iload_n 2, 1) := by decide +kernel
theorem dX12_isSound_246 : decode cX12_isSound 246 = .ok (.if_icmp .ge 52, 3) := by decide +kernel
theorem dX12_isSound_249 : decode cX12_isSound 249 = .ok (.iload_n 1, 1) := by decide +kernel
theorem dX12_isSound_250 : decode cX12_isSound 250 = .ok (.ifCond .eq 40, 3) := by decide +kernel
theorem dX12_isSound_253 : decode cX12_isSound 253 = .ok (.aload_n 0, 1) := by decide +kernel
theorem dX12_isSound_254 : decode cX12_isSound 254 = .ok (.getfield 20, 3) := by decide +kernel
theorem dX12_isSound_257 : decode cX12_isSound 257 = .ok (.bipush 24, 2) := by decide +kernel
theorem dX12_isSound_259 : decode cX12_isSound 259 = .ok (.iconst 4, 1) := by decide +kernel
theorem dX12_isSound_260 : decode cX12_isSound 260 = .ok (.iload 5, 2) := by decide +kernel
theorem dX12_isSound_262 : decode cX12_isSound 262 = .ok (.imul, 1) := by decide +kernel
theorem dX12_isSound_263 : decode cX12_isSound 263 = .ok (.iadd, 1) := by decide +kernel
theorem dX12_isSound_264 : decode cX12_isSound 264 = .ok (.iaload, 1) := by decide +kernel
theorem dX12_isSound_265 : decode cX12_isSound 265 = .ok (.iload_n 3, 1) := by decide +kernel
theorem dX12_isSound_266 : decode cX12_isSound 266 = .ok (.if_icmp .ne 20, 3) := by decide +kernel
theorem dX12_isSound_269 : decode cX12_isSound 269 = .ok (.aload_n 0, 1) := by decide +kernel
theorem dX12_isSound_270 : decode cX12_isSound 270 = .ok (.getfield 20, 3) := by decide +kernel
theorem dX12_isSound_273 : decode cX12_isSound 273 = .ok (.bipush 25, 2) := by decide +kernel
theorem dX12_isSound_275 : decode cX12_isSound 275 = .ok (.iconst 4, 1) := by decide +kernel
theorem dX12_isSound_276 : decode cX12_isSound 276 = .ok (.iload 5, 2) := by decide +kernel
theorem dX12_isSound_278 : decode cX12_isSound 278 = .ok (.imul, 1) := by decide +kernel
theorem dX12_isSound_279 : decode cX12_isSound 279 = .ok (.iadd, 1) := by decide +kernel
theorem dX12_isSound_280 : decode cX12_isSound 280 = .ok (.iaload, 1) := by decide +kernel
theorem dX12_isSound_281 : decode cX12_isSound 281 = .ok (.iload 4, 2) := by decide +kernel
theorem dX12_isSound_283 : decode cX12_isSound 283 = .ok (.if_icmp .eq 7, 3) := by decide +kernel
theorem dX12_isSound_286 : decode cX12_isSound 286 = .ok (.iconst 1, 1) := by decide +kernel
theorem dX12_isSound_287 : decode cX12_isSound 287 = .ok (.goto 4, 3) := by decide +kernel
theorem dX12_isSound_290 : decode cX12_isSound 290 = .ok (.iconst 0, 1) := by decide +kernel
theorem dX12_isSound_291 : decode cX12_isSound 291 = .ok (.istore_n 1, 1) := by decide +kernel
theorem dX12_isSound_292 : decode cX12_isSound 292 = .ok (.iinc 5 1, 3) := by decide +kernel
theorem dX12_isSound_295 : decode cX12_isSound 295 = .ok (.goto (-52), 3) := by decide +kernel
theorem dX12_isSound_298 : decode cX12_isSound 298 = .ok (.iinc 2 1, 3) := by decide +kernel
theorem dX12_isSound_301 : decode cX12_isSound 301 = .ok (.goto (-183), 3) := by decide +kernel
theorem dX12_isSound_304 : decode cX12_isSound 304 = .ok (.iload_n 1, 1) := by decide +kernel
theorem dX12_isSound_305 : decode cX12_isSound 305 = .ok (.ireturn, 1) := by decide +kernel
theorem dX12_lay_0 : decode cX12_lay 0 = .ok (.aload_n 0, 1) := by decide +kernel
theorem dX12_lay_1 : decode cX12_lay 1 = .ok (.invokevirtual 121, 3) := by decide +kernel
theorem dX12_lay_4 : decode cX12_lay 4 = .ok (.bipush (-4), 2) := by decide +kernel
theorem dX12_lay_6 : decode cX12_lay 6 = .ok (.if_icmp .ne 10, 3) := by decide +kernel
theorem dX12_lay_9 : decode cX12_lay 9 = .ok (.aload_n 0, 1) := by decide +kernel
theorem dX12_lay_10 : decode cX12_lay 10 = .ok (.invokevirtual 124, 3) := by decide +kernel
theorem dX12_lay_13 : decode cX12_lay 13 = .ok (.ifCond .ne 6, 3) := by decide +kernel
theorem dX12_lay_16 : decode cX12_lay 16 = .ok (.bipush (-2), 2) := by decide +kernel
theorem dX12_lay_18 : decode cX12_lay 18 = .ok (.ireturn, 1) := by decide +kernel
theorem dX12_lay_19 : decode cX12_lay 19 = .ok (.aload_n 0, 1) := by decide +kernel
theorem dX12_lay_20 : decode cX12_lay 20 = .ok (.invokevirtual 55, 3) := by decide +kernel
theorem dX12_lay_23 : decode cX12_lay 23 = .ok (.aload_n 0, 1) := by decide +kernel
theorem dX12_lay_24 : decode cX12_lay 24 = .ok (.getfield 13, 3) := by decide +kernel
theorem dX12_lay_27 : decode cX12_lay 27 = .ok (.iconst 1, 1) := by decide +kernel
theorem dX12_lay_28 : decode cX12_lay 28 = .ok (.iaload, 1) := by decide +kernel
theorem dX12_lay_29 : decode cX12_lay 29 = .ok (.ireturn, 1) := by decide +kernel
theorem dX12_isLevel_0 : decode cX12_isLevel 0 = .ok (.iload_n 1, 1) := by decide +kernel
theorem dX12_isLevel_1 : decode cX12_isLevel 1 = .ok (.i2l, 1) := by decide +kernel
theorem dX12_isLevel_2 : decode cX12_isLevel 2 = .ok (.lconst 0, 1) := by decide +kernel
theorem dX12_isLevel_3 : decode cX12_isLevel 3 = .ok (.aload_n 0, 1) := by decide +kernel
theorem dX12_isLevel_4 : decode cX12_isLevel 4 = .ok (.getfield 13, 3) := by decide +kernel
theorem dX12_isLevel_7 : decode cX12_isLevel 7 = .ok (.iconst 1, 1) := by decide +kernel
theorem dX12_isLevel_8 : decode cX12_isLevel 8 = .ok (.iaload, 1) := by decide +kernel
theorem dX12_isLevel_9 : decode cX12_isLevel 9 = .ok (.iconst 1, 1) := by decide +kernel
theorem dX12_isLevel_10 : decode cX12_isLevel 10 = .ok (.isub, 1) := by decide +kernel
theorem dX12_isLevel_11 : decode cX12_isLevel 11 = .ok (.i2l, 1) := by decide +kernel
theorem dX12_isLevel_12 : decode cX12_isLevel 12 = .ok (.invokestatic 62, 3) := by decide +kernel
theorem dX12_isLevel_15 : decode cX12_isLevel 15 = .ok (.ireturn, 1) := by decide +kernel
theorem dX12_isPlace_0 : decode cX12_isPlace 0 = .ok (.iload_n 1, 1) := by decide +kernel
theorem dX12_isPlace_1 : decode cX12_isPlace 1 = .ok (.i2l, 1) := by decide +kernel
theorem dX12_isPlace_2 : decode cX12_isPlace 2 = .ok (.lconst 0, 1) := by decide +kernel
theorem dX12_isPlace_3 : decode cX12_isPlace 3 = .ok (.aload_n 0, 1) := by decide +kernel
theorem dX12_isPlace_4 : decode cX12_isPlace 4 = .ok (.getfield 13, 3) := by decide +kernel
theorem dX12_isPlace_7 : decode cX12_isPlace 7 = .ok (.iconst 0, 1) := by decide +kernel
theorem dX12_isPlace_8 : decode cX12_isPlace 8 = .ok (.iaload, 1) := by decide +kernel
theorem dX12_isPlace_9 : decode cX12_isPlace 9 = .ok (.iconst 1, 1) := by decide +kernel
theorem dX12_isPlace_10 : decode cX12_isPlace 10 = .ok (.isub, 1) := by decide +kernel
theorem dX12_isPlace_11 : decode cX12_isPlace 11 = .ok (.i2l, 1) := by decide +kernel
theorem dX12_isPlace_12 : decode cX12_isPlace 12 = .ok (.invokestatic 62, 3) := by decide +kernel
theorem dX12_isPlace_15 : decode cX12_isPlace 15 = .ok (.ireturn, 1) := by decide +kernel
theorem dX12_isTown_0 : decode cX12_isTown 0 = .ok (.iload_n 1, 1) := by decide +kernel
theorem dX12_isTown_1 : decode cX12_isTown 1 = .ok (.i2l, 1) := by decide +kernel
theorem dX12_isTown_2 : decode cX12_isTown 2 = .ok (.lconst 0, 1) := by decide +kernel
theorem dX12_isTown_3 : decode cX12_isTown 3 = .ok (.aload_n 0, 1) := by decide +kernel
theorem dX12_isTown_4 : decode cX12_isTown 4 = .ok (.getfield 13, 3) := by decide +kernel
theorem dX12_isTown_7 : decode cX12_isTown 7 = .ok (.iconst 2, 1) := by decide +kernel
theorem dX12_isTown_8 : decode cX12_isTown 8 = .ok (.iaload, 1) := by decide +kernel
theorem dX12_isTown_9 : decode cX12_isTown 9 = .ok (.iconst 1, 1) := by decide +kernel
theorem dX12_isTown_10 : decode cX12_isTown 10 = .ok (.isub, 1) := by decide +kernel
theorem dX12_isTown_11 : decode cX12_isTown 11 = .ok (.i2l, 1) := by decide +kernel
theorem dX12_isTown_12 : decode cX12_isTown 12 = .ok (.invokestatic 62, 3) := by decide +kernel
theorem dX12_isTown_15 : decode cX12_isTown 15 = .ok (.ireturn, 1) := by decide +kernel
theorem dX12_isThing_0 : decode cX12_isThing 0 = .ok (.iload_n 1, 1) := by decide +kernel
theorem dX12_isThing_1 : decode cX12_isThing 1 = .ok (.i2l, 1) := by decide +kernel
theorem dX12_isThing_2 : decode cX12_isThing 2 = .ok (.lconst 0, 1) := by decide +kernel
theorem dX12_isThing_3 : decode cX12_isThing 3 = .ok (.aload_n 0, 1) := by decide +kernel
theorem dX12_isThing_4 : decode cX12_isThing 4 = .ok (.getfield 29, 3) := by decide +kernel
theorem dX12_isThing_7 : decode cX12_isThing 7 = .ok (.iconst 0, 1) := by decide +kernel
theorem dX12_isThing_8 : decode cX12_isThing 8 = .ok (.iaload, 1) := by decide +kernel
theorem dX12_isThing_9 : decode cX12_isThing 9 = .ok (.iconst 1, 1) := by decide +kernel
theorem dX12_isThing_10 : decode cX12_isThing 10 = .ok (.isub, 1) := by decide +kernel
theorem dX12_isThing_11 : decode cX12_isThing 11 = .ok (.i2l, 1) := by decide +kernel
theorem dX12_isThing_12 : decode cX12_isThing 12 = .ok (.invokestatic 62, 3) := by decide +kernel
theorem dX12_isThing_15 : decode cX12_isThing 15 = .ok (.ireturn, 1) := by decide +kernel
theorem dX12_isCut_0 : decode cX12_isCut 0 = .ok (.aload_n 0, 1) := by decide +kernel
theorem dX12_isCut_1 : decode cX12_isCut 1 = .ok (.getfield 29, 3) := by decide +kernel
theorem dX12_isCut_4 : decode cX12_isCut 4 = .ok (.bipush 35, 2) := by decide +kernel
theorem dX12_isCut_6 : decode cX12_isCut 6 = .ok (.iload_n 1, 1) := by decide +kernel
theorem dX12_isCut_7 : decode cX12_isCut 7 = .ok (.iadd, 1) := by decide +kernel
theorem dX12_isCut_8 : decode cX12_isCut 8 = .ok (.iaload, 1) := by decide +kernel
theorem dX12_isCut_9 : decode cX12_isCut 9 = .ok (.ifCond .le 7, 3) := by decide +kernel
theorem dX12_isCut_12 : decode cX12_isCut 12 = .ok (.iconst 1, 1) := by decide +kernel
theorem dX12_isCut_13 : decode cX12_isCut 13 = .ok (.goto 4, 3) := by decide +kernel
theorem dX12_isCut_16 : decode cX12_isCut 16 = .ok (.iconst 0, 1) := by decide +kernel
theorem dX12_isCut_17 : decode cX12_isCut 17 = .ok (.ireturn, 1) := by decide +kernel
theorem dX12_isMarket_0 : decode cX12_isMarket 0 = .ok (.iconst 0, 1) := by decide +kernel
theorem dX12_isMarket_1 : decode cX12_isMarket 1 = .ok (.istore_n 3, 1) := by decide +kernel
theorem dX12_isMarket_2 : decode cX12_isMarket 2 = .ok (.iconst 0, 1) := by decide +kernel
theorem dX12_isMarket_3 : decode cX12_isMarket 3 = .ok (.istore 4, 2) := by decide +kernel
theorem dX12_isMarket_5 : decode cX12_isMarket 5 = .ok (.iload 4, 2) := by decide +kernel
theorem dX12_isMarket_7 : decode cX12_isMarket 7 = .ok (.aload_n 0, 1) := by decide +kernel
theorem dX12_isMarket_8 : decode cX12_isMarket 8 = .ok (.getfield 13, 3) := by decide +kernel
theorem dX12_isMarket_11 : decode cX12_isMarket 11 = .ok (.iconst 3, 1) := by decide +kernel
theorem dX12_isMarket_12 : decode cX12_isMarket 12 = .ok (.iaload, 1) := by decide +kernel
theorem dX12_isMarket_13 : decode cX12_isMarket 13 = .ok (.if_icmp .ge 47, 3) := by decide +kernel
theorem dX12_isMarket_16 : decode cX12_isMarket 16 = .ok (.iload_n 3, 1) := by decide +kernel
theorem dX12_isMarket_17 : decode cX12_isMarket 17 = .ok (.ifCond .ne 31, 3) := by decide +kernel
theorem dX12_isMarket_20 : decode cX12_isMarket 20 = .ok (.aload_n 0, 1) := by decide +kernel
theorem dX12_isMarket_21 : decode cX12_isMarket 21 = .ok (.getfield 23, 3) := by decide +kernel
theorem dX12_isMarket_24 : decode cX12_isMarket 24 = .ok (.iconst 2, 1) := by decide +kernel
theorem dX12_isMarket_25 : decode cX12_isMarket 25 = .ok (.iload 4, 2) := by decide +kernel
theorem dX12_isMarket_27 : decode cX12_isMarket 27 = .ok (.imul, 1) := by decide +kernel
theorem dX12_isMarket_28 : decode cX12_isMarket 28 = .ok (.iaload, 1) := by decide +kernel
theorem dX12_isMarket_29 : decode cX12_isMarket 29 = .ok (.iload_n 1, 1) := by decide +kernel
theorem dX12_isMarket_30 : decode cX12_isMarket 30 = .ok (.if_icmp .ne 22, 3) := by decide +kernel
theorem dX12_isMarket_33 : decode cX12_isMarket 33 = .ok (.aload_n 0, 1) := by decide +kernel
theorem dX12_isMarket_34 : decode cX12_isMarket 34 = .ok (.getfield 23, 3) := by decide +kernel
theorem dX12_isMarket_37 : decode cX12_isMarket 37 = .ok (.iconst 2, 1) := by decide +kernel
theorem dX12_isMarket_38 : decode cX12_isMarket 38 = .ok (.iload 4, 2) := by decide +kernel
theorem dX12_isMarket_40 : decode cX12_isMarket 40 = .ok (.imul, 1) := by decide +kernel
theorem dX12_isMarket_41 : decode cX12_isMarket 41 = .ok (.iconst 1, 1) := by decide +kernel
theorem dX12_isMarket_42 : decode cX12_isMarket 42 = .ok (.iadd, 1) := by decide +kernel
theorem dX12_isMarket_43 : decode cX12_isMarket 43 = .ok (.iaload, 1) := by decide +kernel
theorem dX12_isMarket_44 : decode cX12_isMarket 44 = .ok (.iload_n 2, 1) := by decide +kernel
theorem dX12_isMarket_45 : decode cX12_isMarket 45 = .ok (.if_icmp .ne 7, 3) := by decide +kernel
theorem dX12_isMarket_48 : decode cX12_isMarket 48 = .ok (.iconst 1, 1) := by decide +kernel
theorem dX12_isMarket_49 : decode cX12_isMarket 49 = .ok (.goto 4, 3) := by decide +kernel
theorem dX12_isMarket_52 : decode cX12_isMarket 52 = .ok (.iconst 0, 1) := by decide +kernel
theorem dX12_isMarket_53 : decode cX12_isMarket 53 = .ok (.istore_n 3, 1) := by decide +kernel
theorem dX12_isMarket_54 : decode cX12_isMarket 54 = .ok (.iinc 4 1, 3) := by decide +kernel
theorem dX12_isMarket_57 : decode cX12_isMarket 57 = .ok (.goto (-52), 3) := by decide +kernel
theorem dX12_isMarket_60 : decode cX12_isMarket 60 = .ok (.iload_n 3, 1) := by decide +kernel
theorem dX12_isMarket_61 : decode cX12_isMarket 61 = .ok (.ireturn, 1) := by decide +kernel
theorem dX12_levelOf_0 : decode cX12_levelOf 0 = .ok (.aload_n 0, 1) := by decide +kernel
theorem dX12_levelOf_1 : decode cX12_levelOf 1 = .ok (.getfield 20, 3) := by decide +kernel
theorem dX12_levelOf_4 : decode cX12_levelOf 4 = .ok (.iconst 4, 1) := by decide +kernel
theorem dX12_levelOf_5 : decode cX12_levelOf 5 = .ok (.iload_n 1, 1) := by decide +kernel
theorem dX12_levelOf_6 : decode cX12_levelOf 6 = .ok (.imul, 1) := by decide +kernel
theorem dX12_levelOf_7 : decode cX12_levelOf 7 = .ok (.iconst 1, 1) := by decide +kernel
theorem dX12_levelOf_8 : decode cX12_levelOf 8 = .ok (.iadd, 1) := by decide +kernel
theorem dX12_levelOf_9 : decode cX12_levelOf 9 = .ok (.iaload, 1) := by decide +kernel
theorem dX12_levelOf_10 : decode cX12_levelOf 10 = .ok (.ireturn, 1) := by decide +kernel
theorem dX12_townAt_0 : decode cX12_townAt 0 = .ok (.iconst 0, 1) := by decide +kernel
theorem dX12_townAt_1 : decode cX12_townAt 1 = .ok (.istore 4, 2) := by decide +kernel
theorem dX12_townAt_3 : decode cX12_townAt 3 = .ok (.iload 4, 2) := by decide +kernel
theorem dX12_townAt_5 : decode cX12_townAt 5 = .ok (.aload_n 0, 1) := by decide +kernel
theorem dX12_townAt_6 : decode cX12_townAt 6 = .ok (.getfield 13, 3) := by decide +kernel
theorem dX12_townAt_9 : decode cX12_townAt 9 = .ok (.iconst 2, 1) := by decide +kernel
theorem dX12_townAt_10 : decode cX12_townAt 10 = .ok (.iaload, 1) := by decide +kernel
theorem dX12_townAt_11 : decode cX12_townAt 11 = .ok (.if_icmp .ge 59, 3) := by decide +kernel
theorem dX12_townAt_14 : decode cX12_townAt 14 = .ok (.aload_n 0, 1) := by decide +kernel
theorem dX12_townAt_15 : decode cX12_townAt 15 = .ok (.getfield 29, 3) := by decide +kernel
theorem dX12_townAt_18 : decode cX12_townAt 18 = .ok (.bipush 42, 2) := by decide +kernel
theorem dX12_townAt_20 : decode cX12_townAt 20 = .ok (.iload_n 1, 1) := by decide +kernel
theorem dX12_townAt_21 : decode cX12_townAt 21 = .ok (.imul, 1) := by decide +kernel
theorem dX12_townAt_22 : decode cX12_townAt 22 = .ok (.bipush 35, 2) := by decide +kernel
theorem dX12_townAt_24 : decode cX12_townAt 24 = .ok (.iadd, 1) := by decide +kernel
theorem dX12_townAt_25 : decode cX12_townAt 25 = .ok (.iload 4, 2) := by decide +kernel
theorem dX12_townAt_27 : decode cX12_townAt 27 = .ok (.iadd, 1) := by decide +kernel
theorem dX12_townAt_28 : decode cX12_townAt 28 = .ok (.iaload, 1) := by decide +kernel
theorem dX12_townAt_29 : decode cX12_townAt 29 = .ok (.ifCond .ne 35, 3) := by decide +kernel
theorem dX12_townAt_32 : decode cX12_townAt 32 = .ok (.aload_n 0, 1) := by decide +kernel
theorem dX12_townAt_33 : decode cX12_townAt 33 = .ok (.iload 4, 2) := by decide +kernel
theorem dX12_townAt_35 : decode cX12_townAt 35 = .ok (.invokevirtual 127, 3) := by decide +kernel
theorem dX12_townAt_38 : decode cX12_townAt 38 = .ok (.iload_n 2, 1) := by decide +kernel
theorem dX12_townAt_39 : decode cX12_townAt 39 = .ok (.if_icmp .ne 25, 3) := by decide +kernel
theorem dX12_townAt_42 : decode cX12_townAt 42 = .ok (.aload_n 0, 1) := by decide +kernel
theorem dX12_townAt_43 : decode cX12_townAt 43 = .ok (.getfield 29, 3) := by decide +kernel
theorem dX12_townAt_46 : decode cX12_townAt 46 = .ok (.bipush 42, 2) := by decide +kernel
theorem dX12_townAt_48 : decode cX12_townAt 48 = .ok (.iload_n 1, 1) := by decide +kernel
theorem dX12_townAt_49 : decode cX12_townAt 49 = .ok (.imul, 1) := by decide +kernel
theorem dX12_townAt_50 : decode cX12_townAt 50 = .ok (.bipush 29, 2) := by decide +kernel
theorem dX12_townAt_52 : decode cX12_townAt 52 = .ok (.iadd, 1) := by decide +kernel
theorem dX12_townAt_53 : decode cX12_townAt 53 = .ok (.iload 4, 2) := by decide +kernel
theorem dX12_townAt_55 : decode cX12_townAt 55 = .ok (.iadd, 1) := by decide +kernel
theorem dX12_townAt_56 : decode cX12_townAt 56 = .ok (.iaload, 1) := by decide +kernel
theorem dX12_townAt_57 : decode cX12_townAt 57 = .ok (.iload_n 3, 1) := by decide +kernel
theorem dX12_townAt_58 : decode cX12_townAt 58 = .ok (.if_icmp .ne 6, 3) := by decide +kernel
theorem dX12_townAt_61 : decode cX12_townAt 61 = .ok (.iload 4, 2) := by decide +kernel
theorem dX12_townAt_63 : decode cX12_townAt 63 = .ok (.ireturn, 1) := by decide +kernel
theorem dX12_townAt_64 : decode cX12_townAt 64 = .ok (.iinc 4 1, 3) := by decide +kernel
theorem dX12_townAt_67 : decode cX12_townAt 67 = .ok (.goto (-64), 3) := by decide +kernel
theorem dX12_townAt_70 : decode cX12_townAt 70 = .ok (.bipush (-4), 2) := by decide +kernel
theorem dX12_townAt_72 : decode cX12_townAt 72 = .ok (.ireturn, 1) := by decide +kernel
theorem dX12_level_0 : decode cX12_level 0 = .ok (.aload_n 0, 1) := by decide +kernel
theorem dX12_level_1 : decode cX12_level 1 = .ok (.iload_n 1, 1) := by decide +kernel
theorem dX12_level_2 : decode cX12_level 2 = .ok (.invokevirtual 130, 3) := by decide +kernel
theorem dX12_level_5 : decode cX12_level 5 = .ok (.ifCond .eq 28, 3) := by decide +kernel
theorem dX12_level_8 : decode cX12_level 8 = .ok (.iload_n 2, 1) := by decide +kernel
theorem dX12_level_9 : decode cX12_level 9 = .ok (.i2l, 1) := by decide +kernel
theorem dX12_level_10 : decode cX12_level 10 = .ok (.lconst 0, 1) := by decide +kernel
theorem dX12_level_11 : decode cX12_level 11 = .ok (.ldc2_w 77, 3) := by decide +kernel
theorem dX12_level_14 : decode cX12_level 14 = .ok (.invokestatic 62, 3) := by decide +kernel
theorem dX12_level_17 : decode cX12_level 17 = .ok (.ifCond .eq 16, 3) := by decide +kernel
theorem dX12_level_20 : decode cX12_level 20 = .ok (.aload_n 0, 1) := by decide +kernel
theorem dX12_level_21 : decode cX12_level 21 = .ok (.getfield 17, 3) := by decide +kernel
theorem dX12_level_24 : decode cX12_level 24 = .ok (.iconst 3, 1) := by decide +kernel
theorem dX12_level_25 : decode cX12_level 25 = .ok (.iload_n 1, 1) := by decide +kernel
theorem dX12_level_26 : decode cX12_level 26 = .ok (.imul, 1) := by decide +kernel
theorem dX12_level_27 : decode cX12_level 27 = .ok (.iload_n 2, 1) := by decide +kernel
theorem dX12_level_28 : decode cX12_level 28 = .ok (.iadd, 1) := by decide +kernel
theorem dX12_level_29 : decode cX12_level 29 = .ok (.iaload, 1) := by decide +kernel
theorem dX12_level_30 : decode cX12_level 30 = .ok (.goto 4, 3) := by decide +kernel
theorem dX12_level_33 : decode cX12_level 33 = .ok (.iconst (-1), 1) := by decide +kernel
theorem dX12_level_34 : decode cX12_level 34 = .ok (.ireturn, 1) := by decide +kernel
theorem dX12_town_0 : decode cX12_town 0 = .ok (.aload_n 0, 1) := by decide +kernel
theorem dX12_town_1 : decode cX12_town 1 = .ok (.iload_n 1, 1) := by decide +kernel
theorem dX12_town_2 : decode cX12_town 2 = .ok (.invokevirtual 133, 3) := by decide +kernel
theorem dX12_town_5 : decode cX12_town 5 = .ok (.ifCond .eq 15, 3) := by decide +kernel
theorem dX12_town_8 : decode cX12_town 8 = .ok (.iload_n 2, 1) := by decide +kernel
theorem dX12_town_9 : decode cX12_town 9 = .ok (.i2l, 1) := by decide +kernel
theorem dX12_town_10 : decode cX12_town 10 = .ok (.lconst 0, 1) := by decide +kernel
theorem dX12_town_11 : decode cX12_town 11 = .ok (.ldc2_w 91, 3) := by decide +kernel
theorem dX12_town_14 : decode cX12_town 14 = .ok (.invokestatic 62, 3) := by decide +kernel
theorem dX12_town_17 : decode cX12_town 17 = .ok (.ifCond .ne 5, 3) := by decide +kernel
theorem dX12_town_20 : decode cX12_town 20 = .ok (.iconst (-1), 1) := by decide +kernel
theorem dX12_town_21 : decode cX12_town 21 = .ok (.ireturn, 1) := by decide +kernel
theorem dX12_town_22 : decode cX12_town 22 = .ok (.iload_n 2, 1) := by decide +kernel
theorem dX12_town_23 : decode cX12_town 23 = .ok (.ifCond .ne 11, 3) := by decide +kernel
theorem dX12_town_26 : decode cX12_town 26 = .ok (.aload_n 0, 1) := by decide +kernel
theorem dX12_town_27 : decode cX12_town 27 = .ok (.iload_n 1, 1) := by decide +kernel
theorem dX12_town_28 : decode cX12_town 28 = .ok (.invokevirtual 127, 3) := by decide +kernel
theorem dX12_town_31 : decode cX12_town 31 = .ok (.goto 47, 3) := by decide +kernel
theorem dX12_town_34 : decode cX12_town 34 = .ok (.iload_n 2, 1) := by decide +kernel
theorem dX12_town_35 : decode cX12_town 35 = .ok (.iconst 1, 1) := by decide +kernel
theorem dX12_town_36 : decode cX12_town 36 = .ok (.if_icmp .ne 15, 3) := by decide +kernel
theorem dX12_town_39 : decode cX12_town 39 = .ok (.aload_n 0, 1) := by decide +kernel
theorem dX12_town_40 : decode cX12_town 40 = .ok (.getfield 29, 3) := by decide +kernel
theorem dX12_town_43 : decode cX12_town 43 = .ok (.bipush 29, 2) := by decide +kernel
theorem dX12_town_45 : decode cX12_town 45 = .ok (.iload_n 1, 1) := by decide +kernel
theorem dX12_town_46 : decode cX12_town 46 = .ok (.iadd, 1) := by decide +kernel
theorem dX12_town_47 : decode cX12_town 47 = .ok (.iaload, 1) := by decide +kernel
theorem dX12_town_48 : decode cX12_town 48 = .ok (.goto 30, 3) := by decide +kernel
theorem dX12_town_51 : decode cX12_town 51 = .ok (.iload_n 2, 1) := by decide +kernel
theorem dX12_town_52 : decode cX12_town 52 = .ok (.iconst 4, 1) := by decide +kernel
theorem dX12_town_53 : decode cX12_town 53 = .ok (.if_icmp .ne 15, 3) := by decide +kernel
theorem dX12_town_56 : decode cX12_town 56 = .ok (.aload_n 0, 1) := by decide +kernel
theorem dX12_town_57 : decode cX12_town 57 = .ok (.getfield 29, 3) := by decide +kernel
theorem dX12_town_60 : decode cX12_town 60 = .ok (.bipush 35, 2) := by decide +kernel
theorem dX12_town_62 : decode cX12_town 62 = .ok (.iload_n 1, 1) := by decide +kernel
theorem dX12_town_63 : decode cX12_town 63 = .ok (.iadd, 1) := by decide +kernel
theorem dX12_town_64 : decode cX12_town 64 = .ok (.iaload, 1) := by decide +kernel
theorem dX12_town_65 : decode cX12_town 65 = .ok (.goto 13, 3) := by decide +kernel
theorem dX12_town_68 : decode cX12_town 68 = .ok (.aload_n 0, 1) := by decide +kernel
theorem dX12_town_69 : decode cX12_town 69 = .ok (.getfield 20, 3) := by decide +kernel
theorem dX12_town_72 : decode cX12_town 72 = .ok (.iconst 4, 1) := by decide +kernel
theorem dX12_town_73 : decode cX12_town 73 = .ok (.iload_n 1, 1) := by decide +kernel
theorem dX12_town_74 : decode cX12_town 74 = .ok (.imul, 1) := by decide +kernel
theorem dX12_town_75 : decode cX12_town 75 = .ok (.iload_n 2, 1) := by decide +kernel
theorem dX12_town_76 : decode cX12_town 76 = .ok (.iadd, 1) := by decide +kernel
theorem dX12_town_77 : decode cX12_town 77 = .ok (.iaload, 1) := by decide +kernel
theorem dX12_town_78 : decode cX12_town 78 = .ok (.ireturn, 1) := by decide +kernel
theorem dX12_tells_0 : decode cX12_tells 0 = .ok (.bipush 42, 2) := by decide +kernel
theorem dX12_tells_2 : decode cX12_tells 2 = .ok (.iload_n 1, 1) := by decide +kernel
theorem dX12_tells_3 : decode cX12_tells 3 = .ok (.imul, 1) := by decide +kernel
theorem dX12_tells_4 : decode cX12_tells 4 = .ok (.istore 4, 2) := by decide +kernel
theorem dX12_tells_6 : decode cX12_tells 6 = .ok (.aload_n 0, 1) := by decide +kernel
theorem dX12_tells_7 : decode cX12_tells 7 = .ok (.getfield 29, 3) := by decide +kernel
theorem dX12_tells_10 : decode cX12_tells 10 = .ok (.iload 4, 2) := by decide +kernel
theorem dX12_tells_12 : decode cX12_tells 12 = .ok (.bipush 22, 2) := by decide +kernel
theorem dX12_tells_14 : decode cX12_tells 14 = .ok (.iadd, 1) := by decide +kernel
theorem dX12_tells_15 : decode cX12_tells 15 = .ok (.iload_n 2, 1) := by decide +kernel
theorem dX12_tells_16 : decode cX12_tells 16 = .ok (.iadd, 1) := by decide +kernel
theorem dX12_tells_17 : decode cX12_tells 17 = .ok (.iaload, 1) := by decide +kernel
theorem dX12_tells_18 : decode cX12_tells 18 = .ok (.istore 5, 2) := by decide +kernel
theorem dX12_tells_20 : decode cX12_tells 20 = .ok (.iload_n 3, 1) := by decide +kernel
theorem dX12_tells_21 : decode cX12_tells 21 = .ok (.iconst 3, 1) := by decide +kernel
theorem dX12_tells_22 : decode cX12_tells 22 = .ok (.if_icmp .ne 18, 3) := by decide +kernel
theorem dX12_tells_25 : decode cX12_tells 25 = .ok (.iload 5, 2) := by decide +kernel
theorem dX12_tells_27 : decode cX12_tells 27 = .ok (.ifCond .ne 8, 3) := by decide +kernel
theorem dX12_tells_30 : decode cX12_tells 30 = .ok (.bipush (-4), 2) := by decide +kernel
theorem dX12_tells_32 : decode cX12_tells 32 = .ok (.goto 7, 3) := by decide +kernel
theorem dX12_tells_35 : decode cX12_tells 35 = .ok (.iload 5, 2) := by decide +kernel
theorem dX12_tells_37 : decode cX12_tells 37 = .ok (.iconst 1, 1) := by decide +kernel
theorem dX12_tells_38 : decode cX12_tells 38 = .ok (.isub, 1) := by decide +kernel
theorem dX12_tells_39 : decode cX12_tells 39 = .ok (.ireturn, 1) := by decide +kernel
theorem dX12_tells_40 : decode cX12_tells 40 = .ok (.iload_n 3, 1) := by decide +kernel
theorem dX12_tells_41 : decode cX12_tells 41 = .ok (.iconst 2, 1) := by decide +kernel
theorem dX12_tells_42 : decode cX12_tells 42 = .ok (.if_icmp .ne 16, 3) := by decide +kernel
theorem dX12_tells_45 : decode cX12_tells 45 = .ok (.aload_n 0, 1) := by decide +kernel
theorem dX12_tells_46 : decode cX12_tells 46 = .ok (.getfield 29, 3) := by decide +kernel
theorem dX12_tells_49 : decode cX12_tells 49 = .ok (.iload 4, 2) := by decide +kernel
theorem dX12_tells_51 : decode cX12_tells 51 = .ok (.bipush 15, 2) := by decide +kernel
theorem dX12_tells_53 : decode cX12_tells 53 = .ok (.iadd, 1) := by decide +kernel
theorem dX12_tells_54 : decode cX12_tells 54 = .ok (.iload_n 2, 1) := by decide +kernel
theorem dX12_tells_55 : decode cX12_tells 55 = .ok (.iadd, 1) := by decide +kernel
theorem dX12_tells_56 : decode cX12_tells 56 = .ok (.iaload, 1) := by decide +kernel
theorem dX12_tells_57 : decode cX12_tells 57 = .ok (.ireturn, 1) := by decide +kernel
theorem dX12_tells_58 : decode cX12_tells 58 = .ok (.iload_n 3, 1) := by decide +kernel
theorem dX12_tells_59 : decode cX12_tells 59 = .ok (.ifCond .ne 17, 3) := by decide +kernel
theorem dX12_tells_62 : decode cX12_tells 62 = .ok (.aload_n 0, 1) := by decide +kernel
theorem dX12_tells_63 : decode cX12_tells 63 = .ok (.getfield 29, 3) := by decide +kernel
theorem dX12_tells_66 : decode cX12_tells 66 = .ok (.iload 4, 2) := by decide +kernel
theorem dX12_tells_68 : decode cX12_tells 68 = .ok (.iconst 1, 1) := by decide +kernel
theorem dX12_tells_69 : decode cX12_tells 69 = .ok (.iadd, 1) := by decide +kernel
theorem dX12_tells_70 : decode cX12_tells 70 = .ok (.iload_n 2, 1) := by decide +kernel
theorem dX12_tells_71 : decode cX12_tells 71 = .ok (.iadd, 1) := by decide +kernel
theorem dX12_tells_72 : decode cX12_tells 72 = .ok (.iaload, 1) := by decide +kernel
theorem dX12_tells_73 : decode cX12_tells 73 = .ok (.goto 38, 3) := by decide +kernel
theorem dX12_tells_76 : decode cX12_tells 76 = .ok (.iload 5, 2) := by decide +kernel
theorem dX12_tells_78 : decode cX12_tells 78 = .ok (.ifCond .ne 18, 3) := by decide +kernel
theorem dX12_tells_81 : decode cX12_tells 81 = .ok (.aload_n 0, 1) := by decide +kernel
theorem dX12_tells_82 : decode cX12_tells 82 = .ok (.getfield 29, 3) := by decide +kernel
theorem dX12_tells_85 : decode cX12_tells 85 = .ok (.iload 4, 2) := by decide +kernel
theorem dX12_tells_87 : decode cX12_tells 87 = .ok (.bipush 8, 2) := by decide +kernel
theorem dX12_tells_89 : decode cX12_tells 89 = .ok (.iadd, 1) := by decide +kernel
theorem dX12_tells_90 : decode cX12_tells 90 = .ok (.iload_n 2, 1) := by decide +kernel
theorem dX12_tells_91 : decode cX12_tells 91 = .ok (.iadd, 1) := by decide +kernel
theorem dX12_tells_92 : decode cX12_tells 92 = .ok (.iaload, 1) := by decide +kernel
theorem dX12_tells_93 : decode cX12_tells 93 = .ok (.goto 18, 3) := by decide +kernel
theorem dX12_tells_96 : decode cX12_tells 96 = .ok (.aload_n 0, 1) := by decide +kernel
theorem dX12_tells_97 : decode cX12_tells 97 = .ok (.getfield 29, 3) := by decide +kernel
theorem dX12_tells_100 : decode cX12_tells 100 = .ok (.iload 4, 2) := by decide +kernel
theorem dX12_tells_102 : decode cX12_tells 102 = .ok (.bipush 29, 2) := by decide +kernel
theorem dX12_tells_104 : decode cX12_tells 104 = .ok (.iadd, 1) := by decide +kernel
theorem dX12_tells_105 : decode cX12_tells 105 = .ok (.iload 5, 2) := by decide +kernel
theorem dX12_tells_107 : decode cX12_tells 107 = .ok (.iadd, 1) := by decide +kernel
theorem dX12_tells_108 : decode cX12_tells 108 = .ok (.iconst 1, 1) := by decide +kernel
theorem dX12_tells_109 : decode cX12_tells 109 = .ok (.isub, 1) := by decide +kernel
theorem dX12_tells_110 : decode cX12_tells 110 = .ok (.iaload, 1) := by decide +kernel
theorem dX12_tells_111 : decode cX12_tells 111 = .ok (.ireturn, 1) := by decide +kernel
theorem dX12_thing_0 : decode cX12_thing 0 = .ok (.aload_n 0, 1) := by decide +kernel
theorem dX12_thing_1 : decode cX12_thing 1 = .ok (.iload_n 1, 1) := by decide +kernel
theorem dX12_thing_2 : decode cX12_thing 2 = .ok (.invokevirtual 136, 3) := by decide +kernel
theorem dX12_thing_5 : decode cX12_thing 5 = .ok (.ifCond .eq 25, 3) := by decide +kernel
theorem dX12_thing_8 : decode cX12_thing 8 = .ok (.iload_n 2, 1) := by decide +kernel
theorem dX12_thing_9 : decode cX12_thing 9 = .ok (.i2l, 1) := by decide +kernel
theorem dX12_thing_10 : decode cX12_thing 10 = .ok (.lconst 0, 1) := by decide +kernel
theorem dX12_thing_11 : decode cX12_thing 11 = .ok (.ldc2_w 139, 3) := by decide +kernel
theorem dX12_thing_14 : decode cX12_thing 14 = .ok (.invokestatic 62, 3) := by decide +kernel
theorem dX12_thing_17 : decode cX12_thing 17 = .ok (.ifCond .eq 13, 3) := by decide +kernel
theorem dX12_thing_20 : decode cX12_thing 20 = .ok (.aload_n 0, 1) := by decide +kernel
theorem dX12_thing_21 : decode cX12_thing 21 = .ok (.iconst 0, 1) := by decide +kernel
theorem dX12_thing_22 : decode cX12_thing 22 = .ok (.iload_n 1, 1) := by decide +kernel
theorem dX12_thing_23 : decode cX12_thing 23 = .ok (.iload_n 2, 1) := by decide +kernel
theorem dX12_thing_24 : decode cX12_thing 24 = .ok (.invokevirtual 141, 3) := by decide +kernel
theorem dX12_thing_27 : decode cX12_thing 27 = .ok (.goto 4, 3) := by decide +kernel
theorem dX12_thing_30 : decode cX12_thing 30 = .ok (.iconst (-1), 1) := by decide +kernel
theorem dX12_thing_31 : decode cX12_thing 31 = .ok (.ireturn, 1) := by decide +kernel
theorem dX12_copies_0 : decode cX12_copies 0 = .ok (.iconst 0, 1) := by decide +kernel
theorem dX12_copies_1 : decode cX12_copies 1 = .ok (.istore_n 3, 1) := by decide +kernel
theorem dX12_copies_2 : decode cX12_copies 2 = .ok (.iload_n 3, 1) := by decide +kernel
theorem dX12_copies_3 : decode cX12_copies 3 = .ok (.bipush 42, 2) := by decide +kernel
theorem dX12_copies_5 : decode cX12_copies 5 = .ok (.if_icmp .ge 31, 3) := by decide +kernel
theorem dX12_copies_8 : decode cX12_copies 8 = .ok (.aload_n 0, 1) := by decide +kernel
theorem dX12_copies_9 : decode cX12_copies 9 = .ok (.getfield 29, 3) := by decide +kernel
theorem dX12_copies_12 : decode cX12_copies 12 = .ok (.bipush 42, 2) := by decide +kernel
theorem dX12_copies_14 : decode cX12_copies 14 = .ok (.iload_n 2, 1) := by decide +kernel
theorem dX12_copies_15 : decode cX12_copies 15 = .ok (.imul, 1) := by decide +kernel
theorem dX12_copies_16 : decode cX12_copies 16 = .ok (.iload_n 3, 1) := by decide +kernel
theorem dX12_copies_17 : decode cX12_copies 17 = .ok (.iadd, 1) := by decide +kernel
theorem dX12_copies_18 : decode cX12_copies 18 = .ok (.aload_n 0, 1) := by decide +kernel
theorem dX12_copies_19 : decode cX12_copies 19 = .ok (.getfield 29, 3) := by decide +kernel
theorem dX12_copies_22 : decode cX12_copies 22 = .ok (.bipush 42, 2) := by decide +kernel
theorem dX12_copies_24 : decode cX12_copies 24 = .ok (.iload_n 1, 1) := by decide +kernel
theorem dX12_copies_25 : decode cX12_copies 25 = .ok (.imul, 1) := by decide +kernel
theorem dX12_copies_26 : decode cX12_copies 26 = .ok (.iload_n 3, 1) := by decide +kernel
theorem dX12_copies_27 : decode cX12_copies 27 = .ok (.iadd, 1) := by decide +kernel
theorem dX12_copies_28 : decode cX12_copies 28 = .ok (.iaload, 1) := by decide +kernel
theorem dX12_copies_29 : decode cX12_copies 29 = .ok (.iastore, 1) := by decide +kernel
theorem dX12_copies_30 : decode cX12_copies 30 = .ok (.iinc 3 1, 3) := by decide +kernel
theorem dX12_copies_33 : decode cX12_copies 33 = .ok (.goto (-31), 3) := by decide +kernel
theorem dX12_copies_36 : decode cX12_copies 36 = .ok (.return_, 1) := by decide +kernel
theorem dX12_known_0 : decode cX12_known 0 = .ok (.aload_n 0, 1) := by decide +kernel
theorem dX12_known_1 : decode cX12_known 1 = .ok (.getfield 111, 3) := by decide +kernel
theorem dX12_known_4 : decode cX12_known 4 = .ok (.bipush 8, 2) := by decide +kernel
theorem dX12_known_6 : decode cX12_known 6 = .ok (.if_icmp .ne 35, 3) := by decide +kernel
theorem dX12_known_9 : decode cX12_known 9 = .ok (.iconst 3, 1) := by decide +kernel
theorem dX12_known_10 : decode cX12_known 10 = .ok (.istore_n 1, 1) := by decide +kernel
theorem dX12_known_11 : decode cX12_known 11 = .ok (.iload_n 1, 1) := by decide +kernel
theorem dX12_known_12 : decode cX12_known 12 = .ok (.bipush 10, 2) := by decide +kernel
theorem dX12_known_14 : decode cX12_known 14 = .ok (.if_icmp .ge 17, 3) := by decide +kernel
theorem dX12_known_17 : decode cX12_known 17 = .ok (.aload_n 0, 1) := by decide +kernel
theorem dX12_known_18 : decode cX12_known 18 = .ok (.iload_n 1, 1) := by decide +kernel
theorem dX12_known_19 : decode cX12_known 19 = .ok (.iconst 1, 1) := by decide +kernel
theorem dX12_known_20 : decode cX12_known 20 = .ok (.iadd, 1) := by decide +kernel
theorem dX12_known_21 : decode cX12_known 21 = .ok (.iload_n 1, 1) := by decide +kernel
theorem dX12_known_22 : decode cX12_known 22 = .ok (.invokevirtual 145, 3) := by decide +kernel
theorem dX12_known_25 : decode cX12_known 25 = .ok (.iinc 1 1, 3) := by decide +kernel
theorem dX12_known_28 : decode cX12_known 28 = .ok (.goto (-17), 3) := by decide +kernel
theorem dX12_known_31 : decode cX12_known 31 = .ok (.aload_n 0, 1) := by decide +kernel
theorem dX12_known_32 : decode cX12_known 32 = .ok (.dup, 1) := by decide +kernel
theorem dX12_known_33 : decode cX12_known 33 = .ok (.getfield 111, 3) := by decide +kernel
theorem dX12_known_36 : decode cX12_known 36 = .ok (.iconst 1, 1) := by decide +kernel
theorem dX12_known_37 : decode cX12_known 37 = .ok (.isub, 1) := by decide +kernel
theorem dX12_known_38 : decode cX12_known 38 = .ok (.putfield 111, 3) := by decide +kernel
theorem dX12_known_41 : decode cX12_known 41 = .ok (.aload_n 0, 1) := by decide +kernel
theorem dX12_known_42 : decode cX12_known 42 = .ok (.iconst 0, 1) := by decide +kernel
theorem dX12_known_43 : decode cX12_known 43 = .ok (.iconst 3, 1) := by decide +kernel
theorem dX12_known_44 : decode cX12_known 44 = .ok (.aload_n 0, 1) := by decide +kernel
theorem dX12_known_45 : decode cX12_known 45 = .ok (.getfield 111, 3) := by decide +kernel
theorem dX12_known_48 : decode cX12_known 48 = .ok (.iadd, 1) := by decide +kernel
theorem dX12_known_49 : decode cX12_known 49 = .ok (.invokevirtual 145, 3) := by decide +kernel
theorem dX12_known_52 : decode cX12_known 52 = .ok (.aload_n 0, 1) := by decide +kernel
theorem dX12_known_53 : decode cX12_known 53 = .ok (.dup, 1) := by decide +kernel
theorem dX12_known_54 : decode cX12_known 54 = .ok (.getfield 111, 3) := by decide +kernel
theorem dX12_known_57 : decode cX12_known 57 = .ok (.iconst 1, 1) := by decide +kernel
theorem dX12_known_58 : decode cX12_known 58 = .ok (.iadd, 1) := by decide +kernel
theorem dX12_known_59 : decode cX12_known 59 = .ok (.putfield 111, 3) := by decide +kernel
theorem dX12_known_62 : decode cX12_known 62 = .ok (.return_, 1) := by decide +kernel
theorem dX12_drifts_0 : decode cX12_drifts 0 = .ok (.aload_n 0, 1) := by decide +kernel
theorem dX12_drifts_1 : decode cX12_drifts 1 = .ok (.getfield 29, 3) := by decide +kernel
theorem dX12_drifts_4 : decode cX12_drifts 4 = .ok (.bipush 42, 2) := by decide +kernel
theorem dX12_drifts_6 : decode cX12_drifts 6 = .ok (.iload_n 1, 1) := by decide +kernel
theorem dX12_drifts_7 : decode cX12_drifts 7 = .ok (.imul, 1) := by decide +kernel
theorem dX12_drifts_8 : decode cX12_drifts 8 = .ok (.iconst 1, 1) := by decide +kernel
theorem dX12_drifts_9 : decode cX12_drifts 9 = .ok (.iadd, 1) := by decide +kernel
theorem dX12_drifts_10 : decode cX12_drifts 10 = .ok (.iload_n 2, 1) := by decide +kernel
theorem dX12_drifts_11 : decode cX12_drifts 11 = .ok (.iadd, 1) := by decide +kernel
theorem dX12_drifts_12 : decode cX12_drifts 12 = .ok (.iaload, 1) := by decide +kernel
theorem dX12_drifts_13 : decode cX12_drifts 13 = .ok (.istore_n 3, 1) := by decide +kernel
theorem dX12_drifts_14 : decode cX12_drifts 14 = .ok (.aload_n 0, 1) := by decide +kernel
theorem dX12_drifts_15 : decode cX12_drifts 15 = .ok (.getfield 29, 3) := by decide +kernel
theorem dX12_drifts_18 : decode cX12_drifts 18 = .ok (.bipush 42, 2) := by decide +kernel
theorem dX12_drifts_20 : decode cX12_drifts 20 = .ok (.iload_n 1, 1) := by decide +kernel
theorem dX12_drifts_21 : decode cX12_drifts 21 = .ok (.imul, 1) := by decide +kernel
theorem dX12_drifts_22 : decode cX12_drifts 22 = .ok (.bipush 15, 2) := by decide +kernel
theorem dX12_drifts_24 : decode cX12_drifts 24 = .ok (.iadd, 1) := by decide +kernel
theorem dX12_drifts_25 : decode cX12_drifts 25 = .ok (.iload_n 2, 1) := by decide +kernel
theorem dX12_drifts_26 : decode cX12_drifts 26 = .ok (.iadd, 1) := by decide +kernel
theorem dX12_drifts_27 : decode cX12_drifts 27 = .ok (.iaload, 1) := by decide +kernel
theorem dX12_drifts_28 : decode cX12_drifts 28 = .ok (.istore 4, 2) := by decide +kernel
theorem dX12_drifts_30 : decode cX12_drifts 30 = .ok (.aload_n 0, 1) := by decide +kernel
theorem dX12_drifts_31 : decode cX12_drifts 31 = .ok (.getfield 29, 3) := by decide +kernel
theorem dX12_drifts_34 : decode cX12_drifts 34 = .ok (.bipush 42, 2) := by decide +kernel
theorem dX12_drifts_36 : decode cX12_drifts 36 = .ok (.iload_n 1, 1) := by decide +kernel
theorem dX12_drifts_37 : decode cX12_drifts 37 = .ok (.imul, 1) := by decide +kernel
theorem dX12_drifts_38 : decode cX12_drifts 38 = .ok (.bipush 8, 2) := by decide +kernel
theorem dX12_drifts_40 : decode cX12_drifts 40 = .ok (.iadd, 1) := by decide +kernel
theorem dX12_drifts_41 : decode cX12_drifts 41 = .ok (.iload_n 2, 1) := by decide +kernel
theorem dX12_drifts_42 : decode cX12_drifts 42 = .ok (.iadd, 1) := by decide +kernel
theorem dX12_drifts_43 : decode cX12_drifts 43 = .ok (.iaload, 1) := by decide +kernel
theorem dX12_drifts_44 : decode cX12_drifts 44 = .ok (.aload_n 0, 1) := by decide +kernel
theorem dX12_drifts_45 : decode cX12_drifts 45 = .ok (.getfield 17, 3) := by decide +kernel
theorem dX12_drifts_48 : decode cX12_drifts 48 = .ok (.iconst 3, 1) := by decide +kernel
theorem dX12_drifts_49 : decode cX12_drifts 49 = .ok (.iload_n 3, 1) := by decide +kernel
theorem dX12_drifts_50 : decode cX12_drifts 50 = .ok (.imul, 1) := by decide +kernel
theorem dX12_drifts_51 : decode cX12_drifts 51 = .ok (.iaload, 1) := by decide +kernel
theorem dX12_drifts_52 : decode cX12_drifts 52 = .ok (.iadd, 1) := by decide +kernel
theorem dX12_drifts_53 : decode cX12_drifts 53 = .ok (.iconst 3, 1) := by decide +kernel
theorem dX12_drifts_54 : decode cX12_drifts 54 = .ok (.isub, 1) := by decide +kernel
theorem dX12_drifts_55 : decode cX12_drifts 55 = .ok (.istore 5, 2) := by decide +kernel
theorem dX12_drifts_57 : decode cX12_drifts 57 = .ok (.aload_n 0, 1) := by decide +kernel
theorem dX12_drifts_58 : decode cX12_drifts 58 = .ok (.getfield 29, 3) := by decide +kernel
theorem dX12_drifts_61 : decode cX12_drifts 61 = .ok (.bipush 42, 2) := by decide +kernel
theorem dX12_drifts_63 : decode cX12_drifts 63 = .ok (.iload_n 1, 1) := by decide +kernel
theorem dX12_drifts_64 : decode cX12_drifts 64 = .ok (.imul, 1) := by decide +kernel
theorem dX12_drifts_65 : decode cX12_drifts 65 = .ok (.bipush 8, 2) := by decide +kernel
theorem dX12_drifts_67 : decode cX12_drifts 67 = .ok (.iadd, 1) := by decide +kernel
theorem dX12_drifts_68 : decode cX12_drifts 68 = .ok (.iload_n 2, 1) := by decide +kernel
theorem dX12_drifts_69 : decode cX12_drifts 69 = .ok (.iadd, 1) := by decide +kernel
theorem dX12_drifts_70 : decode cX12_drifts 70 = .ok (.iload 5, 2) := by decide +kernel
theorem dX12_drifts_72 : decode cX12_drifts 72 = .ok (.aload_n 0, 1) := by decide +kernel
theorem dX12_drifts_73 : decode cX12_drifts 73 = .ok (.getfield 13, 3) := by decide +kernel
theorem dX12_drifts_76 : decode cX12_drifts 76 = .ok (.iconst 0, 1) := by decide +kernel
theorem dX12_drifts_77 : decode cX12_drifts 77 = .ok (.iaload, 1) := by decide +kernel
theorem dX12_drifts_78 : decode cX12_drifts 78 = .ok (.iadd, 1) := by decide +kernel
theorem dX12_drifts_79 : decode cX12_drifts 79 = .ok (.aload_n 0, 1) := by decide +kernel
theorem dX12_drifts_80 : decode cX12_drifts 80 = .ok (.getfield 13, 3) := by decide +kernel
theorem dX12_drifts_83 : decode cX12_drifts 83 = .ok (.iconst 0, 1) := by decide +kernel
theorem dX12_drifts_84 : decode cX12_drifts 84 = .ok (.iaload, 1) := by decide +kernel
theorem dX12_drifts_85 : decode cX12_drifts 85 = .ok (.irem, 1) := by decide +kernel
theorem dX12_drifts_86 : decode cX12_drifts 86 = .ok (.iastore, 1) := by decide +kernel
theorem dX12_drifts_87 : decode cX12_drifts 87 = .ok (.aload_n 0, 1) := by decide +kernel
theorem dX12_drifts_88 : decode cX12_drifts 88 = .ok (.getfield 17, 3) := by decide +kernel
theorem dX12_drifts_91 : decode cX12_drifts 91 = .ok (.iconst 3, 1) := by decide +kernel
theorem dX12_drifts_92 : decode cX12_drifts 92 = .ok (.iload_n 3, 1) := by decide +kernel
theorem dX12_drifts_93 : decode cX12_drifts 93 = .ok (.imul, 1) := by decide +kernel
theorem dX12_drifts_94 : decode cX12_drifts 94 = .ok (.iconst 1, 1) := by decide +kernel
theorem dX12_drifts_95 : decode cX12_drifts 95 = .ok (.iadd, 1) := by decide +kernel
theorem dX12_drifts_96 : decode cX12_drifts 96 = .ok (.iaload, 1) := by decide +kernel
theorem dX12_drifts_97 : decode cX12_drifts 97 = .ok (.istore 6, 2) := by decide +kernel
theorem dX12_drifts_99 : decode cX12_drifts 99 = .ok (.iload 4, 2) := by decide +kernel
theorem dX12_drifts_101 : decode cX12_drifts 101 = .ok (.iload 6, 2) := by decide +kernel
theorem dX12_drifts_103 : decode cX12_drifts 103 = .ok (.if_icmp .le 34, 3) := by decide +kernel
theorem dX12_drifts_106 : decode cX12_drifts 106 = .ok (.iload_n 3, 1) := by decide +kernel
theorem dX12_drifts_107 : decode cX12_drifts 107 = .ok (.iconst 1, 1) := by decide +kernel
theorem dX12_drifts_108 : decode cX12_drifts 108 = .ok (.iadd, 1) := by decide +kernel
theorem dX12_drifts_109 : decode cX12_drifts 109 = .ok (.aload_n 0, 1) := by decide +kernel
theorem dX12_drifts_110 : decode cX12_drifts 110 = .ok (.getfield 13, 3) := by decide +kernel
theorem dX12_drifts_113 : decode cX12_drifts 113 = .ok (.iconst 1, 1) := by decide +kernel
theorem dX12_drifts_114 : decode cX12_drifts 114 = .ok (.iaload, 1) := by decide +kernel
theorem dX12_drifts_115 : decode cX12_drifts 115 = .ok (.if_icmp .ge 22, 3) := by decide +kernel
theorem dX12_drifts_118 : decode cX12_drifts 118 = .ok (.aload_n 0, 1) := by decide +kernel
theorem dX12_drifts_119 : decode cX12_drifts 119 = .ok (.getfield 29, 3) := by decide +kernel
theorem dX12_drifts_122 : decode cX12_drifts 122 = .ok (.bipush 42, 2) := by decide +kernel
theorem dX12_drifts_124 : decode cX12_drifts 124 = .ok (.iload_n 1, 1) := by decide +kernel
theorem dX12_drifts_125 : decode cX12_drifts 125 = .ok (.imul, 1) := by decide +kernel
theorem dX12_drifts_126 : decode cX12_drifts 126 = .ok (.iconst 1, 1) := by decide +kernel
theorem dX12_drifts_127 : decode cX12_drifts 127 = .ok (.iadd, 1) := by decide +kernel
theorem dX12_drifts_128 : decode cX12_drifts 128 = .ok (.iload_n 2, 1) := by decide +kernel
theorem dX12_drifts_129 : decode cX12_drifts 129 = .ok (.iadd, 1) := by decide +kernel
theorem dX12_drifts_130 : decode cX12_drifts 130 = .ok (.iload_n 3, 1) := by decide +kernel
theorem dX12_drifts_131 : decode cX12_drifts 131 = .ok (.iconst 1, 1) := by decide +kernel
theorem dX12_drifts_132 : decode cX12_drifts 132 = .ok (.iadd, 1) := by decide +kernel
theorem dX12_drifts_133 : decode cX12_drifts 133 = .ok (.iastore, 1) := by decide +kernel
theorem dX12_drifts_134 : decode cX12_drifts 134 = .ok (.goto 30, 3) := by decide +kernel
theorem dX12_drifts_137 : decode cX12_drifts 137 = .ok (.iload 4, 2) := by decide +kernel
theorem dX12_drifts_139 : decode cX12_drifts 139 = .ok (.iload 6, 2) := by decide +kernel
theorem dX12_drifts_141 : decode cX12_drifts 141 = .ok (.if_icmp .ge 23, 3) := by decide +kernel
theorem dX12_drifts_144 : decode cX12_drifts 144 = .ok (.iload_n 3, 1) := by decide +kernel
theorem dX12_drifts_145 : decode cX12_drifts 145 = .ok (.ifCond .le 19, 3) := by decide +kernel
theorem dX12_drifts_148 : decode cX12_drifts 148 = .ok (.aload_n 0, 1) := by decide +kernel
theorem dX12_drifts_149 : decode cX12_drifts 149 = .ok (.getfield 29, 3) := by decide +kernel
theorem dX12_drifts_152 : decode cX12_drifts 152 = .ok (.bipush 42, 2) := by decide +kernel
theorem dX12_drifts_154 : decode cX12_drifts 154 = .ok (.iload_n 1, 1) := by decide +kernel
theorem dX12_drifts_155 : decode cX12_drifts 155 = .ok (.imul, 1) := by decide +kernel
theorem dX12_drifts_156 : decode cX12_drifts 156 = .ok (.iconst 1, 1) := by decide +kernel
theorem dX12_drifts_157 : decode cX12_drifts 157 = .ok (.iadd, 1) := by decide +kernel
theorem dX12_drifts_158 : decode cX12_drifts 158 = .ok (.iload_n 2, 1) := by decide +kernel
theorem dX12_drifts_159 : decode cX12_drifts 159 = .ok (.iadd, 1) := by decide +kernel
theorem dX12_drifts_160 : decode cX12_drifts 160 = .ok (.iload_n 3, 1) := by decide +kernel
theorem dX12_drifts_161 : decode cX12_drifts 161 = .ok (.iconst 1, 1) := by decide +kernel
theorem dX12_drifts_162 : decode cX12_drifts 162 = .ok (.isub, 1) := by decide +kernel
theorem dX12_drifts_163 : decode cX12_drifts 163 = .ok (.iastore, 1) := by decide +kernel
theorem dX12_drifts_164 : decode cX12_drifts 164 = .ok (.return_, 1) := by decide +kernel
theorem dX12_goes_0 : decode cX12_goes 0 = .ok (.aload_n 0, 1) := by decide +kernel
theorem dX12_goes_1 : decode cX12_goes 1 = .ok (.iload_n 1, 1) := by decide +kernel
theorem dX12_goes_2 : decode cX12_goes 2 = .ok (.iload_n 2, 1) := by decide +kernel
theorem dX12_goes_3 : decode cX12_goes 3 = .ok (.invokevirtual 149, 3) := by decide +kernel
theorem dX12_goes_6 : decode cX12_goes 6 = .ok (.aload_n 0, 1) := by decide +kernel
theorem dX12_goes_7 : decode cX12_goes 7 = .ok (.iload_n 1, 1) := by decide +kernel
theorem dX12_goes_8 : decode cX12_goes 8 = .ok (.aload_n 0, 1) := by decide +kernel
theorem dX12_goes_9 : decode cX12_goes 9 = .ok (.getfield 29, 3) := by decide +kernel
theorem dX12_goes_12 : decode cX12_goes 12 = .ok (.bipush 42, 2) := by decide +kernel
theorem dX12_goes_14 : decode cX12_goes 14 = .ok (.iload_n 1, 1) := by decide +kernel
theorem dX12_goes_15 : decode cX12_goes 15 = .ok (.imul, 1) := by decide +kernel
theorem dX12_goes_16 : decode cX12_goes 16 = .ok (.iconst 1, 1) := by decide +kernel
theorem dX12_goes_17 : decode cX12_goes 17 = .ok (.iadd, 1) := by decide +kernel
theorem dX12_goes_18 : decode cX12_goes 18 = .ok (.iload_n 2, 1) := by decide +kernel
theorem dX12_goes_19 : decode cX12_goes 19 = .ok (.iadd, 1) := by decide +kernel
theorem dX12_goes_20 : decode cX12_goes 20 = .ok (.iaload, 1) := by decide +kernel
theorem dX12_goes_21 : decode cX12_goes 21 = .ok (.aload_n 0, 1) := by decide +kernel
theorem dX12_goes_22 : decode cX12_goes 22 = .ok (.getfield 29, 3) := by decide +kernel
theorem dX12_goes_25 : decode cX12_goes 25 = .ok (.bipush 42, 2) := by decide +kernel
theorem dX12_goes_27 : decode cX12_goes 27 = .ok (.iload_n 1, 1) := by decide +kernel
theorem dX12_goes_28 : decode cX12_goes 28 = .ok (.imul, 1) := by decide +kernel
theorem dX12_goes_29 : decode cX12_goes 29 = .ok (.bipush 8, 2) := by decide +kernel
theorem dX12_goes_31 : decode cX12_goes 31 = .ok (.iadd, 1) := by decide +kernel
theorem dX12_goes_32 : decode cX12_goes 32 = .ok (.iload_n 2, 1) := by decide +kernel
theorem dX12_goes_33 : decode cX12_goes 33 = .ok (.iadd, 1) := by decide +kernel
theorem dX12_goes_34 : decode cX12_goes 34 = .ok (.iaload, 1) := by decide +kernel
theorem dX12_goes_35 : decode cX12_goes 35 = .ok (.invokevirtual 151, 3) := by decide +kernel
theorem dX12_goes_38 : decode cX12_goes 38 = .ok (.istore 4, 2) := by decide +kernel
theorem dX12_goes_40 : decode cX12_goes 40 = .ok (.iload 4, 2) := by decide +kernel
theorem dX12_goes_42 : decode cX12_goes 42 = .ok (.ifCond .lt 9, 3) := by decide +kernel
theorem dX12_goes_45 : decode cX12_goes 45 = .ok (.iload 4, 2) := by decide +kernel
theorem dX12_goes_47 : decode cX12_goes 47 = .ok (.iload_n 3, 1) := by decide +kernel
theorem dX12_goes_48 : decode cX12_goes 48 = .ok (.if_icmp .ne 6, 3) := by decide +kernel
theorem dX12_goes_51 : decode cX12_goes 51 = .ok (.bipush (-4), 2) := by decide +kernel
theorem dX12_goes_53 : decode cX12_goes 53 = .ok (.ireturn, 1) := by decide +kernel
theorem dX12_goes_54 : decode cX12_goes 54 = .ok (.aload_n 0, 1) := by decide +kernel
theorem dX12_goes_55 : decode cX12_goes 55 = .ok (.getfield 29, 3) := by decide +kernel
theorem dX12_goes_58 : decode cX12_goes 58 = .ok (.bipush 42, 2) := by decide +kernel
theorem dX12_goes_60 : decode cX12_goes 60 = .ok (.iload_n 1, 1) := by decide +kernel
theorem dX12_goes_61 : decode cX12_goes 61 = .ok (.imul, 1) := by decide +kernel
theorem dX12_goes_62 : decode cX12_goes 62 = .ok (.bipush 22, 2) := by decide +kernel
theorem dX12_goes_64 : decode cX12_goes 64 = .ok (.iadd, 1) := by decide +kernel
theorem dX12_goes_65 : decode cX12_goes 65 = .ok (.iload_n 2, 1) := by decide +kernel
theorem dX12_goes_66 : decode cX12_goes 66 = .ok (.iadd, 1) := by decide +kernel
theorem dX12_goes_67 : decode cX12_goes 67 = .ok (.iload 4, 2) := by decide +kernel
theorem dX12_goes_69 : decode cX12_goes 69 = .ok (.iconst 1, 1) := by decide +kernel
theorem dX12_goes_70 : decode cX12_goes 70 = .ok (.iadd, 1) := by decide +kernel
theorem dX12_goes_71 : decode cX12_goes 71 = .ok (.iastore, 1) := by decide +kernel
theorem dX12_goes_72 : decode cX12_goes 72 = .ok (.iload 4, 2) := by decide +kernel
theorem dX12_goes_74 : decode cX12_goes 74 = .ok (.ireturn, 1) := by decide +kernel
theorem dX12_step_0 : decode cX12_step 0 = .ok (.iconst 0, 1) := by decide +kernel
theorem dX12_step_1 : decode cX12_step 1 = .ok (.istore_n 2, 1) := by decide +kernel
theorem dX12_step_2 : decode cX12_step 2 = .ok (.iconst 0, 1) := by decide +kernel
theorem dX12_step_3 : decode cX12_step 3 = .ok (.istore_n 3, 1) := by decide +kernel
theorem dX12_step_4 : decode cX12_step 4 = .ok (.iload_n 3, 1) := by decide +kernel
theorem dX12_step_5 : decode cX12_step 5 = .ok (.aload_n 0, 1) := by decide +kernel
theorem dX12_step_6 : decode cX12_step 6 = .ok (.getfield 29, 3) := by decide +kernel
theorem dX12_step_9 : decode cX12_step 9 = .ok (.bipush 42, 2) := by decide +kernel
theorem dX12_step_11 : decode cX12_step 11 = .ok (.iload_n 1, 1) := by decide +kernel
theorem dX12_step_12 : decode cX12_step 12 = .ok (.imul, 1) := by decide +kernel
theorem dX12_step_13 : decode cX12_step 13 = .ok (.iaload, 1) := by decide +kernel
theorem dX12_step_14 : decode cX12_step 14 = .ok (.if_icmp .ge 45, 3) := by decide +kernel
theorem dX12_step_17 : decode cX12_step 17 = .ok (.iload_n 2, 1) := by decide +kernel
theorem dX12_step_18 : decode cX12_step 18 = .ok (.aload_n 0, 1) := by decide +kernel
theorem dX12_step_19 : decode cX12_step 19 = .ok (.getfield 29, 3) := by decide +kernel
theorem dX12_step_22 : decode cX12_step 22 = .ok (.bipush 42, 2) := by decide +kernel
theorem dX12_step_24 : decode cX12_step 24 = .ok (.iload_n 1, 1) := by decide +kernel
theorem dX12_step_25 : decode cX12_step 25 = .ok (.imul, 1) := by decide +kernel
theorem dX12_step_26 : decode cX12_step 26 = .ok (.bipush 22, 2) := by decide +kernel
theorem dX12_step_28 : decode cX12_step 28 = .ok (.iadd, 1) := by decide +kernel
theorem dX12_step_29 : decode cX12_step 29 = .ok (.iload_n 3, 1) := by decide +kernel
theorem dX12_step_30 : decode cX12_step 30 = .ok (.iadd, 1) := by decide +kernel
theorem dX12_step_31 : decode cX12_step 31 = .ok (.iaload, 1) := by decide +kernel
theorem dX12_step_32 : decode cX12_step 32 = .ok (.ifCond .ne 18, 3) := by decide +kernel
theorem dX12_step_35 : decode cX12_step 35 = .ok (.aload_n 0, 1) := by decide +kernel
theorem dX12_step_36 : decode cX12_step 36 = .ok (.iload_n 1, 1) := by decide +kernel
theorem dX12_step_37 : decode cX12_step 37 = .ok (.iload_n 3, 1) := by decide +kernel
theorem dX12_step_38 : decode cX12_step 38 = .ok (.bipush (-4), 2) := by decide +kernel
theorem dX12_step_40 : decode cX12_step 40 = .ok (.invokevirtual 154, 3) := by decide +kernel
theorem dX12_step_43 : decode cX12_step 43 = .ok (.ifCond .lt 7, 3) := by decide +kernel
theorem dX12_step_46 : decode cX12_step 46 = .ok (.iconst 1, 1) := by decide +kernel
theorem dX12_step_47 : decode cX12_step 47 = .ok (.goto 4, 3) := by decide +kernel
theorem dX12_step_50 : decode cX12_step 50 = .ok (.iconst 0, 1) := by decide +kernel
theorem dX12_step_51 : decode cX12_step 51 = .ok (.iadd, 1) := by decide +kernel
theorem dX12_step_52 : decode cX12_step 52 = .ok (.istore_n 2, 1) := by decide +kernel
theorem dX12_step_53 : decode cX12_step 53 = .ok (.iinc 3 1, 3) := by decide +kernel
theorem dX12_step_56 : decode cX12_step 56 = .ok (.goto (-52), 3) := by decide +kernel
theorem dX12_step_59 : decode cX12_step 59 = .ok (.aload_n 0, 1) := by decide +kernel
theorem dX12_step_60 : decode cX12_step 60 = .ok (.getfield 29, 3) := by decide +kernel
theorem dX12_step_63 : decode cX12_step 63 = .ok (.bipush 42, 2) := by decide +kernel
theorem dX12_step_65 : decode cX12_step 65 = .ok (.iload_n 1, 1) := by decide +kernel
theorem dX12_step_66 : decode cX12_step 66 = .ok (.imul, 1) := by decide +kernel
theorem dX12_step_67 : decode cX12_step 67 = .ok (.bipush 41, 2) := by decide +kernel
theorem dX12_step_69 : decode cX12_step 69 = .ok (.iadd, 1) := by decide +kernel
theorem dX12_step_70 : decode cX12_step 70 = .ok (.dup2, 1) := by decide +kernel
theorem dX12_step_71 : decode cX12_step 71 = .ok (.iaload, 1) := by decide +kernel
theorem dX12_step_72 : decode cX12_step 72 = .ok (.iconst 1, 1) := by decide +kernel
theorem dX12_step_73 : decode cX12_step 73 = .ok (.iadd, 1) := by decide +kernel
theorem dX12_step_74 : decode cX12_step 74 = .ok (.iastore, 1) := by decide +kernel
theorem dX12_step_75 : decode cX12_step 75 = .ok (.iload_n 2, 1) := by decide +kernel
theorem dX12_step_76 : decode cX12_step 76 = .ok (.ireturn, 1) := by decide +kernel
theorem dX12_steps_0 : decode cX12_steps 0 = .ok (.iload_n 1, 1) := by decide +kernel
theorem dX12_steps_1 : decode cX12_steps 1 = .ok (.i2l, 1) := by decide +kernel
theorem dX12_steps_2 : decode cX12_steps 2 = .ok (.lconst 1, 1) := by decide +kernel
theorem dX12_steps_3 : decode cX12_steps 3 = .ok (.ldc2_w 157, 3) := by decide +kernel
theorem dX12_steps_6 : decode cX12_steps 6 = .ok (.invokestatic 62, 3) := by decide +kernel
theorem dX12_steps_9 : decode cX12_steps 9 = .ok (.ifCond .ne 5, 3) := by decide +kernel
theorem dX12_steps_12 : decode cX12_steps 12 = .ok (.iconst (-1), 1) := by decide +kernel
theorem dX12_steps_13 : decode cX12_steps 13 = .ok (.ireturn, 1) := by decide +kernel
theorem dX12_steps_14 : decode cX12_steps 14 = .ok (.aload_n 0, 1) := by decide +kernel
theorem dX12_steps_15 : decode cX12_steps 15 = .ok (.getfield 29, 3) := by decide +kernel
theorem dX12_steps_18 : decode cX12_steps 18 = .ok (.bipush 41, 2) := by decide +kernel
theorem dX12_steps_20 : decode cX12_steps 20 = .ok (.iaload, 1) := by decide +kernel
theorem dX12_steps_21 : decode cX12_steps 21 = .ok (.iload_n 1, 1) := by decide +kernel
theorem dX12_steps_22 : decode cX12_steps 22 = .ok (.iadd, 1) := by decide +kernel
theorem dX12_steps_23 : decode cX12_steps 23 = .ok (.sipush 9999, 3) := by decide +kernel
theorem dX12_steps_26 : decode cX12_steps 26 = .ok (.if_icmp .le 6, 3) := by decide +kernel
theorem dX12_steps_29 : decode cX12_steps 29 = .ok (.bipush (-2), 2) := by decide +kernel
theorem dX12_steps_31 : decode cX12_steps 31 = .ok (.ireturn, 1) := by decide +kernel
theorem dX12_steps_32 : decode cX12_steps 32 = .ok (.aload_n 0, 1) := by decide +kernel
theorem dX12_steps_33 : decode cX12_steps 33 = .ok (.invokevirtual 159, 3) := by decide +kernel
theorem dX12_steps_36 : decode cX12_steps 36 = .ok (.iconst 0, 1) := by decide +kernel
theorem dX12_steps_37 : decode cX12_steps 37 = .ok (.istore_n 2, 1) := by decide +kernel
theorem dX12_steps_38 : decode cX12_steps 38 = .ok (.iconst 0, 1) := by decide +kernel
theorem dX12_steps_39 : decode cX12_steps 39 = .ok (.istore_n 3, 1) := by decide +kernel
theorem dX12_steps_40 : decode cX12_steps 40 = .ok (.iload_n 3, 1) := by decide +kernel
theorem dX12_steps_41 : decode cX12_steps 41 = .ok (.iload_n 1, 1) := by decide +kernel
theorem dX12_steps_42 : decode cX12_steps 42 = .ok (.if_icmp .ge 17, 3) := by decide +kernel
theorem dX12_steps_45 : decode cX12_steps 45 = .ok (.iload_n 2, 1) := by decide +kernel
theorem dX12_steps_46 : decode cX12_steps 46 = .ok (.aload_n 0, 1) := by decide +kernel
theorem dX12_steps_47 : decode cX12_steps 47 = .ok (.iconst 0, 1) := by decide +kernel
theorem dX12_steps_48 : decode cX12_steps 48 = .ok (.invokevirtual 162, 3) := by decide +kernel
theorem dX12_steps_51 : decode cX12_steps 51 = .ok (.iadd, 1) := by decide +kernel
theorem dX12_steps_52 : decode cX12_steps 52 = .ok (.istore_n 2, 1) := by decide +kernel
theorem dX12_steps_53 : decode cX12_steps 53 = .ok (.iinc 3 1, 3) := by decide +kernel
theorem dX12_steps_56 : decode cX12_steps 56 = .ok (.goto (-16), 3) := by decide +kernel
theorem dX12_steps_59 : decode cX12_steps 59 = .ok (.aload_n 0, 1) := by decide +kernel
theorem dX12_steps_60 : decode cX12_steps 60 = .ok (.getfield 29, 3) := by decide +kernel
theorem dX12_steps_63 : decode cX12_steps 63 = .ok (.bipush 41, 2) := by decide +kernel
theorem dX12_steps_65 : decode cX12_steps 65 = .ok (.iaload, 1) := by decide +kernel
theorem dX12_steps_66 : decode cX12_steps 66 = .ok (.iload_n 2, 1) := by decide +kernel
theorem dX12_steps_67 : decode cX12_steps 67 = .ok (.iadd, 1) := by decide +kernel
theorem dX12_steps_68 : decode cX12_steps 68 = .ok (.iload_n 2, 1) := by decide +kernel
theorem dX12_steps_69 : decode cX12_steps 69 = .ok (.isub, 1) := by decide +kernel
theorem dX12_steps_70 : decode cX12_steps 70 = .ok (.ireturn, 1) := by decide +kernel
theorem dX12_more_0 : decode cX12_more 0 = .ok (.aload_n 0, 1) := by decide +kernel
theorem dX12_more_1 : decode cX12_more 1 = .ok (.getfield 29, 3) := by decide +kernel
theorem dX12_more_4 : decode cX12_more 4 = .ok (.bipush 42, 2) := by decide +kernel
theorem dX12_more_6 : decode cX12_more 6 = .ok (.iload_n 1, 1) := by decide +kernel
theorem dX12_more_7 : decode cX12_more 7 = .ok (.imul, 1) := by decide +kernel
theorem dX12_more_8 : decode cX12_more 8 = .ok (.iaload, 1) := by decide +kernel
theorem dX12_more_9 : decode cX12_more 9 = .ok (.istore 5, 2) := by decide +kernel
theorem dX12_more_11 : decode cX12_more 11 = .ok (.aload_n 0, 1) := by decide +kernel
theorem dX12_more_12 : decode cX12_more 12 = .ok (.getfield 29, 3) := by decide +kernel
theorem dX12_more_15 : decode cX12_more 15 = .ok (.bipush 42, 2) := by decide +kernel
theorem dX12_more_17 : decode cX12_more 17 = .ok (.iload_n 1, 1) := by decide +kernel
theorem dX12_more_18 : decode cX12_more 18 = .ok (.imul, 1) := by decide +kernel
theorem dX12_more_19 : decode cX12_more 19 = .ok (.iconst 1, 1) := by decide +kernel
theorem dX12_more_20 : decode cX12_more 20 = .ok (.iadd, 1) := by decide +kernel
theorem dX12_more_21 : decode cX12_more 21 = .ok (.iload 5, 2) := by decide +kernel
theorem dX12_more_23 : decode cX12_more 23 = .ok (.iadd, 1) := by decide +kernel
theorem dX12_more_24 : decode cX12_more 24 = .ok (.iload_n 2, 1) := by decide +kernel
theorem dX12_more_25 : decode cX12_more 25 = .ok (.iastore, 1) := by decide +kernel
theorem dX12_more_26 : decode cX12_more 26 = .ok (.aload_n 0, 1) := by decide +kernel
theorem dX12_more_27 : decode cX12_more 27 = .ok (.getfield 29, 3) := by decide +kernel
theorem dX12_more_30 : decode cX12_more 30 = .ok (.bipush 42, 2) := by decide +kernel
theorem dX12_more_32 : decode cX12_more 32 = .ok (.iload_n 1, 1) := by decide +kernel
theorem dX12_more_33 : decode cX12_more 33 = .ok (.imul, 1) := by decide +kernel
theorem dX12_more_34 : decode cX12_more 34 = .ok (.bipush 8, 2) := by decide +kernel
theorem dX12_more_36 : decode cX12_more 36 = .ok (.iadd, 1) := by decide +kernel
theorem dX12_more_37 : decode cX12_more 37 = .ok (.iload 5, 2) := by decide +kernel
theorem dX12_more_39 : decode cX12_more 39 = .ok (.iadd, 1) := by decide +kernel
theorem dX12_more_40 : decode cX12_more 40 = .ok (.iload_n 3, 1) := by decide +kernel
theorem dX12_more_41 : decode cX12_more 41 = .ok (.iastore, 1) := by decide +kernel
theorem dX12_more_42 : decode cX12_more 42 = .ok (.aload_n 0, 1) := by decide +kernel
theorem dX12_more_43 : decode cX12_more 43 = .ok (.getfield 29, 3) := by decide +kernel
theorem dX12_more_46 : decode cX12_more 46 = .ok (.bipush 42, 2) := by decide +kernel
theorem dX12_more_48 : decode cX12_more 48 = .ok (.iload_n 1, 1) := by decide +kernel
theorem dX12_more_49 : decode cX12_more 49 = .ok (.imul, 1) := by decide +kernel
theorem dX12_more_50 : decode cX12_more 50 = .ok (.bipush 15, 2) := by decide +kernel
theorem dX12_more_52 : decode cX12_more 52 = .ok (.iadd, 1) := by decide +kernel
theorem dX12_more_53 : decode cX12_more 53 = .ok (.iload 5, 2) := by decide +kernel
theorem dX12_more_55 : decode cX12_more 55 = .ok (.iadd, 1) := by decide +kernel
theorem dX12_more_56 : decode cX12_more 56 = .ok (.iload 4, 2) := by decide +kernel
theorem dX12_more_58 : decode cX12_more 58 = .ok (.iastore, 1) := by decide +kernel
theorem dX12_more_59 : decode cX12_more 59 = .ok (.aload_n 0, 1) := by decide +kernel
theorem dX12_more_60 : decode cX12_more 60 = .ok (.getfield 29, 3) := by decide +kernel
theorem dX12_more_63 : decode cX12_more 63 = .ok (.bipush 42, 2) := by decide +kernel
theorem dX12_more_65 : decode cX12_more 65 = .ok (.iload_n 1, 1) := by decide +kernel
theorem dX12_more_66 : decode cX12_more 66 = .ok (.imul, 1) := by decide +kernel
theorem dX12_more_67 : decode cX12_more 67 = .ok (.bipush 22, 2) := by decide +kernel
theorem dX12_more_69 : decode cX12_more 69 = .ok (.iadd, 1) := by decide +kernel
theorem dX12_more_70 : decode cX12_more 70 = .ok (.iload 5, 2) := by decide +kernel
theorem dX12_more_72 : decode cX12_more 72 = .ok (.iadd, 1) := by decide +kernel
theorem dX12_more_73 : decode cX12_more 73 = .ok (.iconst 0, 1) := by decide +kernel
theorem dX12_more_74 : decode cX12_more 74 = .ok (.iastore, 1) := by decide +kernel
theorem dX12_more_75 : decode cX12_more 75 = .ok (.aload_n 0, 1) := by decide +kernel
theorem dX12_more_76 : decode cX12_more 76 = .ok (.getfield 29, 3) := by decide +kernel
theorem dX12_more_79 : decode cX12_more 79 = .ok (.bipush 42, 2) := by decide +kernel
theorem dX12_more_81 : decode cX12_more 81 = .ok (.iload_n 1, 1) := by decide +kernel
theorem dX12_more_82 : decode cX12_more 82 = .ok (.imul, 1) := by decide +kernel
theorem dX12_more_83 : decode cX12_more 83 = .ok (.dup2, 1) := by decide +kernel
theorem dX12_more_84 : decode cX12_more 84 = .ok (.iaload, 1) := by decide +kernel
theorem dX12_more_85 : decode cX12_more 85 = .ok (.iconst 1, 1) := by decide +kernel
theorem dX12_more_86 : decode cX12_more 86 = .ok (.iadd, 1) := by decide +kernel
theorem dX12_more_87 : decode cX12_more 87 = .ok (.iastore, 1) := by decide +kernel
theorem dX12_more_88 : decode cX12_more 88 = .ok (.iload 5, 2) := by decide +kernel
theorem dX12_more_90 : decode cX12_more 90 = .ok (.ireturn, 1) := by decide +kernel
theorem dX12_letGo_0 : decode cX12_letGo 0 = .ok (.aload_n 0, 1) := by decide +kernel
theorem dX12_letGo_1 : decode cX12_letGo 1 = .ok (.iload_n 1, 1) := by decide +kernel
theorem dX12_letGo_2 : decode cX12_letGo 2 = .ok (.invokevirtual 133, 3) := by decide +kernel
theorem dX12_letGo_5 : decode cX12_letGo 5 = .ok (.ifCond .eq 15, 3) := by decide +kernel
theorem dX12_letGo_8 : decode cX12_letGo 8 = .ok (.iload_n 2, 1) := by decide +kernel
theorem dX12_letGo_9 : decode cX12_letGo 9 = .ok (.i2l, 1) := by decide +kernel
theorem dX12_letGo_10 : decode cX12_letGo 10 = .ok (.lconst 0, 1) := by decide +kernel
theorem dX12_letGo_11 : decode cX12_letGo 11 = .ok (.ldc2_w 95, 3) := by decide +kernel
theorem dX12_letGo_14 : decode cX12_letGo 14 = .ok (.invokestatic 62, 3) := by decide +kernel
theorem dX12_letGo_17 : decode cX12_letGo 17 = .ok (.ifCond .ne 5, 3) := by decide +kernel
theorem dX12_letGo_20 : decode cX12_letGo 20 = .ok (.iconst (-1), 1) := by decide +kernel
theorem dX12_letGo_21 : decode cX12_letGo 21 = .ok (.ireturn, 1) := by decide +kernel
theorem dX12_letGo_22 : decode cX12_letGo 22 = .ok (.aload_n 0, 1) := by decide +kernel
theorem dX12_letGo_23 : decode cX12_letGo 23 = .ok (.iload_n 1, 1) := by decide +kernel
theorem dX12_letGo_24 : decode cX12_letGo 24 = .ok (.invokevirtual 165, 3) := by decide +kernel
theorem dX12_letGo_27 : decode cX12_letGo 27 = .ok (.ifCond .ne 14, 3) := by decide +kernel
theorem dX12_letGo_30 : decode cX12_letGo 30 = .ok (.aload_n 0, 1) := by decide +kernel
theorem dX12_letGo_31 : decode cX12_letGo 31 = .ok (.getfield 29, 3) := by decide +kernel
theorem dX12_letGo_34 : decode cX12_letGo 34 = .ok (.iconst 0, 1) := by decide +kernel
theorem dX12_letGo_35 : decode cX12_letGo 35 = .ok (.iaload, 1) := by decide +kernel
theorem dX12_letGo_36 : decode cX12_letGo 36 = .ok (.bipush 7, 2) := by decide +kernel
theorem dX12_letGo_38 : decode cX12_letGo 38 = .ok (.if_icmp .ne 19, 3) := by decide +kernel
theorem dX12_letGo_41 : decode cX12_letGo 41 = .ok (.aload_n 0, 1) := by decide +kernel
theorem dX12_letGo_42 : decode cX12_letGo 42 = .ok (.iload_n 1, 1) := by decide +kernel
theorem dX12_letGo_43 : decode cX12_letGo 43 = .ok (.invokevirtual 165, 3) := by decide +kernel
theorem dX12_letGo_46 : decode cX12_letGo 46 = .ok (.ifCond .eq 8, 3) := by decide +kernel
theorem dX12_letGo_49 : decode cX12_letGo 49 = .ok (.bipush (-2), 2) := by decide +kernel
theorem dX12_letGo_51 : decode cX12_letGo 51 = .ok (.goto 5, 3) := by decide +kernel
theorem dX12_letGo_54 : decode cX12_letGo 54 = .ok (.bipush (-3), 2) := by decide +kernel
theorem dX12_letGo_56 : decode cX12_letGo 56 = .ok (.ireturn, 1) := by decide +kernel
theorem dX12_letGo_57 : decode cX12_letGo 57 = .ok (.aload_n 0, 1) := by decide +kernel
theorem dX12_letGo_58 : decode cX12_letGo 58 = .ok (.invokevirtual 159, 3) := by decide +kernel
theorem dX12_letGo_61 : decode cX12_letGo 61 = .ok (.aload_n 0, 1) := by decide +kernel
theorem dX12_letGo_62 : decode cX12_letGo 62 = .ok (.iconst 0, 1) := by decide +kernel
theorem dX12_letGo_63 : decode cX12_letGo 63 = .ok (.aload_n 0, 1) := by decide +kernel
theorem dX12_letGo_64 : decode cX12_letGo 64 = .ok (.iload_n 1, 1) := by decide +kernel
theorem dX12_letGo_65 : decode cX12_letGo 65 = .ok (.invokevirtual 127, 3) := by decide +kernel
theorem dX12_letGo_68 : decode cX12_letGo 68 = .ok (.aload_n 0, 1) := by decide +kernel
theorem dX12_letGo_69 : decode cX12_letGo 69 = .ok (.getfield 29, 3) := by decide +kernel
theorem dX12_letGo_72 : decode cX12_letGo 72 = .ok (.bipush 29, 2) := by decide +kernel
theorem dX12_letGo_74 : decode cX12_letGo 74 = .ok (.iload_n 1, 1) := by decide +kernel
theorem dX12_letGo_75 : decode cX12_letGo 75 = .ok (.iadd, 1) := by decide +kernel
theorem dX12_letGo_76 : decode cX12_letGo 76 = .ok (.iaload, 1) := by decide +kernel
theorem dX12_letGo_77 : decode cX12_letGo 77 = .ok (.iload_n 2, 1) := by decide +kernel
theorem dX12_letGo_78 : decode cX12_letGo 78 = .ok (.invokevirtual 168, 3) := by decide +kernel
theorem dX12_letGo_81 : decode cX12_letGo 81 = .ok (.ireturn, 1) := by decide +kernel
theorem dX12_hang_0 : decode cX12_hang 0 = .ok (.aload_n 0, 1) := by decide +kernel
theorem dX12_hang_1 : decode cX12_hang 1 = .ok (.iload_n 1, 1) := by decide +kernel
theorem dX12_hang_2 : decode cX12_hang 2 = .ok (.invokevirtual 133, 3) := by decide +kernel
theorem dX12_hang_5 : decode cX12_hang 5 = .ok (.ifCond .eq 11, 3) := by decide +kernel
theorem dX12_hang_8 : decode cX12_hang 8 = .ok (.aload_n 0, 1) := by decide +kernel
theorem dX12_hang_9 : decode cX12_hang 9 = .ok (.iload_n 2, 1) := by decide +kernel
theorem dX12_hang_10 : decode cX12_hang 10 = .ok (.invokevirtual 172, 3) := by decide +kernel
theorem dX12_hang_13 : decode cX12_hang 13 = .ok (.ifCond .ne 5, 3) := by decide +kernel
theorem dX12_hang_16 : decode cX12_hang 16 = .ok (.iconst (-1), 1) := by decide +kernel
theorem dX12_hang_17 : decode cX12_hang 17 = .ok (.ireturn, 1) := by decide +kernel
theorem dX12_hang_18 : decode cX12_hang 18 = .ok (.aload_n 0, 1) := by decide +kernel
theorem dX12_hang_19 : decode cX12_hang 19 = .ok (.iload_n 1, 1) := by decide +kernel
theorem dX12_hang_20 : decode cX12_hang 20 = .ok (.invokevirtual 165, 3) := by decide +kernel
theorem dX12_hang_23 : decode cX12_hang 23 = .ok (.ifCond .ne 30, 3) := by decide +kernel
theorem dX12_hang_26 : decode cX12_hang 26 = .ok (.aload_n 0, 1) := by decide +kernel
theorem dX12_hang_27 : decode cX12_hang 27 = .ok (.iconst 0, 1) := by decide +kernel
theorem dX12_hang_28 : decode cX12_hang 28 = .ok (.aload_n 0, 1) := by decide +kernel
theorem dX12_hang_29 : decode cX12_hang 29 = .ok (.iload_n 1, 1) := by decide +kernel
theorem dX12_hang_30 : decode cX12_hang 30 = .ok (.invokevirtual 127, 3) := by decide +kernel
theorem dX12_hang_33 : decode cX12_hang 33 = .ok (.iload_n 2, 1) := by decide +kernel
theorem dX12_hang_34 : decode cX12_hang 34 = .ok (.invokevirtual 151, 3) := by decide +kernel
theorem dX12_hang_37 : decode cX12_hang 37 = .ok (.ifCond .ge 16, 3) := by decide +kernel
theorem dX12_hang_40 : decode cX12_hang 40 = .ok (.aload_n 0, 1) := by decide +kernel
theorem dX12_hang_41 : decode cX12_hang 41 = .ok (.aload_n 0, 1) := by decide +kernel
theorem dX12_hang_42 : decode cX12_hang 42 = .ok (.iload_n 1, 1) := by decide +kernel
theorem dX12_hang_43 : decode cX12_hang 43 = .ok (.invokevirtual 127, 3) := by decide +kernel
theorem dX12_hang_46 : decode cX12_hang 46 = .ok (.iload_n 2, 1) := by decide +kernel
theorem dX12_hang_47 : decode cX12_hang 47 = .ok (.invokevirtual 175, 3) := by decide +kernel
theorem dX12_hang_50 : decode cX12_hang 50 = .ok (.ifCond .eq 6, 3) := by decide +kernel
theorem dX12_hang_53 : decode cX12_hang 53 = .ok (.bipush (-2), 2) := by decide +kernel
theorem dX12_hang_55 : decode cX12_hang 55 = .ok (.ireturn, 1) := by decide +kernel
theorem dX12_hang_56 : decode cX12_hang 56 = .ok (.aload_n 0, 1) := by decide +kernel
theorem dX12_hang_57 : decode cX12_hang 57 = .ok (.invokevirtual 159, 3) := by decide +kernel
theorem dX12_hang_60 : decode cX12_hang 60 = .ok (.aload_n 0, 1) := by decide +kernel
theorem dX12_hang_61 : decode cX12_hang 61 = .ok (.getfield 29, 3) := by decide +kernel
theorem dX12_hang_64 : decode cX12_hang 64 = .ok (.bipush 29, 2) := by decide +kernel
theorem dX12_hang_66 : decode cX12_hang 66 = .ok (.iload_n 1, 1) := by decide +kernel
theorem dX12_hang_67 : decode cX12_hang 67 = .ok (.iadd, 1) := by decide +kernel
theorem dX12_hang_68 : decode cX12_hang 68 = .ok (.iaload, 1) := by decide +kernel
theorem dX12_hang_69 : decode cX12_hang 69 = .ok (.istore_n 3, 1) := by decide +kernel
theorem dX12_hang_70 : decode cX12_hang 70 = .ok (.aload_n 0, 1) := by decide +kernel
theorem dX12_hang_71 : decode cX12_hang 71 = .ok (.getfield 29, 3) := by decide +kernel
theorem dX12_hang_74 : decode cX12_hang 74 = .ok (.bipush 29, 2) := by decide +kernel
theorem dX12_hang_76 : decode cX12_hang 76 = .ok (.iload_n 1, 1) := by decide +kernel
theorem dX12_hang_77 : decode cX12_hang 77 = .ok (.iadd, 1) := by decide +kernel
theorem dX12_hang_78 : decode cX12_hang 78 = .ok (.iload_n 2, 1) := by decide +kernel
theorem dX12_hang_79 : decode cX12_hang 79 = .ok (.iastore, 1) := by decide +kernel
theorem dX12_hang_80 : decode cX12_hang 80 = .ok (.iload_n 3, 1) := by decide +kernel
theorem dX12_hang_81 : decode cX12_hang 81 = .ok (.ireturn, 1) := by decide +kernel
theorem dX12_cut_0 : decode cX12_cut 0 = .ok (.aload_n 0, 1) := by decide +kernel
theorem dX12_cut_1 : decode cX12_cut 1 = .ok (.iload_n 1, 1) := by decide +kernel
theorem dX12_cut_2 : decode cX12_cut 2 = .ok (.invokevirtual 133, 3) := by decide +kernel
theorem dX12_cut_5 : decode cX12_cut 5 = .ok (.ifCond .ne 5, 3) := by decide +kernel
theorem dX12_cut_8 : decode cX12_cut 8 = .ok (.iconst (-1), 1) := by decide +kernel
theorem dX12_cut_9 : decode cX12_cut 9 = .ok (.ireturn, 1) := by decide +kernel
theorem dX12_cut_10 : decode cX12_cut 10 = .ok (.aload_n 0, 1) := by decide +kernel
theorem dX12_cut_11 : decode cX12_cut 11 = .ok (.iload_n 1, 1) := by decide +kernel
theorem dX12_cut_12 : decode cX12_cut 12 = .ok (.invokevirtual 165, 3) := by decide +kernel
theorem dX12_cut_15 : decode cX12_cut 15 = .ok (.ifCond .ne 14, 3) := by decide +kernel
theorem dX12_cut_18 : decode cX12_cut 18 = .ok (.aload_n 0, 1) := by decide +kernel
theorem dX12_cut_19 : decode cX12_cut 19 = .ok (.getfield 29, 3) := by decide +kernel
theorem dX12_cut_22 : decode cX12_cut 22 = .ok (.iconst 0, 1) := by decide +kernel
theorem dX12_cut_23 : decode cX12_cut 23 = .ok (.iaload, 1) := by decide +kernel
theorem dX12_cut_24 : decode cX12_cut 24 = .ok (.bipush 7, 2) := by decide +kernel
theorem dX12_cut_26 : decode cX12_cut 26 = .ok (.if_icmp .ne 19, 3) := by decide +kernel
theorem dX12_cut_29 : decode cX12_cut 29 = .ok (.aload_n 0, 1) := by decide +kernel
theorem dX12_cut_30 : decode cX12_cut 30 = .ok (.iload_n 1, 1) := by decide +kernel
theorem dX12_cut_31 : decode cX12_cut 31 = .ok (.invokevirtual 165, 3) := by decide +kernel
theorem dX12_cut_34 : decode cX12_cut 34 = .ok (.ifCond .eq 8, 3) := by decide +kernel
theorem dX12_cut_37 : decode cX12_cut 37 = .ok (.bipush (-2), 2) := by decide +kernel
theorem dX12_cut_39 : decode cX12_cut 39 = .ok (.goto 5, 3) := by decide +kernel
theorem dX12_cut_42 : decode cX12_cut 42 = .ok (.bipush (-3), 2) := by decide +kernel
theorem dX12_cut_44 : decode cX12_cut 44 = .ok (.ireturn, 1) := by decide +kernel
theorem dX12_cut_45 : decode cX12_cut 45 = .ok (.aload_n 0, 1) := by decide +kernel
theorem dX12_cut_46 : decode cX12_cut 46 = .ok (.invokevirtual 159, 3) := by decide +kernel
theorem dX12_cut_49 : decode cX12_cut 49 = .ok (.aload_n 0, 1) := by decide +kernel
theorem dX12_cut_50 : decode cX12_cut 50 = .ok (.getfield 29, 3) := by decide +kernel
theorem dX12_cut_53 : decode cX12_cut 53 = .ok (.bipush 35, 2) := by decide +kernel
theorem dX12_cut_55 : decode cX12_cut 55 = .ok (.iload_n 1, 1) := by decide +kernel
theorem dX12_cut_56 : decode cX12_cut 56 = .ok (.iadd, 1) := by decide +kernel
theorem dX12_cut_57 : decode cX12_cut 57 = .ok (.iconst 1, 1) := by decide +kernel
theorem dX12_cut_58 : decode cX12_cut 58 = .ok (.iastore, 1) := by decide +kernel
theorem dX12_cut_59 : decode cX12_cut 59 = .ok (.iconst 0, 1) := by decide +kernel
theorem dX12_cut_60 : decode cX12_cut 60 = .ok (.istore_n 2, 1) := by decide +kernel
theorem dX12_cut_61 : decode cX12_cut 61 = .ok (.iload_n 2, 1) := by decide +kernel
theorem dX12_cut_62 : decode cX12_cut 62 = .ok (.aload_n 0, 1) := by decide +kernel
theorem dX12_cut_63 : decode cX12_cut 63 = .ok (.getfield 29, 3) := by decide +kernel
theorem dX12_cut_66 : decode cX12_cut 66 = .ok (.iconst 0, 1) := by decide +kernel
theorem dX12_cut_67 : decode cX12_cut 67 = .ok (.iaload, 1) := by decide +kernel
theorem dX12_cut_68 : decode cX12_cut 68 = .ok (.if_icmp .ge 52, 3) := by decide +kernel
theorem dX12_cut_71 : decode cX12_cut 71 = .ok (.aload_n 0, 1) := by decide +kernel
theorem dX12_cut_72 : decode cX12_cut 72 = .ok (.getfield 29, 3) := by decide +kernel
theorem dX12_cut_75 : decode cX12_cut 75 = .ok (.bipush 22, 2) := by decide +kernel
theorem dX12_cut_77 : decode cX12_cut 77 = .ok (.iload_n 2, 1) := by decide +kernel
theorem dX12_cut_78 : decode cX12_cut 78 = .ok (.iadd, 1) := by decide +kernel
theorem dX12_cut_79 : decode cX12_cut 79 = .ok (.iaload, 1) := by decide +kernel
theorem dX12_cut_80 : decode cX12_cut 80 = .ok (.iload_n 1, 1) := by decide +kernel
theorem dX12_cut_81 : decode cX12_cut 81 = .ok (.iconst 1, 1) := by decide +kernel
theorem dX12_cut_82 : decode cX12_cut 82 = .ok (.iadd, 1) := by decide +kernel
theorem dX12_cut_83 : decode cX12_cut 83 = .ok (.if_icmp .ne 31, 3) := by decide +kernel
theorem dX12_cut_86 : decode cX12_cut 86 = .ok (.aload_n 0, 1) := by decide +kernel
theorem dX12_cut_87 : decode cX12_cut 87 = .ok (.getfield 29, 3) := by decide +kernel
theorem dX12_cut_90 : decode cX12_cut 90 = .ok (.bipush 22, 2) := by decide +kernel
theorem dX12_cut_92 : decode cX12_cut 92 = .ok (.iload_n 2, 1) := by decide +kernel
theorem dX12_cut_93 : decode cX12_cut 93 = .ok (.iadd, 1) := by decide +kernel
theorem dX12_cut_94 : decode cX12_cut 94 = .ok (.iconst 0, 1) := by decide +kernel
theorem dX12_cut_95 : decode cX12_cut 95 = .ok (.iastore, 1) := by decide +kernel
theorem dX12_cut_96 : decode cX12_cut 96 = .ok (.aload_n 0, 1) := by decide +kernel
theorem dX12_cut_97 : decode cX12_cut 97 = .ok (.getfield 29, 3) := by decide +kernel
theorem dX12_cut_100 : decode cX12_cut 100 = .ok (.bipush 8, 2) := by decide +kernel
theorem dX12_cut_102 : decode cX12_cut 102 = .ok (.iload_n 2, 1) := by decide +kernel
theorem dX12_cut_103 : decode cX12_cut 103 = .ok (.iadd, 1) := by decide +kernel
theorem dX12_cut_104 : decode cX12_cut 104 = .ok (.aload_n 0, 1) := by decide +kernel
theorem dX12_cut_105 : decode cX12_cut 105 = .ok (.getfield 29, 3) := by decide +kernel
theorem dX12_cut_108 : decode cX12_cut 108 = .ok (.bipush 29, 2) := by decide +kernel
theorem dX12_cut_110 : decode cX12_cut 110 = .ok (.iload_n 1, 1) := by decide +kernel
theorem dX12_cut_111 : decode cX12_cut 111 = .ok (.iadd, 1) := by decide +kernel
theorem dX12_cut_112 : decode cX12_cut 112 = .ok (.iaload, 1) := by decide +kernel
theorem dX12_cut_113 : decode cX12_cut 113 = .ok (.iastore, 1) := by decide +kernel
theorem dX12_cut_114 : decode cX12_cut 114 = .ok (.iinc 2 1, 3) := by decide +kernel
theorem dX12_cut_117 : decode cX12_cut 117 = .ok (.goto (-56), 3) := by decide +kernel
theorem dX12_cut_120 : decode cX12_cut 120 = .ok (.aload_n 0, 1) := by decide +kernel
theorem dX12_cut_121 : decode cX12_cut 121 = .ok (.iconst 0, 1) := by decide +kernel
theorem dX12_cut_122 : decode cX12_cut 122 = .ok (.aload_n 0, 1) := by decide +kernel
theorem dX12_cut_123 : decode cX12_cut 123 = .ok (.iload_n 1, 1) := by decide +kernel
theorem dX12_cut_124 : decode cX12_cut 124 = .ok (.invokevirtual 127, 3) := by decide +kernel
theorem dX12_cut_127 : decode cX12_cut 127 = .ok (.aload_n 0, 1) := by decide +kernel
theorem dX12_cut_128 : decode cX12_cut 128 = .ok (.getfield 29, 3) := by decide +kernel
theorem dX12_cut_131 : decode cX12_cut 131 = .ok (.bipush 29, 2) := by decide +kernel
theorem dX12_cut_133 : decode cX12_cut 133 = .ok (.iload_n 1, 1) := by decide +kernel
theorem dX12_cut_134 : decode cX12_cut 134 = .ok (.iadd, 1) := by decide +kernel
theorem dX12_cut_135 : decode cX12_cut 135 = .ok (.iaload, 1) := by decide +kernel
theorem dX12_cut_136 : decode cX12_cut 136 = .ok (.bipush 9, 2) := by decide +kernel
theorem dX12_cut_138 : decode cX12_cut 138 = .ok (.invokevirtual 168, 3) := by decide +kernel
theorem dX12_cut_141 : decode cX12_cut 141 = .ok (.ireturn, 1) := by decide +kernel
theorem dX12_undo_0 : decode cX12_undo 0 = .ok (.aload_n 0, 1) := by decide +kernel
theorem dX12_undo_1 : decode cX12_undo 1 = .ok (.getfield 111, 3) := by decide +kernel
theorem dX12_undo_4 : decode cX12_undo 4 = .ok (.ifCond .ne 6, 3) := by decide +kernel
theorem dX12_undo_7 : decode cX12_undo 7 = .ok (.bipush (-2), 2) := by decide +kernel
theorem dX12_undo_9 : decode cX12_undo 9 = .ok (.ireturn, 1) := by decide +kernel
theorem dX12_undo_10 : decode cX12_undo 10 = .ok (.aload_n 0, 1) := by decide +kernel
theorem dX12_undo_11 : decode cX12_undo 11 = .ok (.dup, 1) := by decide +kernel
theorem dX12_undo_12 : decode cX12_undo 12 = .ok (.getfield 111, 3) := by decide +kernel
theorem dX12_undo_15 : decode cX12_undo 15 = .ok (.iconst 1, 1) := by decide +kernel
theorem dX12_undo_16 : decode cX12_undo 16 = .ok (.isub, 1) := by decide +kernel
theorem dX12_undo_17 : decode cX12_undo 17 = .ok (.putfield 111, 3) := by decide +kernel
theorem dX12_undo_20 : decode cX12_undo 20 = .ok (.aload_n 0, 1) := by decide +kernel
theorem dX12_undo_21 : decode cX12_undo 21 = .ok (.iconst 3, 1) := by decide +kernel
theorem dX12_undo_22 : decode cX12_undo 22 = .ok (.aload_n 0, 1) := by decide +kernel
theorem dX12_undo_23 : decode cX12_undo 23 = .ok (.getfield 111, 3) := by decide +kernel
theorem dX12_undo_26 : decode cX12_undo 26 = .ok (.iadd, 1) := by decide +kernel
theorem dX12_undo_27 : decode cX12_undo 27 = .ok (.iconst 0, 1) := by decide +kernel
theorem dX12_undo_28 : decode cX12_undo 28 = .ok (.invokevirtual 145, 3) := by decide +kernel
theorem dX12_undo_31 : decode cX12_undo 31 = .ok (.aload_n 0, 1) := by decide +kernel
theorem dX12_undo_32 : decode cX12_undo 32 = .ok (.getfield 111, 3) := by decide +kernel
theorem dX12_undo_35 : decode cX12_undo 35 = .ok (.ireturn, 1) := by decide +kernel
theorem dX12_behind_0 : decode cX12_behind 0 = .ok (.iload_n 1, 1) := by decide +kernel
theorem dX12_behind_1 : decode cX12_behind 1 = .ok (.i2l, 1) := by decide +kernel
theorem dX12_behind_2 : decode cX12_behind 2 = .ok (.lconst 0, 1) := by decide +kernel
theorem dX12_behind_3 : decode cX12_behind 3 = .ok (.ldc2_w 157, 3) := by decide +kernel
theorem dX12_behind_6 : decode cX12_behind 6 = .ok (.invokestatic 62, 3) := by decide +kernel
theorem dX12_behind_9 : decode cX12_behind 9 = .ok (.ifCond .eq 23, 3) := by decide +kernel
theorem dX12_behind_12 : decode cX12_behind 12 = .ok (.aload_n 0, 1) := by decide +kernel
theorem dX12_behind_13 : decode cX12_behind 13 = .ok (.iload_n 2, 1) := by decide +kernel
theorem dX12_behind_14 : decode cX12_behind 14 = .ok (.invokevirtual 136, 3) := by decide +kernel
theorem dX12_behind_17 : decode cX12_behind 17 = .ok (.ifCond .eq 15, 3) := by decide +kernel
theorem dX12_behind_20 : decode cX12_behind 20 = .ok (.iload_n 3, 1) := by decide +kernel
theorem dX12_behind_21 : decode cX12_behind 21 = .ok (.i2l, 1) := by decide +kernel
theorem dX12_behind_22 : decode cX12_behind 22 = .ok (.lconst 0, 1) := by decide +kernel
theorem dX12_behind_23 : decode cX12_behind 23 = .ok (.ldc2_w 77, 3) := by decide +kernel
theorem dX12_behind_26 : decode cX12_behind 26 = .ok (.invokestatic 62, 3) := by decide +kernel
theorem dX12_behind_29 : decode cX12_behind 29 = .ok (.ifCond .ne 5, 3) := by decide +kernel
theorem dX12_behind_32 : decode cX12_behind 32 = .ok (.iconst (-1), 1) := by decide +kernel
theorem dX12_behind_33 : decode cX12_behind 33 = .ok (.ireturn, 1) := by decide +kernel
theorem dX12_behind_34 : decode cX12_behind 34 = .ok (.aload_n 0, 1) := by decide +kernel
theorem dX12_behind_35 : decode cX12_behind 35 = .ok (.iconst 0, 1) := by decide +kernel
theorem dX12_behind_36 : decode cX12_behind 36 = .ok (.bipush 11, 2) := by decide +kernel
theorem dX12_behind_38 : decode cX12_behind 38 = .ok (.invokevirtual 145, 3) := by decide +kernel
theorem dX12_behind_41 : decode cX12_behind 41 = .ok (.iconst 0, 1) := by decide +kernel
theorem dX12_behind_42 : decode cX12_behind 42 = .ok (.istore 4, 2) := by decide +kernel
theorem dX12_behind_44 : decode cX12_behind 44 = .ok (.iconst 0, 1) := by decide +kernel
theorem dX12_behind_45 : decode cX12_behind 45 = .ok (.istore 5, 2) := by decide +kernel
theorem dX12_behind_47 : decode cX12_behind 47 = .ok (.iload 5, 2) := by decide +kernel
theorem dX12_behind_49 : decode cX12_behind 49 = .ok (.iload_n 1, 1) := by decide +kernel
theorem dX12_behind_50 : decode cX12_behind 50 = .ok (.if_icmp .ge 20, 3) := by decide +kernel
theorem dX12_behind_53 : decode cX12_behind 53 = .ok (.iload 4, 2) := by decide +kernel
theorem dX12_behind_55 : decode cX12_behind 55 = .ok (.aload_n 0, 1) := by decide +kernel
theorem dX12_behind_56 : decode cX12_behind 56 = .ok (.bipush 11, 2) := by decide +kernel
theorem dX12_behind_58 : decode cX12_behind 58 = .ok (.invokevirtual 162, 3) := by decide +kernel
theorem dX12_behind_61 : decode cX12_behind 61 = .ok (.iadd, 1) := by decide +kernel
theorem dX12_behind_62 : decode cX12_behind 62 = .ok (.istore 4, 2) := by decide +kernel
theorem dX12_behind_64 : decode cX12_behind 64 = .ok (.iinc 5 1, 3) := by decide +kernel
theorem dX12_behind_67 : decode cX12_behind 67 = .ok (.goto (-20), 3) := by decide +kernel
theorem dX12_behind_70 : decode cX12_behind 70 = .ok (.iload 4, 2) := by decide +kernel
theorem dX12_behind_72 : decode cX12_behind 72 = .ok (.ifCond .ge 7, 3) := by decide +kernel
theorem dX12_behind_75 : decode cX12_behind 75 = .ok (.iconst (-1), 1) := by decide +kernel
theorem dX12_behind_76 : decode cX12_behind 76 = .ok (.goto 20, 3) := by decide +kernel
theorem dX12_behind_79 : decode cX12_behind 79 = .ok (.aload_n 0, 1) := by decide +kernel
theorem dX12_behind_80 : decode cX12_behind 80 = .ok (.bipush 11, 2) := by decide +kernel
theorem dX12_behind_82 : decode cX12_behind 82 = .ok (.iload_n 2, 1) := by decide +kernel
theorem dX12_behind_83 : decode cX12_behind 83 = .ok (.iload_n 3, 1) := by decide +kernel
theorem dX12_behind_84 : decode cX12_behind 84 = .ok (.iconst 2, 1) := by decide +kernel
theorem dX12_behind_85 : decode cX12_behind 85 = .ok (.if_icmp .ne 7, 3) := by decide +kernel
theorem dX12_behind_88 : decode cX12_behind 88 = .ok (.iconst 3, 1) := by decide +kernel
theorem dX12_behind_89 : decode cX12_behind 89 = .ok (.goto 4, 3) := by decide +kernel
theorem dX12_behind_92 : decode cX12_behind 92 = .ok (.iload_n 3, 1) := by decide +kernel
theorem dX12_behind_93 : decode cX12_behind 93 = .ok (.invokevirtual 141, 3) := by decide +kernel
theorem dX12_behind_96 : decode cX12_behind 96 = .ok (.ireturn, 1) := by decide +kernel
theorem dX12_areMet_0 : decode cX12_areMet 0 = .ok (.sipush 462, 3) := by decide +kernel
theorem dX12_areMet_3 : decode cX12_areMet 3 = .ok (.istore_n 3, 1) := by decide +kernel
theorem dX12_areMet_4 : decode cX12_areMet 4 = .ok (.aload_n 0, 1) := by decide +kernel
theorem dX12_areMet_5 : decode cX12_areMet 5 = .ok (.getfield 29, 3) := by decide +kernel
theorem dX12_areMet_8 : decode cX12_areMet 8 = .ok (.iload_n 3, 1) := by decide +kernel
theorem dX12_areMet_9 : decode cX12_areMet 9 = .ok (.bipush 22, 2) := by decide +kernel
theorem dX12_areMet_11 : decode cX12_areMet 11 = .ok (.iadd, 1) := by decide +kernel
theorem dX12_areMet_12 : decode cX12_areMet 12 = .ok (.iload_n 1, 1) := by decide +kernel
theorem dX12_areMet_13 : decode cX12_areMet 13 = .ok (.iadd, 1) := by decide +kernel
theorem dX12_areMet_14 : decode cX12_areMet 14 = .ok (.iaload, 1) := by decide +kernel
theorem dX12_areMet_15 : decode cX12_areMet 15 = .ok (.ifCond .ne 21, 3) := by decide +kernel
theorem dX12_areMet_18 : decode cX12_areMet 18 = .ok (.aload_n 0, 1) := by decide +kernel
theorem dX12_areMet_19 : decode cX12_areMet 19 = .ok (.getfield 29, 3) := by decide +kernel
theorem dX12_areMet_22 : decode cX12_areMet 22 = .ok (.iload_n 3, 1) := by decide +kernel
theorem dX12_areMet_23 : decode cX12_areMet 23 = .ok (.bipush 22, 2) := by decide +kernel
theorem dX12_areMet_25 : decode cX12_areMet 25 = .ok (.iadd, 1) := by decide +kernel
theorem dX12_areMet_26 : decode cX12_areMet 26 = .ok (.iload_n 2, 1) := by decide +kernel
theorem dX12_areMet_27 : decode cX12_areMet 27 = .ok (.iadd, 1) := by decide +kernel
theorem dX12_areMet_28 : decode cX12_areMet 28 = .ok (.iaload, 1) := by decide +kernel
theorem dX12_areMet_29 : decode cX12_areMet 29 = .ok (.ifCond .ne 7, 3) := by decide +kernel
theorem dX12_areMet_32 : decode cX12_areMet 32 = .ok (.iconst 1, 1) := by decide +kernel
theorem dX12_areMet_33 : decode cX12_areMet 33 = .ok (.goto 4, 3) := by decide +kernel
theorem dX12_areMet_36 : decode cX12_areMet 36 = .ok (.iconst 0, 1) := by decide +kernel
theorem dX12_areMet_37 : decode cX12_areMet 37 = .ok (.istore 4, 2) := by decide +kernel
theorem dX12_areMet_39 : decode cX12_areMet 39 = .ok (.iload 4, 2) := by decide +kernel
theorem dX12_areMet_41 : decode cX12_areMet 41 = .ok (.ifCond .eq 55, 3) := by decide +kernel
theorem dX12_areMet_44 : decode cX12_areMet 44 = .ok (.aload_n 0, 1) := by decide +kernel
theorem dX12_areMet_45 : decode cX12_areMet 45 = .ok (.getfield 29, 3) := by decide +kernel
theorem dX12_areMet_48 : decode cX12_areMet 48 = .ok (.iload_n 3, 1) := by decide +kernel
theorem dX12_areMet_49 : decode cX12_areMet 49 = .ok (.iconst 1, 1) := by decide +kernel
theorem dX12_areMet_50 : decode cX12_areMet 50 = .ok (.iadd, 1) := by decide +kernel
theorem dX12_areMet_51 : decode cX12_areMet 51 = .ok (.iload_n 1, 1) := by decide +kernel
theorem dX12_areMet_52 : decode cX12_areMet 52 = .ok (.iadd, 1) := by decide +kernel
theorem dX12_areMet_53 : decode cX12_areMet 53 = .ok (.iaload, 1) := by decide +kernel
theorem dX12_areMet_54 : decode cX12_areMet 54 = .ok (.aload_n 0, 1) := by decide +kernel
theorem dX12_areMet_55 : decode cX12_areMet 55 = .ok (.getfield 29, 3) := by decide +kernel
theorem dX12_areMet_58 : decode cX12_areMet 58 = .ok (.iload_n 3, 1) := by decide +kernel
theorem dX12_areMet_59 : decode cX12_areMet 59 = .ok (.iconst 1, 1) := by decide +kernel
theorem dX12_areMet_60 : decode cX12_areMet 60 = .ok (.iadd, 1) := by decide +kernel
theorem dX12_areMet_61 : decode cX12_areMet 61 = .ok (.iload_n 2, 1) := by decide +kernel
theorem dX12_areMet_62 : decode cX12_areMet 62 = .ok (.iadd, 1) := by decide +kernel
theorem dX12_areMet_63 : decode cX12_areMet 63 = .ok (.iaload, 1) := by decide +kernel
theorem dX12_areMet_64 : decode cX12_areMet 64 = .ok (.if_icmp .ne 32, 3) := by decide +kernel
theorem dX12_areMet_67 : decode cX12_areMet 67 = .ok (.aload_n 0, 1) := by decide +kernel
theorem dX12_areMet_68 : decode cX12_areMet 68 = .ok (.getfield 29, 3) := by decide +kernel
theorem dX12_areMet_71 : decode cX12_areMet 71 = .ok (.iload_n 3, 1) := by decide +kernel
theorem dX12_areMet_72 : decode cX12_areMet 72 = .ok (.bipush 8, 2) := by decide +kernel
theorem dX12_areMet_74 : decode cX12_areMet 74 = .ok (.iadd, 1) := by decide +kernel
theorem dX12_areMet_75 : decode cX12_areMet 75 = .ok (.iload_n 1, 1) := by decide +kernel
theorem dX12_areMet_76 : decode cX12_areMet 76 = .ok (.iadd, 1) := by decide +kernel
theorem dX12_areMet_77 : decode cX12_areMet 77 = .ok (.iaload, 1) := by decide +kernel
theorem dX12_areMet_78 : decode cX12_areMet 78 = .ok (.aload_n 0, 1) := by decide +kernel
theorem dX12_areMet_79 : decode cX12_areMet 79 = .ok (.getfield 29, 3) := by decide +kernel
theorem dX12_areMet_82 : decode cX12_areMet 82 = .ok (.iload_n 3, 1) := by decide +kernel
theorem dX12_areMet_83 : decode cX12_areMet 83 = .ok (.bipush 8, 2) := by decide +kernel
theorem dX12_areMet_85 : decode cX12_areMet 85 = .ok (.iadd, 1) := by decide +kernel
theorem dX12_areMet_86 : decode cX12_areMet 86 = .ok (.iload_n 2, 1) := by decide +kernel
theorem dX12_areMet_87 : decode cX12_areMet 87 = .ok (.iadd, 1) := by decide +kernel
theorem dX12_areMet_88 : decode cX12_areMet 88 = .ok (.iaload, 1) := by decide +kernel
theorem dX12_areMet_89 : decode cX12_areMet 89 = .ok (.if_icmp .ne 7, 3) := by decide +kernel
theorem dX12_areMet_92 : decode cX12_areMet 92 = .ok (.iconst 1, 1) := by decide +kernel
theorem dX12_areMet_93 : decode cX12_areMet 93 = .ok (.goto 4, 3) := by decide +kernel
theorem dX12_areMet_96 : decode cX12_areMet 96 = .ok (.iconst 0, 1) := by decide +kernel
theorem dX12_areMet_97 : decode cX12_areMet 97 = .ok (.ireturn, 1) := by decide +kernel
theorem dX12_meet_0 : decode cX12_meet 0 = .ok (.aload_n 0, 1) := by decide +kernel
theorem dX12_meet_1 : decode cX12_meet 1 = .ok (.iload_n 1, 1) := by decide +kernel
theorem dX12_meet_2 : decode cX12_meet 2 = .ok (.invokevirtual 136, 3) := by decide +kernel
theorem dX12_meet_5 : decode cX12_meet 5 = .ok (.ifCond .eq 16, 3) := by decide +kernel
theorem dX12_meet_8 : decode cX12_meet 8 = .ok (.aload_n 0, 1) := by decide +kernel
theorem dX12_meet_9 : decode cX12_meet 9 = .ok (.iload_n 2, 1) := by decide +kernel
theorem dX12_meet_10 : decode cX12_meet 10 = .ok (.invokevirtual 136, 3) := by decide +kernel
theorem dX12_meet_13 : decode cX12_meet 13 = .ok (.ifCond .eq 8, 3) := by decide +kernel
theorem dX12_meet_16 : decode cX12_meet 16 = .ok (.iload_n 1, 1) := by decide +kernel
theorem dX12_meet_17 : decode cX12_meet 17 = .ok (.iload_n 2, 1) := by decide +kernel
theorem dX12_meet_18 : decode cX12_meet 18 = .ok (.if_icmp .ne 5, 3) := by decide +kernel
theorem dX12_meet_21 : decode cX12_meet 21 = .ok (.iconst (-1), 1) := by decide +kernel
theorem dX12_meet_22 : decode cX12_meet 22 = .ok (.ireturn, 1) := by decide +kernel
theorem dX12_meet_23 : decode cX12_meet 23 = .ok (.aload_n 0, 1) := by decide +kernel
theorem dX12_meet_24 : decode cX12_meet 24 = .ok (.iconst 0, 1) := by decide +kernel
theorem dX12_meet_25 : decode cX12_meet 25 = .ok (.bipush 11, 2) := by decide +kernel
theorem dX12_meet_27 : decode cX12_meet 27 = .ok (.invokevirtual 145, 3) := by decide +kernel
theorem dX12_meet_30 : decode cX12_meet 30 = .ok (.iconst 0, 1) := by decide +kernel
theorem dX12_meet_31 : decode cX12_meet 31 = .ok (.istore_n 3, 1) := by decide +kernel
theorem dX12_meet_32 : decode cX12_meet 32 = .ok (.iconst 0, 1) := by decide +kernel
theorem dX12_meet_33 : decode cX12_meet 33 = .ok (.istore 4, 2) := by decide +kernel
theorem dX12_meet_35 : decode cX12_meet 35 = .ok (.iload_n 3, 1) := by decide +kernel
theorem dX12_meet_36 : decode cX12_meet 36 = .ok (.bipush 60, 2) := by decide +kernel
theorem dX12_meet_38 : decode cX12_meet 38 = .ok (.if_icmp .ge 29, 3) := by decide +kernel
theorem dX12_meet_41 : decode cX12_meet 41 = .ok (.aload_n 0, 1) := by decide +kernel
theorem dX12_meet_42 : decode cX12_meet 42 = .ok (.iload_n 1, 1) := by decide +kernel
theorem dX12_meet_43 : decode cX12_meet 43 = .ok (.iload_n 2, 1) := by decide +kernel
theorem dX12_meet_44 : decode cX12_meet 44 = .ok (.invokevirtual 179, 3) := by decide +kernel
theorem dX12_meet_47 : decode cX12_meet 47 = .ok (.ifCond .ne 20, 3) := by decide +kernel
theorem dX12_meet_50 : decode cX12_meet 50 = .ok (.iload 4, 2) := by decide +kernel
theorem dX12_meet_52 : decode cX12_meet 52 = .ok (.aload_n 0, 1) := by decide +kernel
theorem dX12_meet_53 : decode cX12_meet 53 = .ok (.bipush 11, 2) := by decide +kernel
theorem dX12_meet_55 : decode cX12_meet 55 = .ok (.invokevirtual 162, 3) := by decide +kernel
theorem dX12_meet_58 : decode cX12_meet 58 = .ok (.iadd, 1) := by decide +kernel
theorem dX12_meet_59 : decode cX12_meet 59 = .ok (.istore 4, 2) := by decide +kernel
theorem dX12_meet_61 : decode cX12_meet 61 = .ok (.iinc 3 1, 3) := by decide +kernel
theorem dX12_meet_64 : decode cX12_meet 64 = .ok (.goto (-29), 3) := by decide +kernel
theorem dX12_meet_67 : decode cX12_meet 67 = .ok (.aload_n 0, 1) := by decide +kernel
theorem dX12_meet_68 : decode cX12_meet 68 = .ok (.iload_n 1, 1) := by decide +kernel
theorem dX12_meet_69 : decode cX12_meet 69 = .ok (.iload_n 2, 1) := by decide +kernel
theorem dX12_meet_70 : decode cX12_meet 70 = .ok (.invokevirtual 179, 3) := by decide +kernel
theorem dX12_meet_73 : decode cX12_meet 73 = .ok (.ifCond .eq 12, 3) := by decide +kernel
theorem dX12_meet_76 : decode cX12_meet 76 = .ok (.iload 4, 2) := by decide +kernel
theorem dX12_meet_78 : decode cX12_meet 78 = .ok (.ifCond .lt 7, 3) := by decide +kernel
theorem dX12_meet_81 : decode cX12_meet 81 = .ok (.iload_n 3, 1) := by decide +kernel
theorem dX12_meet_82 : decode cX12_meet 82 = .ok (.goto 5, 3) := by decide +kernel
theorem dX12_meet_85 : decode cX12_meet 85 = .ok (.bipush (-4), 2) := by decide +kernel
theorem dX12_meet_87 : decode cX12_meet 87 = .ok (.ireturn, 1) := by decide +kernel
theorem dX12_round_0 : decode cX12_round 0 = .ok (.aload_n 0, 1) := by decide +kernel
theorem dX12_round_1 : decode cX12_round 1 = .ok (.iload_n 1, 1) := by decide +kernel
theorem dX12_round_2 : decode cX12_round 2 = .ok (.invokevirtual 136, 3) := by decide +kernel
theorem dX12_round_5 : decode cX12_round 5 = .ok (.ifCond .ne 5, 3) := by decide +kernel
theorem dX12_round_8 : decode cX12_round 8 = .ok (.iconst (-1), 1) := by decide +kernel
theorem dX12_round_9 : decode cX12_round 9 = .ok (.ireturn, 1) := by decide +kernel
theorem dX12_round_10 : decode cX12_round 10 = .ok (.aload_n 0, 1) := by decide +kernel
theorem dX12_round_11 : decode cX12_round 11 = .ok (.iconst 0, 1) := by decide +kernel
theorem dX12_round_12 : decode cX12_round 12 = .ok (.bipush 11, 2) := by decide +kernel
theorem dX12_round_14 : decode cX12_round 14 = .ok (.invokevirtual 145, 3) := by decide +kernel
theorem dX12_round_17 : decode cX12_round 17 = .ok (.sipush 462, 3) := by decide +kernel
theorem dX12_round_20 : decode cX12_round 20 = .ok (.istore_n 2, 1) := by decide +kernel
theorem dX12_round_21 : decode cX12_round 21 = .ok (.aload_n 0, 1) := by decide +kernel
theorem dX12_round_22 : decode cX12_round 22 = .ok (.getfield 29, 3) := by decide +kernel
theorem dX12_round_25 : decode cX12_round 25 = .ok (.iload_n 2, 1) := by decide +kernel
theorem dX12_round_26 : decode cX12_round 26 = .ok (.bipush 8, 2) := by decide +kernel
theorem dX12_round_28 : decode cX12_round 28 = .ok (.iadd, 1) := by decide +kernel
theorem dX12_round_29 : decode cX12_round 29 = .ok (.iload_n 1, 1) := by decide +kernel
theorem dX12_round_30 : decode cX12_round 30 = .ok (.iadd, 1) := by decide +kernel
theorem dX12_round_31 : decode cX12_round 31 = .ok (.aload_n 0, 1) := by decide +kernel
theorem dX12_round_32 : decode cX12_round 32 = .ok (.iconst 0, 1) := by decide +kernel
theorem dX12_round_33 : decode cX12_round 33 = .ok (.iload_n 1, 1) := by decide +kernel
theorem dX12_round_34 : decode cX12_round 34 = .ok (.iconst 1, 1) := by decide +kernel
theorem dX12_round_35 : decode cX12_round 35 = .ok (.invokevirtual 141, 3) := by decide +kernel
theorem dX12_round_38 : decode cX12_round 38 = .ok (.iastore, 1) := by decide +kernel
theorem dX12_round_39 : decode cX12_round 39 = .ok (.iconst 0, 1) := by decide +kernel
theorem dX12_round_40 : decode cX12_round 40 = .ok (.istore_n 3, 1) := by decide +kernel
theorem dX12_round_41 : decode cX12_round 41 = .ok (.iload_n 3, 1) := by decide +kernel
theorem dX12_round_42 : decode cX12_round 42 = .ok (.sipush 200, 3) := by decide +kernel
theorem dX12_round_45 : decode cX12_round 45 = .ok (.if_icmp .ge 16, 3) := by decide +kernel
theorem dX12_round_48 : decode cX12_round 48 = .ok (.aload_n 0, 1) := by decide +kernel
theorem dX12_round_49 : decode cX12_round 49 = .ok (.bipush 11, 2) := by decide +kernel
theorem dX12_round_51 : decode cX12_round 51 = .ok (.iload_n 1, 1) := by decide +kernel
theorem dX12_round_52 : decode cX12_round 52 = .ok (.invokevirtual 149, 3) := by decide +kernel
theorem dX12_round_55 : decode cX12_round 55 = .ok (.iinc 3 1, 3) := by decide +kernel
theorem dX12_round_58 : decode cX12_round 58 = .ok (.goto (-17), 3) := by decide +kernel
theorem dX12_round_61 : decode cX12_round 61 = .ok (.aload_n 0, 1) := by decide +kernel
theorem dX12_round_62 : decode cX12_round 62 = .ok (.getfield 29, 3) := by decide +kernel
theorem dX12_round_65 : decode cX12_round 65 = .ok (.iload_n 2, 1) := by decide +kernel
theorem dX12_round_66 : decode cX12_round 66 = .ok (.iconst 1, 1) := by decide +kernel
theorem dX12_round_67 : decode cX12_round 67 = .ok (.iadd, 1) := by decide +kernel
theorem dX12_round_68 : decode cX12_round 68 = .ok (.iload_n 1, 1) := by decide +kernel
theorem dX12_round_69 : decode cX12_round 69 = .ok (.iadd, 1) := by decide +kernel
theorem dX12_round_70 : decode cX12_round 70 = .ok (.iaload, 1) := by decide +kernel
theorem dX12_round_71 : decode cX12_round 71 = .ok (.istore_n 3, 1) := by decide +kernel
theorem dX12_round_72 : decode cX12_round 72 = .ok (.aload_n 0, 1) := by decide +kernel
theorem dX12_round_73 : decode cX12_round 73 = .ok (.getfield 29, 3) := by decide +kernel
theorem dX12_round_76 : decode cX12_round 76 = .ok (.iload_n 2, 1) := by decide +kernel
theorem dX12_round_77 : decode cX12_round 77 = .ok (.bipush 8, 2) := by decide +kernel
theorem dX12_round_79 : decode cX12_round 79 = .ok (.iadd, 1) := by decide +kernel
theorem dX12_round_80 : decode cX12_round 80 = .ok (.iload_n 1, 1) := by decide +kernel
theorem dX12_round_81 : decode cX12_round 81 = .ok (.iadd, 1) := by decide +kernel
theorem dX12_round_82 : decode cX12_round 82 = .ok (.iaload, 1) := by decide +kernel
theorem dX12_round_83 : decode cX12_round 83 = .ok (.istore 4, 2) := by decide +kernel
theorem dX12_round_85 : decode cX12_round 85 = .ok (.iconst 1, 1) := by decide +kernel
theorem dX12_round_86 : decode cX12_round 86 = .ok (.istore 5, 2) := by decide +kernel
theorem dX12_round_88 : decode cX12_round 88 = .ok (.iload 5, 2) := by decide +kernel
theorem dX12_round_90 : decode cX12_round 90 = .ok (.sipush 200, 3) := by decide +kernel
theorem dX12_round_93 : decode cX12_round 93 = .ok (.if_icmp .gt 49, 3) := by decide +kernel
theorem dX12_round_96 : decode cX12_round 96 = .ok (.aload_n 0, 1) := by decide +kernel
theorem dX12_round_97 : decode cX12_round 97 = .ok (.bipush 11, 2) := by decide +kernel
theorem dX12_round_99 : decode cX12_round 99 = .ok (.iload_n 1, 1) := by decide +kernel
theorem dX12_round_100 : decode cX12_round 100 = .ok (.invokevirtual 149, 3) := by decide +kernel
theorem dX12_round_103 : decode cX12_round 103 = .ok (.aload_n 0, 1) := by decide +kernel
theorem dX12_round_104 : decode cX12_round 104 = .ok (.getfield 29, 3) := by decide +kernel
theorem dX12_round_107 : decode cX12_round 107 = .ok (.iload_n 2, 1) := by decide +kernel
theorem dX12_round_108 : decode cX12_round 108 = .ok (.iconst 1, 1) := by decide +kernel
theorem dX12_round_109 : decode cX12_round 109 = .ok (.iadd, 1) := by decide +kernel
theorem dX12_round_110 : decode cX12_round 110 = .ok (.iload_n 1, 1) := by decide +kernel
theorem dX12_round_111 : decode cX12_round 111 = .ok (.iadd, 1) := by decide +kernel
theorem dX12_round_112 : decode cX12_round 112 = .ok (.iaload, 1) := by decide +kernel
theorem dX12_round_113 : decode cX12_round 113 = .ok (.iload_n 3, 1) := by decide +kernel
theorem dX12_round_114 : decode cX12_round 114 = .ok (.if_icmp .ne 22, 3) := by decide +kernel
theorem dX12_round_117 : decode cX12_round 117 = .ok (.aload_n 0, 1) := by decide +kernel
theorem dX12_round_118 : decode cX12_round 118 = .ok (.getfield 29, 3) := by decide +kernel
theorem dX12_round_121 : decode cX12_round 121 = .ok (.iload_n 2, 1) := by decide +kernel
theorem dX12_round_122 : decode cX12_round 122 = .ok (.bipush 8, 2) := by decide +kernel
theorem dX12_round_124 : decode cX12_round 124 = .ok (.iadd, 1) := by decide +kernel
theorem dX12_round_125 : decode cX12_round 125 = .ok (.iload_n 1, 1) := by decide +kernel
theorem dX12_round_126 : decode cX12_round 126 = .ok (.iadd, 1) := by decide +kernel
theorem dX12_round_127 : decode cX12_round 127 = .ok (.iaload, 1) := by decide +kernel
theorem dX12_round_128 : decode cX12_round 128 = .ok (.iload 4, 2) := by decide +kernel
theorem dX12_round_130 : decode cX12_round 130 = .ok (.if_icmp .ne 6, 3) := by decide +kernel
theorem dX12_round_133 : decode cX12_round 133 = .ok (.iload 5, 2) := by decide +kernel
theorem dX12_round_135 : decode cX12_round 135 = .ok (.ireturn, 1) := by decide +kernel
theorem dX12_round_136 : decode cX12_round 136 = .ok (.iinc 5 1, 3) := by decide +kernel
theorem dX12_round_139 : decode cX12_round 139 = .ok (.goto (-51), 3) := by decide +kernel
theorem dX12_round_142 : decode cX12_round 142 = .ok (.bipush (-4), 2) := by decide +kernel
theorem dX12_round_144 : decode cX12_round 144 = .ok (.ireturn, 1) := by decide +kernel
theorem dX12_isSpot_0 : decode cX12_isSpot 0 = .ok (.iload_n 1, 1) := by decide +kernel
theorem dX12_isSpot_1 : decode cX12_isSpot 1 = .ok (.bipush 24, 2) := by decide +kernel
theorem dX12_isSpot_3 : decode cX12_isSpot 3 = .ok (.idiv, 1) := by decide +kernel
theorem dX12_isSpot_4 : decode cX12_isSpot 4 = .ok (.aload_n 0, 1) := by decide +kernel
theorem dX12_isSpot_5 : decode cX12_isSpot 5 = .ok (.getfield 13, 3) := by decide +kernel
theorem dX12_isSpot_8 : decode cX12_isSpot 8 = .ok (.iconst 1, 1) := by decide +kernel
theorem dX12_isSpot_9 : decode cX12_isSpot 9 = .ok (.iaload, 1) := by decide +kernel
theorem dX12_isSpot_10 : decode cX12_isSpot 10 = .ok (.if_icmp .ge 35, 3) := by decide +kernel
theorem dX12_isSpot_13 : decode cX12_isSpot 13 = .ok (.iload_n 1, 1) := by decide +kernel
theorem dX12_isSpot_14 : decode cX12_isSpot 14 = .ok (.bipush 24, 2) := by decide +kernel
theorem dX12_isSpot_16 : decode cX12_isSpot 16 = .ok (.irem, 1) := by decide +kernel
theorem dX12_isSpot_17 : decode cX12_isSpot 17 = .ok (.aload_n 0, 1) := by decide +kernel
theorem dX12_isSpot_18 : decode cX12_isSpot 18 = .ok (.getfield 13, 3) := by decide +kernel
theorem dX12_isSpot_21 : decode cX12_isSpot 21 = .ok (.iconst 0, 1) := by decide +kernel
theorem dX12_isSpot_22 : decode cX12_isSpot 22 = .ok (.iaload, 1) := by decide +kernel
theorem dX12_isSpot_23 : decode cX12_isSpot 23 = .ok (.if_icmp .ge 22, 3) := by decide +kernel
theorem dX12_isSpot_26 : decode cX12_isSpot 26 = .ok (.aload_n 0, 1) := by decide +kernel
theorem dX12_isSpot_27 : decode cX12_isSpot 27 = .ok (.iload_n 1, 1) := by decide +kernel
theorem dX12_isSpot_28 : decode cX12_isSpot 28 = .ok (.bipush 24, 2) := by decide +kernel
theorem dX12_isSpot_30 : decode cX12_isSpot 30 = .ok (.idiv, 1) := by decide +kernel
theorem dX12_isSpot_31 : decode cX12_isSpot 31 = .ok (.iload_n 1, 1) := by decide +kernel
theorem dX12_isSpot_32 : decode cX12_isSpot 32 = .ok (.bipush 24, 2) := by decide +kernel
theorem dX12_isSpot_34 : decode cX12_isSpot 34 = .ok (.irem, 1) := by decide +kernel
theorem dX12_isSpot_35 : decode cX12_isSpot 35 = .ok (.invokevirtual 175, 3) := by decide +kernel
theorem dX12_isSpot_38 : decode cX12_isSpot 38 = .ok (.ifCond .ne 7, 3) := by decide +kernel
theorem dX12_isSpot_41 : decode cX12_isSpot 41 = .ok (.iconst 1, 1) := by decide +kernel
theorem dX12_isSpot_42 : decode cX12_isSpot 42 = .ok (.goto 4, 3) := by decide +kernel
theorem dX12_isSpot_45 : decode cX12_isSpot 45 = .ok (.iconst 0, 1) := by decide +kernel
theorem dX12_isSpot_46 : decode cX12_isSpot 46 = .ok (.ireturn, 1) := by decide +kernel
theorem dX12_isSooner_0 : decode cX12_isSooner 0 = .ok (.aload_n 0, 1) := by decide +kernel
theorem dX12_isSooner_1 : decode cX12_isSooner 1 = .ok (.iload_n 3, 1) := by decide +kernel
theorem dX12_isSooner_2 : decode cX12_isSooner 2 = .ok (.invokevirtual 182, 3) := by decide +kernel
theorem dX12_isSooner_5 : decode cX12_isSooner 5 = .ok (.ifCond .eq 33, 3) := by decide +kernel
theorem dX12_isSooner_8 : decode cX12_isSooner 8 = .ok (.aload_n 0, 1) := by decide +kernel
theorem dX12_isSooner_9 : decode cX12_isSooner 9 = .ok (.getfield 39, 3) := by decide +kernel
theorem dX12_isSooner_12 : decode cX12_isSooner 12 = .ok (.sipush 192, 3) := by decide +kernel
theorem dX12_isSooner_15 : decode cX12_isSooner 15 = .ok (.iload_n 1, 1) := by decide +kernel
theorem dX12_isSooner_16 : decode cX12_isSooner 16 = .ok (.imul, 1) := by decide +kernel
theorem dX12_isSooner_17 : decode cX12_isSooner 17 = .ok (.iload_n 2, 1) := by decide +kernel
theorem dX12_isSooner_18 : decode cX12_isSooner 18 = .ok (.iadd, 1) := by decide +kernel
theorem dX12_isSooner_19 : decode cX12_isSooner 19 = .ok (.iaload, 1) := by decide +kernel
theorem dX12_isSooner_20 : decode cX12_isSooner 20 = .ok (.iload 4, 2) := by decide +kernel
theorem dX12_isSooner_22 : decode cX12_isSooner 22 = .ok (.iadd, 1) := by decide +kernel
theorem dX12_isSooner_23 : decode cX12_isSooner 23 = .ok (.aload_n 0, 1) := by decide +kernel
theorem dX12_isSooner_24 : decode cX12_isSooner 24 = .ok (.getfield 39, 3) := by decide +kernel
theorem dX12_isSooner_27 : decode cX12_isSooner 27 = .ok (.sipush 192, 3) := by decide +kernel
theorem dX12_isSooner_30 : decode cX12_isSooner 30 = .ok (.iload_n 1, 1) := by decide +kernel
theorem dX12_isSooner_31 : decode cX12_isSooner 31 = .ok (.imul, 1) := by decide +kernel
theorem dX12_isSooner_32 : decode cX12_isSooner 32 = .ok (.iload_n 3, 1) := by decide +kernel
theorem dX12_isSooner_33 : decode cX12_isSooner 33 = .ok (.iadd, 1) := by decide +kernel
theorem dX12_isSooner_34 : decode cX12_isSooner 34 = .ok (.iaload, 1) := by decide +kernel
theorem dX12_isSooner_35 : decode cX12_isSooner 35 = .ok (.if_icmp .lt 5, 3) := by decide +kernel
theorem dX12_isSooner_38 : decode cX12_isSooner 38 = .ok (.iconst 0, 1) := by decide +kernel
theorem dX12_isSooner_39 : decode cX12_isSooner 39 = .ok (.ireturn, 1) := by decide +kernel
theorem dX12_isSooner_40 : decode cX12_isSooner 40 = .ok (.aload_n 0, 1) := by decide +kernel
theorem dX12_isSooner_41 : decode cX12_isSooner 41 = .ok (.getfield 39, 3) := by decide +kernel
theorem dX12_isSooner_44 : decode cX12_isSooner 44 = .ok (.sipush 192, 3) := by decide +kernel
theorem dX12_isSooner_47 : decode cX12_isSooner 47 = .ok (.iload_n 1, 1) := by decide +kernel
theorem dX12_isSooner_48 : decode cX12_isSooner 48 = .ok (.imul, 1) := by decide +kernel
theorem dX12_isSooner_49 : decode cX12_isSooner 49 = .ok (.iload_n 3, 1) := by decide +kernel
theorem dX12_isSooner_50 : decode cX12_isSooner 50 = .ok (.iadd, 1) := by decide +kernel
theorem dX12_isSooner_51 : decode cX12_isSooner 51 = .ok (.aload_n 0, 1) := by decide +kernel
theorem dX12_isSooner_52 : decode cX12_isSooner 52 = .ok (.getfield 39, 3) := by decide +kernel
theorem dX12_isSooner_55 : decode cX12_isSooner 55 = .ok (.sipush 192, 3) := by decide +kernel
theorem dX12_isSooner_58 : decode cX12_isSooner 58 = .ok (.iload_n 1, 1) := by decide +kernel
theorem dX12_isSooner_59 : decode cX12_isSooner 59 = .ok (.imul, 1) := by decide +kernel
theorem dX12_isSooner_60 : decode cX12_isSooner 60 = .ok (.iload_n 2, 1) := by decide +kernel
theorem dX12_isSooner_61 : decode cX12_isSooner 61 = .ok (.iadd, 1) := by decide +kernel
theorem dX12_isSooner_62 : decode cX12_isSooner 62 = .ok (.iaload, 1) := by decide +kernel
theorem dX12_isSooner_63 : decode cX12_isSooner 63 = .ok (.iload 4, 2) := by decide +kernel
theorem dX12_isSooner_65 : decode cX12_isSooner 65 = .ok (.iadd, 1) := by decide +kernel
theorem dX12_isSooner_66 : decode cX12_isSooner 66 = .ok (.iastore, 1) := by decide +kernel
theorem dX12_isSooner_67 : decode cX12_isSooner 67 = .ok (.iconst 1, 1) := by decide +kernel
theorem dX12_isSooner_68 : decode cX12_isSooner 68 = .ok (.ireturn, 1) := by decide +kernel
theorem dX12_isSpread_0 : decode cX12_isSpread 0 = .ok (.iconst 0, 1) := by decide +kernel
theorem dX12_isSpread_1 : decode cX12_isSpread 1 = .ok (.istore_n 2, 1) := by decide +kernel
theorem dX12_isSpread_2 : decode cX12_isSpread 2 = .ok (.iconst 0, 1) := by decide +kernel
theorem dX12_isSpread_3 : decode cX12_isSpread 3 = .ok (.istore_n 3, 1) := by decide +kernel
theorem dX12_isSpread_4 : decode cX12_isSpread 4 = .ok (.iload_n 3, 1) := by decide +kernel
theorem dX12_isSpread_5 : decode cX12_isSpread 5 = .ok (.bipush 24, 2) := by decide +kernel
theorem dX12_isSpread_7 : decode cX12_isSpread 7 = .ok (.aload_n 0, 1) := by decide +kernel
theorem dX12_isSpread_8 : decode cX12_isSpread 8 = .ok (.getfield 13, 3) := by decide +kernel
theorem dX12_isSpread_11 : decode cX12_isSpread 11 = .ok (.iconst 1, 1) := by decide +kernel
theorem dX12_isSpread_12 : decode cX12_isSpread 12 = .ok (.iaload, 1) := by decide +kernel
theorem dX12_isSpread_13 : decode cX12_isSpread 13 = .ok (.imul, 1) := by decide +kernel
theorem dX12_isSpread_14 : decode cX12_isSpread 14 = .ok (.if_icmp .ge 205, 3) := by decide +kernel
theorem dX12_isSpread_17 : decode cX12_isSpread 17 = .ok (.aload_n 0, 1) := by decide +kernel
theorem dX12_isSpread_18 : decode cX12_isSpread 18 = .ok (.getfield 39, 3) := by decide +kernel
theorem dX12_isSpread_21 : decode cX12_isSpread 21 = .ok (.sipush 192, 3) := by decide +kernel
theorem dX12_isSpread_24 : decode cX12_isSpread 24 = .ok (.iload_n 1, 1) := by decide +kernel
theorem dX12_isSpread_25 : decode cX12_isSpread 25 = .ok (.imul, 1) := by decide +kernel
theorem dX12_isSpread_26 : decode cX12_isSpread 26 = .ok (.iload_n 3, 1) := by decide +kernel
theorem dX12_isSpread_27 : decode cX12_isSpread 27 = .ok (.iadd, 1) := by decide +kernel
theorem dX12_isSpread_28 : decode cX12_isSpread 28 = .ok (.iaload, 1) := by decide +kernel
theorem dX12_isSpread_29 : decode cX12_isSpread 29 = .ok (.ldc 185, 2) := by decide +kernel
theorem dX12_isSpread_31 : decode cX12_isSpread 31 = .ok (.if_icmp .ge 182, 3) := by decide +kernel
theorem dX12_isSpread_34 : decode cX12_isSpread 34 = .ok (.iload_n 3, 1) := by decide +kernel
theorem dX12_isSpread_35 : decode cX12_isSpread 35 = .ok (.bipush 24, 2) := by decide +kernel
theorem dX12_isSpread_37 : decode cX12_isSpread 37 = .ok (.idiv, 1) := by decide +kernel
theorem dX12_isSpread_38 : decode cX12_isSpread 38 = .ok (.istore 4, 2) := by decide +kernel
theorem dX12_isSpread_40 : decode cX12_isSpread 40 = .ok (.iload_n 3, 1) := by decide +kernel
theorem dX12_isSpread_41 : decode cX12_isSpread 41 = .ok (.bipush 24, 2) := by decide +kernel
theorem dX12_isSpread_43 : decode cX12_isSpread 43 = .ok (.irem, 1) := by decide +kernel
theorem dX12_isSpread_44 : decode cX12_isSpread 44 = .ok (.istore 5, 2) := by decide +kernel
theorem dX12_isSpread_46 : decode cX12_isSpread 46 = .ok (.aload_n 0, 1) := by decide +kernel
theorem dX12_isSpread_47 : decode cX12_isSpread 47 = .ok (.iload_n 1, 1) := by decide +kernel
theorem dX12_isSpread_48 : decode cX12_isSpread 48 = .ok (.iload_n 3, 1) := by decide +kernel
theorem dX12_isSpread_49 : decode cX12_isSpread 49 = .ok (.bipush 24, 2) := by decide +kernel
theorem dX12_isSpread_51 : decode cX12_isSpread 51 = .ok (.iload 4, 2) := by decide +kernel
theorem dX12_isSpread_53 : decode cX12_isSpread 53 = .ok (.imul, 1) := by decide +kernel
theorem dX12_isSpread_54 : decode cX12_isSpread 54 = .ok (.iload 5, 2) := by decide +kernel
theorem dX12_isSpread_56 : decode cX12_isSpread 56 = .ok (.iconst 1, 1) := by decide +kernel
theorem dX12_isSpread_57 : decode cX12_isSpread 57 = .ok (.iadd, 1) := by decide +kernel
theorem dX12_isSpread_58 : decode cX12_isSpread 58 = .ok (.aload_n 0, 1) := by decide +kernel
theorem dX12_isSpread_59 : decode cX12_isSpread 59 = .ok (.getfield 13, 3) := by decide +kernel
theorem dX12_isSpread_62 : decode cX12_isSpread 62 = .ok (.iconst 0, 1) := by decide +kernel
theorem dX12_isSpread_63 : decode cX12_isSpread 63 = .ok (.iaload, 1) := by decide +kernel
theorem dX12_isSpread_64 : decode cX12_isSpread 64 = .ok (.irem, 1) := by decide +kernel
theorem dX12_isSpread_65 : decode cX12_isSpread 65 = .ok (.iadd, 1) := by decide +kernel
theorem dX12_isSpread_66 : decode cX12_isSpread 66 = .ok (.iconst 1, 1) := by decide +kernel
theorem dX12_isSpread_67 : decode cX12_isSpread 67 = .ok (.invokevirtual 186, 3) := by decide +kernel
theorem dX12_isSpread_70 : decode cX12_isSpread 70 = .ok (.ifCond .ne 7, 3) := by decide +kernel
theorem dX12_isSpread_73 : decode cX12_isSpread 73 = .ok (.iload_n 2, 1) := by decide +kernel
theorem dX12_isSpread_74 : decode cX12_isSpread 74 = .ok (.ifCond .eq 7, 3) := by decide +kernel
theorem dX12_isSpread_77 : decode cX12_isSpread 77 = .ok (.iconst 1, 1) := by decide +kernel
theorem dX12_isSpread_78 : decode cX12_isSpread 78 = .ok (.goto 4, 3) := by decide +kernel
theorem dX12_isSpread_81 : decode cX12_isSpread 81 = .ok (.iconst 0, 1) := by decide +kernel
theorem dX12_isSpread_82 : decode cX12_isSpread 82 = .ok (.istore_n 2, 1) := by decide +kernel
theorem dX12_isSpread_83 : decode cX12_isSpread 83 = .ok (.aload_n 0, 1) := by decide +kernel
theorem dX12_isSpread_84 : decode cX12_isSpread 84 = .ok (.iload_n 1, 1) := by decide +kernel
theorem dX12_isSpread_85 : decode cX12_isSpread 85 = .ok (.iload_n 3, 1) := by decide +kernel
theorem dX12_isSpread_86 : decode cX12_isSpread 86 = .ok (.bipush 24, 2) := by decide +kernel
theorem dX12_isSpread_88 : decode cX12_isSpread 88 = .ok (.iload 4, 2) := by decide +kernel
theorem dX12_isSpread_90 : decode cX12_isSpread 90 = .ok (.imul, 1) := by decide +kernel
theorem dX12_isSpread_91 : decode cX12_isSpread 91 = .ok (.iload 5, 2) := by decide +kernel
theorem dX12_isSpread_93 : decode cX12_isSpread 93 = .ok (.aload_n 0, 1) := by decide +kernel
theorem dX12_isSpread_94 : decode cX12_isSpread 94 = .ok (.getfield 13, 3) := by decide +kernel
theorem dX12_isSpread_97 : decode cX12_isSpread 97 = .ok (.iconst 0, 1) := by decide +kernel
theorem dX12_isSpread_98 : decode cX12_isSpread 98 = .ok (.iaload, 1) := by decide +kernel
theorem dX12_isSpread_99 : decode cX12_isSpread 99 = .ok (.iadd, 1) := by decide +kernel
theorem dX12_isSpread_100 : decode cX12_isSpread 100 = .ok (.iconst 1, 1) := by decide +kernel
theorem dX12_isSpread_101 : decode cX12_isSpread 101 = .ok (.isub, 1) := by decide +kernel
theorem dX12_isSpread_102 : decode cX12_isSpread 102 = .ok (.aload_n 0, 1) := by decide +kernel
theorem dX12_isSpread_103 : decode cX12_isSpread 103 = .ok (.getfield 13, 3) := by decide +kernel
theorem dX12_isSpread_106 : decode cX12_isSpread 106 = .ok (.iconst 0, 1) := by decide +kernel
theorem dX12_isSpread_107 : decode cX12_isSpread 107 = .ok (.iaload, 1) := by decide +kernel
theorem dX12_isSpread_108 : decode cX12_isSpread 108 = .ok (.irem, 1) := by decide +kernel
theorem dX12_isSpread_109 : decode cX12_isSpread 109 = .ok (.iadd, 1) := by decide +kernel
theorem dX12_isSpread_110 : decode cX12_isSpread 110 = .ok (.iconst 1, 1) := by decide +kernel
theorem dX12_isSpread_111 : decode cX12_isSpread 111 = .ok (.invokevirtual 186, 3) := by decide +kernel
theorem dX12_isSpread_114 : decode cX12_isSpread 114 = .ok (.ifCond .ne 7, 3) := by decide +kernel
theorem dX12_isSpread_117 : decode cX12_isSpread 117 = .ok (.iload_n 2, 1) := by decide +kernel
theorem dX12_isSpread_118 : decode cX12_isSpread 118 = .ok (.ifCond .eq 7, 3) := by decide +kernel
theorem dX12_isSpread_121 : decode cX12_isSpread 121 = .ok (.iconst 1, 1) := by decide +kernel
theorem dX12_isSpread_122 : decode cX12_isSpread 122 = .ok (.goto 4, 3) := by decide +kernel
theorem dX12_isSpread_125 : decode cX12_isSpread 125 = .ok (.iconst 0, 1) := by decide +kernel
theorem dX12_isSpread_126 : decode cX12_isSpread 126 = .ok (.istore_n 2, 1) := by decide +kernel
theorem dX12_isSpread_127 : decode cX12_isSpread 127 = .ok (.iload 4, 2) := by decide +kernel
theorem dX12_isSpread_129 : decode cX12_isSpread 129 = .ok (.iconst 1, 1) := by decide +kernel
theorem dX12_isSpread_130 : decode cX12_isSpread 130 = .ok (.iadd, 1) := by decide +kernel
theorem dX12_isSpread_131 : decode cX12_isSpread 131 = .ok (.aload_n 0, 1) := by decide +kernel
theorem dX12_isSpread_132 : decode cX12_isSpread 132 = .ok (.getfield 13, 3) := by decide +kernel
theorem dX12_isSpread_135 : decode cX12_isSpread 135 = .ok (.iconst 1, 1) := by decide +kernel
theorem dX12_isSpread_136 : decode cX12_isSpread 136 = .ok (.iaload, 1) := by decide +kernel
theorem dX12_isSpread_137 : decode cX12_isSpread 137 = .ok (.if_icmp .ge 27, 3) := by decide +kernel
theorem dX12_isSpread_140 : decode cX12_isSpread 140 = .ok (.aload_n 0, 1) := by decide +kernel
theorem dX12_isSpread_141 : decode cX12_isSpread 141 = .ok (.iload_n 1, 1) := by decide +kernel
theorem dX12_isSpread_142 : decode cX12_isSpread 142 = .ok (.iload_n 3, 1) := by decide +kernel
theorem dX12_isSpread_143 : decode cX12_isSpread 143 = .ok (.iload_n 3, 1) := by decide +kernel
theorem dX12_isSpread_144 : decode cX12_isSpread 144 = .ok (.bipush 24, 2) := by decide +kernel
theorem dX12_isSpread_146 : decode cX12_isSpread 146 = .ok (.iadd, 1) := by decide +kernel
theorem dX12_isSpread_147 : decode cX12_isSpread 147 = .ok (.aload_n 0, 1) := by decide +kernel
theorem dX12_isSpread_148 : decode cX12_isSpread 148 = .ok (.getfield 17, 3) := by decide +kernel
theorem dX12_isSpread_151 : decode cX12_isSpread 151 = .ok (.iconst 3, 1) := by decide +kernel
theorem dX12_isSpread_152 : decode cX12_isSpread 152 = .ok (.iload 4, 2) := by decide +kernel
theorem dX12_isSpread_154 : decode cX12_isSpread 154 = .ok (.imul, 1) := by decide +kernel
theorem dX12_isSpread_155 : decode cX12_isSpread 155 = .ok (.iconst 2, 1) := by decide +kernel
theorem dX12_isSpread_156 : decode cX12_isSpread 156 = .ok (.iadd, 1) := by decide +kernel
theorem dX12_isSpread_157 : decode cX12_isSpread 157 = .ok (.iaload, 1) := by decide +kernel
theorem dX12_isSpread_158 : decode cX12_isSpread 158 = .ok (.invokevirtual 186, 3) := by decide +kernel
theorem dX12_isSpread_161 : decode cX12_isSpread 161 = .ok (.ifCond .ne 7, 3) := by decide +kernel
theorem dX12_isSpread_164 : decode cX12_isSpread 164 = .ok (.iload_n 2, 1) := by decide +kernel
theorem dX12_isSpread_165 : decode cX12_isSpread 165 = .ok (.ifCond .eq 7, 3) := by decide +kernel
theorem dX12_isSpread_168 : decode cX12_isSpread 168 = .ok (.iconst 1, 1) := by decide +kernel
theorem dX12_isSpread_169 : decode cX12_isSpread 169 = .ok (.goto 4, 3) := by decide +kernel
theorem dX12_isSpread_172 : decode cX12_isSpread 172 = .ok (.iconst 0, 1) := by decide +kernel
theorem dX12_isSpread_173 : decode cX12_isSpread 173 = .ok (.istore_n 2, 1) := by decide +kernel
theorem dX12_isSpread_174 : decode cX12_isSpread 174 = .ok (.iload 4, 2) := by decide +kernel
theorem dX12_isSpread_176 : decode cX12_isSpread 176 = .ok (.ifCond .le 27, 3) := by decide +kernel
theorem dX12_isSpread_179 : decode cX12_isSpread 179 = .ok (.aload_n 0, 1) := by decide +kernel
theorem dX12_isSpread_180 : decode cX12_isSpread 180 = .ok (.iload_n 1, 1) := by decide +kernel
theorem dX12_isSpread_181 : decode cX12_isSpread 181 = .ok (.iload_n 3, 1) := by decide +kernel
theorem dX12_isSpread_182 : decode cX12_isSpread 182 = .ok (.iload_n 3, 1) := by decide +kernel
theorem dX12_isSpread_183 : decode cX12_isSpread 183 = .ok (.bipush 24, 2) := by decide +kernel
theorem dX12_isSpread_185 : decode cX12_isSpread 185 = .ok (.isub, 1) := by decide +kernel
theorem dX12_isSpread_186 : decode cX12_isSpread 186 = .ok (.aload_n 0, 1) := by decide +kernel
theorem dX12_isSpread_187 : decode cX12_isSpread 187 = .ok (.getfield 17, 3) := by decide +kernel
theorem dX12_isSpread_190 : decode cX12_isSpread 190 = .ok (.iconst 3, 1) := by decide +kernel
theorem dX12_isSpread_191 : decode cX12_isSpread 191 = .ok (.iload 4, 2) := by decide +kernel
theorem dX12_isSpread_193 : decode cX12_isSpread 193 = .ok (.imul, 1) := by decide +kernel
theorem dX12_isSpread_194 : decode cX12_isSpread 194 = .ok (.iconst 1, 1) := by decide +kernel
theorem dX12_isSpread_195 : decode cX12_isSpread 195 = .ok (.isub, 1) := by decide +kernel
theorem dX12_isSpread_196 : decode cX12_isSpread 196 = .ok (.iaload, 1) := by decide +kernel
theorem dX12_isSpread_197 : decode cX12_isSpread 197 = .ok (.invokevirtual 186, 3) := by decide +kernel
theorem dX12_isSpread_200 : decode cX12_isSpread 200 = .ok (.ifCond .ne 7, 3) := by decide +kernel
theorem dX12_isSpread_203 : decode cX12_isSpread 203 = .ok (.iload_n 2, 1) := by decide +kernel
theorem dX12_isSpread_204 : decode cX12_isSpread 204 = .ok (.ifCond .eq 7, 3) := by decide +kernel
theorem dX12_isSpread_207 : decode cX12_isSpread 207 = .ok (.iconst 1, 1) := by decide +kernel
theorem dX12_isSpread_208 : decode cX12_isSpread 208 = .ok (.goto 4, 3) := by decide +kernel
theorem dX12_isSpread_211 : decode cX12_isSpread 211 = .ok (.iconst 0, 1) := by decide +kernel
theorem dX12_isSpread_212 : decode cX12_isSpread 212 = .ok (.istore_n 2, 1) := by decide +kernel
theorem dX12_isSpread_213 : decode cX12_isSpread 213 = .ok (.iinc 3 1, 3) := by decide +kernel
theorem dX12_isSpread_216 : decode cX12_isSpread 216 = .ok (.goto (-212), 3) := by decide +kernel
theorem dX12_isSpread_219 : decode cX12_isSpread 219 = .ok (.iload_n 2, 1) := by decide +kernel
theorem dX12_isSpread_220 : decode cX12_isSpread 220 = .ok (.ireturn, 1) := by decide +kernel
theorem dX12_sounds_0 : decode cX12_sounds 0 = .ok (.iconst 0, 1) := by decide +kernel
theorem dX12_sounds_1 : decode cX12_sounds 1 = .ok (.istore_n 1, 1) := by decide +kernel
theorem dX12_sounds_2 : decode cX12_sounds 2 = .ok (.iload_n 1, 1) := by decide +kernel
theorem dX12_sounds_3 : decode cX12_sounds 3 = .ok (.bipush 24, 2) := by decide +kernel
theorem dX12_sounds_5 : decode cX12_sounds 5 = .ok (.aload_n 0, 1) := by decide +kernel
theorem dX12_sounds_6 : decode cX12_sounds 6 = .ok (.getfield 13, 3) := by decide +kernel
theorem dX12_sounds_9 : decode cX12_sounds 9 = .ok (.iconst 1, 1) := by decide +kernel
theorem dX12_sounds_10 : decode cX12_sounds 10 = .ok (.iaload, 1) := by decide +kernel
theorem dX12_sounds_11 : decode cX12_sounds 11 = .ok (.imul, 1) := by decide +kernel
theorem dX12_sounds_12 : decode cX12_sounds 12 = .ok (.if_icmp .ge 81, 3) := by decide +kernel
theorem dX12_sounds_15 : decode cX12_sounds 15 = .ok (.aload_n 0, 1) := by decide +kernel
theorem dX12_sounds_16 : decode cX12_sounds 16 = .ok (.getfield 101, 3) := by decide +kernel
theorem dX12_sounds_19 : decode cX12_sounds 19 = .ok (.ifCond .ne 74, 3) := by decide +kernel
theorem dX12_sounds_22 : decode cX12_sounds 22 = .ok (.iconst 0, 1) := by decide +kernel
theorem dX12_sounds_23 : decode cX12_sounds 23 = .ok (.istore_n 2, 1) := by decide +kernel
theorem dX12_sounds_24 : decode cX12_sounds 24 = .ok (.iload_n 2, 1) := by decide +kernel
theorem dX12_sounds_25 : decode cX12_sounds 25 = .ok (.sipush 192, 3) := by decide +kernel
theorem dX12_sounds_28 : decode cX12_sounds 28 = .ok (.if_icmp .ge 40, 3) := by decide +kernel
theorem dX12_sounds_31 : decode cX12_sounds 31 = .ok (.aload_n 0, 1) := by decide +kernel
theorem dX12_sounds_32 : decode cX12_sounds 32 = .ok (.getfield 39, 3) := by decide +kernel
theorem dX12_sounds_35 : decode cX12_sounds 35 = .ok (.sipush 192, 3) := by decide +kernel
theorem dX12_sounds_38 : decode cX12_sounds 38 = .ok (.iload_n 1, 1) := by decide +kernel
theorem dX12_sounds_39 : decode cX12_sounds 39 = .ok (.imul, 1) := by decide +kernel
theorem dX12_sounds_40 : decode cX12_sounds 40 = .ok (.iload_n 2, 1) := by decide +kernel
theorem dX12_sounds_41 : decode cX12_sounds 41 = .ok (.iadd, 1) := by decide +kernel
theorem dX12_sounds_42 : decode cX12_sounds 42 = .ok (.iload_n 2, 1) := by decide +kernel
theorem dX12_sounds_43 : decode cX12_sounds 43 = .ok (.iload_n 1, 1) := by decide +kernel
theorem dX12_sounds_44 : decode cX12_sounds 44 = .ok (.if_icmp .ne 15, 3) := by decide +kernel
theorem dX12_sounds_47 : decode cX12_sounds 47 = .ok (.aload_n 0, 1) := by decide +kernel
theorem dX12_sounds_48 : decode cX12_sounds 48 = .ok (.iload_n 2, 1) := by decide +kernel
theorem dX12_sounds_49 : decode cX12_sounds 49 = .ok (.invokevirtual 182, 3) := by decide +kernel
theorem dX12_sounds_52 : decode cX12_sounds 52 = .ok (.ifCond .eq 7, 3) := by decide +kernel
theorem dX12_sounds_55 : decode cX12_sounds 55 = .ok (.iconst 0, 1) := by decide +kernel
theorem dX12_sounds_56 : decode cX12_sounds 56 = .ok (.goto 5, 3) := by decide +kernel
theorem dX12_sounds_59 : decode cX12_sounds 59 = .ok (.ldc 185, 2) := by decide +kernel
theorem dX12_sounds_61 : decode cX12_sounds 61 = .ok (.iastore, 1) := by decide +kernel
theorem dX12_sounds_62 : decode cX12_sounds 62 = .ok (.iinc 2 1, 3) := by decide +kernel
theorem dX12_sounds_65 : decode cX12_sounds 65 = .ok (.goto (-41), 3) := by decide +kernel
theorem dX12_sounds_68 : decode cX12_sounds 68 = .ok (.aload_n 0, 1) := by decide +kernel
theorem dX12_sounds_69 : decode cX12_sounds 69 = .ok (.iload_n 1, 1) := by decide +kernel
theorem dX12_sounds_70 : decode cX12_sounds 70 = .ok (.invokevirtual 182, 3) := by decide +kernel
theorem dX12_sounds_73 : decode cX12_sounds 73 = .ok (.istore_n 2, 1) := by decide +kernel
theorem dX12_sounds_74 : decode cX12_sounds 74 = .ok (.iload_n 2, 1) := by decide +kernel
theorem dX12_sounds_75 : decode cX12_sounds 75 = .ok (.ifCond .eq 12, 3) := by decide +kernel
theorem dX12_sounds_78 : decode cX12_sounds 78 = .ok (.aload_n 0, 1) := by decide +kernel
theorem dX12_sounds_79 : decode cX12_sounds 79 = .ok (.iload_n 1, 1) := by decide +kernel
theorem dX12_sounds_80 : decode cX12_sounds 80 = .ok (.invokevirtual 190, 3) := by decide +kernel
theorem dX12_sounds_83 : decode cX12_sounds 83 = .ok (.istore_n 2, 1) := by decide +kernel
theorem dX12_sounds_84 : decode cX12_sounds 84 = .ok (.goto (-10), 3) := by decide +kernel
theorem dX12_sounds_87 : decode cX12_sounds 87 = .ok (.iinc 1 1, 3) := by decide +kernel
theorem dX12_sounds_90 : decode cX12_sounds 90 = .ok (.goto (-88), 3) := by decide +kernel
theorem dX12_sounds_93 : decode cX12_sounds 93 = .ok (.aload_n 0, 1) := by decide +kernel
theorem dX12_sounds_94 : decode cX12_sounds 94 = .ok (.iconst 1, 1) := by decide +kernel
theorem dX12_sounds_95 : decode cX12_sounds 95 = .ok (.putfield 101, 3) := by decide +kernel
theorem dX12_sounds_98 : decode cX12_sounds 98 = .ok (.return_, 1) := by decide +kernel
theorem dX12_timeOf_0 : decode cX12_timeOf 0 = .ok (.aload_n 0, 1) := by decide +kernel
theorem dX12_timeOf_1 : decode cX12_timeOf 1 = .ok (.getfield 39, 3) := by decide +kernel
theorem dX12_timeOf_4 : decode cX12_timeOf 4 = .ok (.sipush 192, 3) := by decide +kernel
theorem dX12_timeOf_7 : decode cX12_timeOf 7 = .ok (.iload_n 1, 1) := by decide +kernel
theorem dX12_timeOf_8 : decode cX12_timeOf 8 = .ok (.imul, 1) := by decide +kernel
theorem dX12_timeOf_9 : decode cX12_timeOf 9 = .ok (.iload_n 2, 1) := by decide +kernel
theorem dX12_timeOf_10 : decode cX12_timeOf 10 = .ok (.iadd, 1) := by decide +kernel
theorem dX12_timeOf_11 : decode cX12_timeOf 11 = .ok (.iaload, 1) := by decide +kernel
theorem dX12_timeOf_12 : decode cX12_timeOf 12 = .ok (.ireturn, 1) := by decide +kernel
theorem dX12_spot_0 : decode cX12_spot 0 = .ok (.bipush 24, 2) := by decide +kernel
theorem dX12_spot_2 : decode cX12_spot 2 = .ok (.aload_n 0, 1) := by decide +kernel
theorem dX12_spot_3 : decode cX12_spot 3 = .ok (.iload_n 1, 1) := by decide +kernel
theorem dX12_spot_4 : decode cX12_spot 4 = .ok (.invokevirtual 127, 3) := by decide +kernel
theorem dX12_spot_7 : decode cX12_spot 7 = .ok (.imul, 1) := by decide +kernel
theorem dX12_spot_8 : decode cX12_spot 8 = .ok (.aload_n 0, 1) := by decide +kernel
theorem dX12_spot_9 : decode cX12_spot 9 = .ok (.getfield 29, 3) := by decide +kernel
theorem dX12_spot_12 : decode cX12_spot 12 = .ok (.bipush 29, 2) := by decide +kernel
theorem dX12_spot_14 : decode cX12_spot 14 = .ok (.iload_n 1, 1) := by decide +kernel
theorem dX12_spot_15 : decode cX12_spot 15 = .ok (.iadd, 1) := by decide +kernel
theorem dX12_spot_16 : decode cX12_spot 16 = .ok (.iaload, 1) := by decide +kernel
theorem dX12_spot_17 : decode cX12_spot 17 = .ok (.iadd, 1) := by decide +kernel
theorem dX12_spot_18 : decode cX12_spot 18 = .ok (.ireturn, 1) := by decide +kernel
theorem dX12_time_0 : decode cX12_time 0 = .ok (.aload_n 0, 1) := by decide +kernel
theorem dX12_time_1 : decode cX12_time 1 = .ok (.iload_n 1, 1) := by decide +kernel
theorem dX12_time_2 : decode cX12_time 2 = .ok (.invokevirtual 130, 3) := by decide +kernel
theorem dX12_time_5 : decode cX12_time 5 = .ok (.ifCond .eq 28, 3) := by decide +kernel
theorem dX12_time_8 : decode cX12_time 8 = .ok (.aload_n 0, 1) := by decide +kernel
theorem dX12_time_9 : decode cX12_time 9 = .ok (.iload_n 2, 1) := by decide +kernel
theorem dX12_time_10 : decode cX12_time 10 = .ok (.invokevirtual 172, 3) := by decide +kernel
theorem dX12_time_13 : decode cX12_time 13 = .ok (.ifCond .eq 20, 3) := by decide +kernel
theorem dX12_time_16 : decode cX12_time 16 = .ok (.aload_n 0, 1) := by decide +kernel
theorem dX12_time_17 : decode cX12_time 17 = .ok (.iload_n 3, 1) := by decide +kernel
theorem dX12_time_18 : decode cX12_time 18 = .ok (.invokevirtual 130, 3) := by decide +kernel
theorem dX12_time_21 : decode cX12_time 21 = .ok (.ifCond .eq 12, 3) := by decide +kernel
theorem dX12_time_24 : decode cX12_time 24 = .ok (.aload_n 0, 1) := by decide +kernel
theorem dX12_time_25 : decode cX12_time 25 = .ok (.iload 4, 2) := by decide +kernel
theorem dX12_time_27 : decode cX12_time 27 = .ok (.invokevirtual 172, 3) := by decide +kernel
theorem dX12_time_30 : decode cX12_time 30 = .ok (.ifCond .ne 5, 3) := by decide +kernel
theorem dX12_time_33 : decode cX12_time 33 = .ok (.iconst (-1), 1) := by decide +kernel
theorem dX12_time_34 : decode cX12_time 34 = .ok (.ireturn, 1) := by decide +kernel
theorem dX12_time_35 : decode cX12_time 35 = .ok (.aload_n 0, 1) := by decide +kernel
theorem dX12_time_36 : decode cX12_time 36 = .ok (.invokevirtual 193, 3) := by decide +kernel
theorem dX12_time_39 : decode cX12_time 39 = .ok (.aload_n 0, 1) := by decide +kernel
theorem dX12_time_40 : decode cX12_time 40 = .ok (.bipush 24, 2) := by decide +kernel
theorem dX12_time_42 : decode cX12_time 42 = .ok (.iload_n 1, 1) := by decide +kernel
theorem dX12_time_43 : decode cX12_time 43 = .ok (.imul, 1) := by decide +kernel
theorem dX12_time_44 : decode cX12_time 44 = .ok (.iload_n 2, 1) := by decide +kernel
theorem dX12_time_45 : decode cX12_time 45 = .ok (.iadd, 1) := by decide +kernel
theorem dX12_time_46 : decode cX12_time 46 = .ok (.bipush 24, 2) := by decide +kernel
theorem dX12_time_48 : decode cX12_time 48 = .ok (.iload_n 3, 1) := by decide +kernel
theorem dX12_time_49 : decode cX12_time 49 = .ok (.imul, 1) := by decide +kernel
theorem dX12_time_50 : decode cX12_time 50 = .ok (.iload 4, 2) := by decide +kernel
theorem dX12_time_52 : decode cX12_time 52 = .ok (.iadd, 1) := by decide +kernel
theorem dX12_time_53 : decode cX12_time 53 = .ok (.invokevirtual 196, 3) := by decide +kernel
theorem dX12_time_56 : decode cX12_time 56 = .ok (.istore 5, 2) := by decide +kernel
theorem dX12_time_58 : decode cX12_time 58 = .ok (.iload 5, 2) := by decide +kernel
theorem dX12_time_60 : decode cX12_time 60 = .ok (.ldc 185, 2) := by decide +kernel
theorem dX12_time_62 : decode cX12_time 62 = .ok (.if_icmp .ge 8, 3) := by decide +kernel
theorem dX12_time_65 : decode cX12_time 65 = .ok (.iload 5, 2) := by decide +kernel
theorem dX12_time_67 : decode cX12_time 67 = .ok (.goto 5, 3) := by decide +kernel
theorem dX12_time_70 : decode cX12_time 70 = .ok (.bipush (-4), 2) := by decide +kernel
theorem dX12_time_72 : decode cX12_time 72 = .ok (.ireturn, 1) := by decide +kernel
theorem dX12_hears_0 : decode cX12_hears 0 = .ok (.aload_n 0, 1) := by decide +kernel
theorem dX12_hears_1 : decode cX12_hears 1 = .ok (.iload_n 1, 1) := by decide +kernel
theorem dX12_hears_2 : decode cX12_hears 2 = .ok (.invokevirtual 133, 3) := by decide +kernel
theorem dX12_hears_5 : decode cX12_hears 5 = .ok (.ifCond .eq 15, 3) := by decide +kernel
theorem dX12_hears_8 : decode cX12_hears 8 = .ok (.iload_n 2, 1) := by decide +kernel
theorem dX12_hears_9 : decode cX12_hears 9 = .ok (.i2l, 1) := by decide +kernel
theorem dX12_hears_10 : decode cX12_hears 10 = .ok (.lconst 0, 1) := by decide +kernel
theorem dX12_hears_11 : decode cX12_hears 11 = .ok (.ldc2_w 200, 3) := by decide +kernel
theorem dX12_hears_14 : decode cX12_hears 14 = .ok (.invokestatic 62, 3) := by decide +kernel
theorem dX12_hears_17 : decode cX12_hears 17 = .ok (.ifCond .ne 5, 3) := by decide +kernel
theorem dX12_hears_20 : decode cX12_hears 20 = .ok (.iconst (-1), 1) := by decide +kernel
theorem dX12_hears_21 : decode cX12_hears 21 = .ok (.ireturn, 1) := by decide +kernel
theorem dX12_hears_22 : decode cX12_hears 22 = .ok (.aload_n 0, 1) := by decide +kernel
theorem dX12_hears_23 : decode cX12_hears 23 = .ok (.iload_n 1, 1) := by decide +kernel
theorem dX12_hears_24 : decode cX12_hears 24 = .ok (.invokevirtual 165, 3) := by decide +kernel
theorem dX12_hears_27 : decode cX12_hears 27 = .ok (.ifCond .eq 6, 3) := by decide +kernel
theorem dX12_hears_30 : decode cX12_hears 30 = .ok (.bipush (-2), 2) := by decide +kernel
theorem dX12_hears_32 : decode cX12_hears 32 = .ok (.ireturn, 1) := by decide +kernel
theorem dX12_hears_33 : decode cX12_hears 33 = .ok (.aload_n 0, 1) := by decide +kernel
theorem dX12_hears_34 : decode cX12_hears 34 = .ok (.invokevirtual 193, 3) := by decide +kernel
theorem dX12_hears_37 : decode cX12_hears 37 = .ok (.iconst 0, 1) := by decide +kernel
theorem dX12_hears_38 : decode cX12_hears 38 = .ok (.istore_n 3, 1) := by decide +kernel
theorem dX12_hears_39 : decode cX12_hears 39 = .ok (.iconst 0, 1) := by decide +kernel
theorem dX12_hears_40 : decode cX12_hears 40 = .ok (.istore 4, 2) := by decide +kernel
theorem dX12_hears_42 : decode cX12_hears 42 = .ok (.iload 4, 2) := by decide +kernel
theorem dX12_hears_44 : decode cX12_hears 44 = .ok (.aload_n 0, 1) := by decide +kernel
theorem dX12_hears_45 : decode cX12_hears 45 = .ok (.getfield 13, 3) := by decide +kernel
theorem dX12_hears_48 : decode cX12_hears 48 = .ok (.iconst 2, 1) := by decide +kernel
theorem dX12_hears_49 : decode cX12_hears 49 = .ok (.iaload, 1) := by decide +kernel
theorem dX12_hears_50 : decode cX12_hears 50 = .ok (.if_icmp .ge 54, 3) := by decide +kernel
theorem dX12_hears_53 : decode cX12_hears 53 = .ok (.iload_n 3, 1) := by decide +kernel
theorem dX12_hears_54 : decode cX12_hears 54 = .ok (.iload 4, 2) := by decide +kernel
theorem dX12_hears_56 : decode cX12_hears 56 = .ok (.iload_n 1, 1) := by decide +kernel
theorem dX12_hears_57 : decode cX12_hears 57 = .ok (.if_icmp .eq 38, 3) := by decide +kernel
theorem dX12_hears_60 : decode cX12_hears 60 = .ok (.aload_n 0, 1) := by decide +kernel
theorem dX12_hears_61 : decode cX12_hears 61 = .ok (.iload 4, 2) := by decide +kernel
theorem dX12_hears_63 : decode cX12_hears 63 = .ok (.invokevirtual 165, 3) := by decide +kernel
theorem dX12_hears_66 : decode cX12_hears 66 = .ok (.ifCond .ne 29, 3) := by decide +kernel
theorem dX12_hears_69 : decode cX12_hears 69 = .ok (.aload_n 0, 1) := by decide +kernel
theorem dX12_hears_70 : decode cX12_hears 70 = .ok (.aload_n 0, 1) := by decide +kernel
theorem dX12_hears_71 : decode cX12_hears 71 = .ok (.iload_n 1, 1) := by decide +kernel
theorem dX12_hears_72 : decode cX12_hears 72 = .ok (.invokevirtual 202, 3) := by decide +kernel
theorem dX12_hears_75 : decode cX12_hears 75 = .ok (.aload_n 0, 1) := by decide +kernel
theorem dX12_hears_76 : decode cX12_hears 76 = .ok (.iload 4, 2) := by decide +kernel
theorem dX12_hears_78 : decode cX12_hears 78 = .ok (.invokevirtual 202, 3) := by decide +kernel
theorem dX12_hears_81 : decode cX12_hears 81 = .ok (.invokevirtual 196, 3) := by decide +kernel
theorem dX12_hears_84 : decode cX12_hears 84 = .ok (.iload_n 2, 1) := by decide +kernel
theorem dX12_hears_85 : decode cX12_hears 85 = .ok (.if_icmp .gt 10, 3) := by decide +kernel
theorem dX12_hears_88 : decode cX12_hears 88 = .ok (.iconst 1, 1) := by decide +kernel
theorem dX12_hears_89 : decode cX12_hears 89 = .ok (.iload 4, 2) := by decide +kernel
theorem dX12_hears_91 : decode cX12_hears 91 = .ok (.ishl, 1) := by decide +kernel
theorem dX12_hears_92 : decode cX12_hears 92 = .ok (.goto 4, 3) := by decide +kernel
theorem dX12_hears_95 : decode cX12_hears 95 = .ok (.iconst 0, 1) := by decide +kernel
theorem dX12_hears_96 : decode cX12_hears 96 = .ok (.ior, 1) := by decide +kernel
theorem dX12_hears_97 : decode cX12_hears 97 = .ok (.istore_n 3, 1) := by decide +kernel
theorem dX12_hears_98 : decode cX12_hears 98 = .ok (.iinc 4 1, 3) := by decide +kernel
theorem dX12_hears_101 : decode cX12_hears 101 = .ok (.goto (-59), 3) := by decide +kernel
theorem dX12_hears_104 : decode cX12_hears 104 = .ok (.iload_n 3, 1) := by decide +kernel
theorem dX12_hears_105 : decode cX12_hears 105 = .ok (.ireturn, 1) := by decide +kernel
theorem dX12_shadow_0 : decode cX12_shadow 0 = .ok (.aload_n 0, 1) := by decide +kernel
theorem dX12_shadow_1 : decode cX12_shadow 1 = .ok (.iload_n 1, 1) := by decide +kernel
theorem dX12_shadow_2 : decode cX12_shadow 2 = .ok (.invokevirtual 133, 3) := by decide +kernel
theorem dX12_shadow_5 : decode cX12_shadow 5 = .ok (.ifCond .ne 5, 3) := by decide +kernel
theorem dX12_shadow_8 : decode cX12_shadow 8 = .ok (.iconst (-1), 1) := by decide +kernel
theorem dX12_shadow_9 : decode cX12_shadow 9 = .ok (.ireturn, 1) := by decide +kernel
theorem dX12_shadow_10 : decode cX12_shadow 10 = .ok (.aload_n 0, 1) := by decide +kernel
theorem dX12_shadow_11 : decode cX12_shadow 11 = .ok (.iload_n 1, 1) := by decide +kernel
theorem dX12_shadow_12 : decode cX12_shadow 12 = .ok (.invokevirtual 165, 3) := by decide +kernel
theorem dX12_shadow_15 : decode cX12_shadow 15 = .ok (.ifCond .eq 6, 3) := by decide +kernel
theorem dX12_shadow_18 : decode cX12_shadow 18 = .ok (.bipush (-2), 2) := by decide +kernel
theorem dX12_shadow_20 : decode cX12_shadow 20 = .ok (.ireturn, 1) := by decide +kernel
theorem dX12_shadow_21 : decode cX12_shadow 21 = .ok (.aload_n 0, 1) := by decide +kernel
theorem dX12_shadow_22 : decode cX12_shadow 22 = .ok (.invokevirtual 193, 3) := by decide +kernel
theorem dX12_shadow_25 : decode cX12_shadow 25 = .ok (.iconst 0, 1) := by decide +kernel
theorem dX12_shadow_26 : decode cX12_shadow 26 = .ok (.istore_n 2, 1) := by decide +kernel
theorem dX12_shadow_27 : decode cX12_shadow 27 = .ok (.iconst 0, 1) := by decide +kernel
theorem dX12_shadow_28 : decode cX12_shadow 28 = .ok (.istore_n 3, 1) := by decide +kernel
theorem dX12_shadow_29 : decode cX12_shadow 29 = .ok (.iload_n 3, 1) := by decide +kernel
theorem dX12_shadow_30 : decode cX12_shadow 30 = .ok (.bipush 24, 2) := by decide +kernel
theorem dX12_shadow_32 : decode cX12_shadow 32 = .ok (.aload_n 0, 1) := by decide +kernel
theorem dX12_shadow_33 : decode cX12_shadow 33 = .ok (.getfield 13, 3) := by decide +kernel
theorem dX12_shadow_36 : decode cX12_shadow 36 = .ok (.iconst 1, 1) := by decide +kernel
theorem dX12_shadow_37 : decode cX12_shadow 37 = .ok (.iaload, 1) := by decide +kernel
theorem dX12_shadow_38 : decode cX12_shadow 38 = .ok (.imul, 1) := by decide +kernel
theorem dX12_shadow_39 : decode cX12_shadow 39 = .ok (.if_icmp .ge 40, 3) := by decide +kernel
theorem dX12_shadow_42 : decode cX12_shadow 42 = .ok (.iload_n 2, 1) := by decide +kernel
theorem dX12_shadow_43 : decode cX12_shadow 43 = .ok (.aload_n 0, 1) := by decide +kernel
theorem dX12_shadow_44 : decode cX12_shadow 44 = .ok (.iload_n 3, 1) := by decide +kernel
theorem dX12_shadow_45 : decode cX12_shadow 45 = .ok (.invokevirtual 182, 3) := by decide +kernel
theorem dX12_shadow_48 : decode cX12_shadow 48 = .ok (.ifCond .eq 22, 3) := by decide +kernel
theorem dX12_shadow_51 : decode cX12_shadow 51 = .ok (.aload_n 0, 1) := by decide +kernel
theorem dX12_shadow_52 : decode cX12_shadow 52 = .ok (.aload_n 0, 1) := by decide +kernel
theorem dX12_shadow_53 : decode cX12_shadow 53 = .ok (.iload_n 1, 1) := by decide +kernel
theorem dX12_shadow_54 : decode cX12_shadow 54 = .ok (.invokevirtual 202, 3) := by decide +kernel
theorem dX12_shadow_57 : decode cX12_shadow 57 = .ok (.iload_n 3, 1) := by decide +kernel
theorem dX12_shadow_58 : decode cX12_shadow 58 = .ok (.invokevirtual 196, 3) := by decide +kernel
theorem dX12_shadow_61 : decode cX12_shadow 61 = .ok (.ldc 185, 2) := by decide +kernel
theorem dX12_shadow_63 : decode cX12_shadow 63 = .ok (.if_icmp .ne 7, 3) := by decide +kernel
theorem dX12_shadow_66 : decode cX12_shadow 66 = .ok (.iconst 1, 1) := by decide +kernel
theorem dX12_shadow_67 : decode cX12_shadow 67 = .ok (.goto 4, 3) := by decide +kernel
theorem dX12_shadow_70 : decode cX12_shadow 70 = .ok (.iconst 0, 1) := by decide +kernel
theorem dX12_shadow_71 : decode cX12_shadow 71 = .ok (.iadd, 1) := by decide +kernel
theorem dX12_shadow_72 : decode cX12_shadow 72 = .ok (.istore_n 2, 1) := by decide +kernel
theorem dX12_shadow_73 : decode cX12_shadow 73 = .ok (.iinc 3 1, 3) := by decide +kernel
theorem dX12_shadow_76 : decode cX12_shadow 76 = .ok (.goto (-47), 3) := by decide +kernel
theorem dX12_shadow_79 : decode cX12_shadow 79 = .ok (.iload_n 2, 1) := by decide +kernel
theorem dX12_shadow_80 : decode cX12_shadow 80 = .ok (.ireturn, 1) := by decide +kernel
theorem dX12_heard_0 : decode cX12_heard 0 = .ok (.aload_n 0, 1) := by decide +kernel
theorem dX12_heard_1 : decode cX12_heard 1 = .ok (.iload_n 1, 1) := by decide +kernel
theorem dX12_heard_2 : decode cX12_heard 2 = .ok (.invokevirtual 133, 3) := by decide +kernel
theorem dX12_heard_5 : decode cX12_heard 5 = .ok (.ifCond .eq 15, 3) := by decide +kernel
theorem dX12_heard_8 : decode cX12_heard 8 = .ok (.iload_n 2, 1) := by decide +kernel
theorem dX12_heard_9 : decode cX12_heard 9 = .ok (.i2l, 1) := by decide +kernel
theorem dX12_heard_10 : decode cX12_heard 10 = .ok (.lconst 0, 1) := by decide +kernel
theorem dX12_heard_11 : decode cX12_heard 11 = .ok (.ldc2_w 200, 3) := by decide +kernel
theorem dX12_heard_14 : decode cX12_heard 14 = .ok (.invokestatic 62, 3) := by decide +kernel
theorem dX12_heard_17 : decode cX12_heard 17 = .ok (.ifCond .ne 5, 3) := by decide +kernel
theorem dX12_heard_20 : decode cX12_heard 20 = .ok (.iconst (-1), 1) := by decide +kernel
theorem dX12_heard_21 : decode cX12_heard 21 = .ok (.ireturn, 1) := by decide +kernel
theorem dX12_heard_22 : decode cX12_heard 22 = .ok (.aload_n 0, 1) := by decide +kernel
theorem dX12_heard_23 : decode cX12_heard 23 = .ok (.iload_n 1, 1) := by decide +kernel
theorem dX12_heard_24 : decode cX12_heard 24 = .ok (.invokevirtual 165, 3) := by decide +kernel
theorem dX12_heard_27 : decode cX12_heard 27 = .ok (.ifCond .ne 12, 3) := by decide +kernel
theorem dX12_heard_30 : decode cX12_heard 30 = .ok (.aload_n 0, 1) := by decide +kernel
theorem dX12_heard_31 : decode cX12_heard 31 = .ok (.getfield 105, 3) := by decide +kernel
theorem dX12_heard_34 : decode cX12_heard 34 = .ok (.bipush 6, 2) := by decide +kernel
theorem dX12_heard_36 : decode cX12_heard 36 = .ok (.if_icmp .ne 19, 3) := by decide +kernel
theorem dX12_heard_39 : decode cX12_heard 39 = .ok (.aload_n 0, 1) := by decide +kernel
theorem dX12_heard_40 : decode cX12_heard 40 = .ok (.iload_n 1, 1) := by decide +kernel
theorem dX12_heard_41 : decode cX12_heard 41 = .ok (.invokevirtual 165, 3) := by decide +kernel
theorem dX12_heard_44 : decode cX12_heard 44 = .ok (.ifCond .eq 8, 3) := by decide +kernel
theorem dX12_heard_47 : decode cX12_heard 47 = .ok (.bipush (-2), 2) := by decide +kernel
theorem dX12_heard_49 : decode cX12_heard 49 = .ok (.goto 5, 3) := by decide +kernel
theorem dX12_heard_52 : decode cX12_heard 52 = .ok (.bipush (-3), 2) := by decide +kernel
theorem dX12_heard_54 : decode cX12_heard 54 = .ok (.ireturn, 1) := by decide +kernel
theorem dX12_heard_55 : decode cX12_heard 55 = .ok (.aload_n 0, 1) := by decide +kernel
theorem dX12_heard_56 : decode cX12_heard 56 = .ok (.getfield 32, 3) := by decide +kernel
theorem dX12_heard_59 : decode cX12_heard 59 = .ok (.iconst 2, 1) := by decide +kernel
theorem dX12_heard_60 : decode cX12_heard 60 = .ok (.aload_n 0, 1) := by decide +kernel
theorem dX12_heard_61 : decode cX12_heard 61 = .ok (.getfield 105, 3) := by decide +kernel
theorem dX12_heard_64 : decode cX12_heard 64 = .ok (.imul, 1) := by decide +kernel
theorem dX12_heard_65 : decode cX12_heard 65 = .ok (.iload_n 1, 1) := by decide +kernel
theorem dX12_heard_66 : decode cX12_heard 66 = .ok (.iastore, 1) := by decide +kernel
theorem dX12_heard_67 : decode cX12_heard 67 = .ok (.aload_n 0, 1) := by decide +kernel
theorem dX12_heard_68 : decode cX12_heard 68 = .ok (.getfield 32, 3) := by decide +kernel
theorem dX12_heard_71 : decode cX12_heard 71 = .ok (.iconst 2, 1) := by decide +kernel
theorem dX12_heard_72 : decode cX12_heard 72 = .ok (.aload_n 0, 1) := by decide +kernel
theorem dX12_heard_73 : decode cX12_heard 73 = .ok (.getfield 105, 3) := by decide +kernel
theorem dX12_heard_76 : decode cX12_heard 76 = .ok (.imul, 1) := by decide +kernel
theorem dX12_heard_77 : decode cX12_heard 77 = .ok (.iconst 1, 1) := by decide +kernel
theorem dX12_heard_78 : decode cX12_heard 78 = .ok (.iadd, 1) := by decide +kernel
theorem dX12_heard_79 : decode cX12_heard 79 = .ok (.iload_n 2, 1) := by decide +kernel
theorem dX12_heard_80 : decode cX12_heard 80 = .ok (.iastore, 1) := by decide +kernel
theorem dX12_heard_81 : decode cX12_heard 81 = .ok (.aload_n 0, 1) := by decide +kernel
theorem dX12_heard_82 : decode cX12_heard 82 = .ok (.dup, 1) := by decide +kernel
theorem dX12_heard_83 : decode cX12_heard 83 = .ok (.getfield 105, 3) := by decide +kernel
theorem dX12_heard_86 : decode cX12_heard 86 = .ok (.iconst 1, 1) := by decide +kernel
theorem dX12_heard_87 : decode cX12_heard 87 = .ok (.iadd, 1) := by decide +kernel
theorem dX12_heard_88 : decode cX12_heard 88 = .ok (.putfield 105, 3) := by decide +kernel
theorem dX12_heard_91 : decode cX12_heard 91 = .ok (.aload_n 0, 1) := by decide +kernel
theorem dX12_heard_92 : decode cX12_heard 92 = .ok (.getfield 105, 3) := by decide +kernel
theorem dX12_heard_95 : decode cX12_heard 95 = .ok (.ireturn, 1) := by decide +kernel
theorem dX12_hush_0 : decode cX12_hush 0 = .ok (.aload_n 0, 1) := by decide +kernel
theorem dX12_hush_1 : decode cX12_hush 1 = .ok (.getfield 105, 3) := by decide +kernel
theorem dX12_hush_4 : decode cX12_hush 4 = .ok (.istore_n 1, 1) := by decide +kernel
theorem dX12_hush_5 : decode cX12_hush 5 = .ok (.aload_n 0, 1) := by decide +kernel
theorem dX12_hush_6 : decode cX12_hush 6 = .ok (.iconst 0, 1) := by decide +kernel
theorem dX12_hush_7 : decode cX12_hush 7 = .ok (.putfield 105, 3) := by decide +kernel
theorem dX12_hush_10 : decode cX12_hush 10 = .ok (.iload_n 1, 1) := by decide +kernel
theorem dX12_hush_11 : decode cX12_hush 11 = .ok (.ireturn, 1) := by decide +kernel
theorem dX12_isWhence_0 : decode cX12_isWhence 0 = .ok (.aload_n 0, 1) := by decide +kernel
theorem dX12_isWhence_1 : decode cX12_isWhence 1 = .ok (.iload_n 1, 1) := by decide +kernel
theorem dX12_isWhence_2 : decode cX12_isWhence 2 = .ok (.invokevirtual 182, 3) := by decide +kernel
theorem dX12_isWhence_5 : decode cX12_isWhence 5 = .ok (.istore_n 2, 1) := by decide +kernel
theorem dX12_isWhence_6 : decode cX12_isWhence 6 = .ok (.iconst 0, 1) := by decide +kernel
theorem dX12_isWhence_7 : decode cX12_isWhence 7 = .ok (.istore_n 3, 1) := by decide +kernel
theorem dX12_isWhence_8 : decode cX12_isWhence 8 = .ok (.iload_n 3, 1) := by decide +kernel
theorem dX12_isWhence_9 : decode cX12_isWhence 9 = .ok (.aload_n 0, 1) := by decide +kernel
theorem dX12_isWhence_10 : decode cX12_isWhence 10 = .ok (.getfield 105, 3) := by decide +kernel
theorem dX12_isWhence_13 : decode cX12_isWhence 13 = .ok (.if_icmp .ge 87, 3) := by decide +kernel
theorem dX12_isWhence_16 : decode cX12_isWhence 16 = .ok (.iload_n 2, 1) := by decide +kernel
theorem dX12_isWhence_17 : decode cX12_isWhence 17 = .ok (.ifCond .eq 83, 3) := by decide +kernel
theorem dX12_isWhence_20 : decode cX12_isWhence 20 = .ok (.aload_n 0, 1) := by decide +kernel
theorem dX12_isWhence_21 : decode cX12_isWhence 21 = .ok (.iload_n 1, 1) := by decide +kernel
theorem dX12_isWhence_22 : decode cX12_isWhence 22 = .ok (.aload_n 0, 1) := by decide +kernel
theorem dX12_isWhence_23 : decode cX12_isWhence 23 = .ok (.aload_n 0, 1) := by decide +kernel
theorem dX12_isWhence_24 : decode cX12_isWhence 24 = .ok (.getfield 32, 3) := by decide +kernel
theorem dX12_isWhence_27 : decode cX12_isWhence 27 = .ok (.iconst 2, 1) := by decide +kernel
theorem dX12_isWhence_28 : decode cX12_isWhence 28 = .ok (.iload_n 3, 1) := by decide +kernel
theorem dX12_isWhence_29 : decode cX12_isWhence 29 = .ok (.imul, 1) := by decide +kernel
theorem dX12_isWhence_30 : decode cX12_isWhence 30 = .ok (.iaload, 1) := by decide +kernel
theorem dX12_isWhence_31 : decode cX12_isWhence 31 = .ok (.invokevirtual 202, 3) := by decide +kernel
theorem dX12_isWhence_34 : decode cX12_isWhence 34 = .ok (.invokevirtual 196, 3) := by decide +kernel
theorem dX12_isWhence_37 : decode cX12_isWhence 37 = .ok (.istore 4, 2) := by decide +kernel
theorem dX12_isWhence_39 : decode cX12_isWhence 39 = .ok (.aload_n 0, 1) := by decide +kernel
theorem dX12_isWhence_40 : decode cX12_isWhence 40 = .ok (.iload_n 1, 1) := by decide +kernel
theorem dX12_isWhence_41 : decode cX12_isWhence 41 = .ok (.aload_n 0, 1) := by decide +kernel
theorem dX12_isWhence_42 : decode cX12_isWhence 42 = .ok (.aload_n 0, 1) := by decide +kernel
theorem dX12_isWhence_43 : decode cX12_isWhence 43 = .ok (.getfield 32, 3) := by decide +kernel
theorem dX12_isWhence_46 : decode cX12_isWhence 46 = .ok (.iconst 0, 1) := by decide +kernel
theorem dX12_isWhence_47 : decode cX12_isWhence 47 = .ok (.iaload, 1) := by decide +kernel
theorem dX12_isWhence_48 : decode cX12_isWhence 48 = .ok (.invokevirtual 202, 3) := by decide +kernel
theorem dX12_isWhence_51 : decode cX12_isWhence 51 = .ok (.invokevirtual 196, 3) := by decide +kernel
theorem dX12_isWhence_54 : decode cX12_isWhence 54 = .ok (.istore 5, 2) := by decide +kernel
theorem dX12_isWhence_56 : decode cX12_isWhence 56 = .ok (.iload 4, 2) := by decide +kernel
theorem dX12_isWhence_58 : decode cX12_isWhence 58 = .ok (.ldc 185, 2) := by decide +kernel
theorem dX12_isWhence_60 : decode cX12_isWhence 60 = .ok (.if_icmp .ge 32, 3) := by decide +kernel
theorem dX12_isWhence_63 : decode cX12_isWhence 63 = .ok (.aload_n 0, 1) := by decide +kernel
theorem dX12_isWhence_64 : decode cX12_isWhence 64 = .ok (.getfield 32, 3) := by decide +kernel
theorem dX12_isWhence_67 : decode cX12_isWhence 67 = .ok (.iconst 2, 1) := by decide +kernel
theorem dX12_isWhence_68 : decode cX12_isWhence 68 = .ok (.iload_n 3, 1) := by decide +kernel
theorem dX12_isWhence_69 : decode cX12_isWhence 69 = .ok (.imul, 1) := by decide +kernel
theorem dX12_isWhence_70 : decode cX12_isWhence 70 = .ok (.iconst 1, 1) := by decide +kernel
theorem dX12_isWhence_71 : decode cX12_isWhence 71 = .ok (.iadd, 1) := by decide +kernel
theorem dX12_isWhence_72 : decode cX12_isWhence 72 = .ok (.iaload, 1) := by decide +kernel
theorem dX12_isWhence_73 : decode cX12_isWhence 73 = .ok (.iload 4, 2) := by decide +kernel
theorem dX12_isWhence_75 : decode cX12_isWhence 75 = .ok (.isub, 1) := by decide +kernel
theorem dX12_isWhence_76 : decode cX12_isWhence 76 = .ok (.aload_n 0, 1) := by decide +kernel
theorem dX12_isWhence_77 : decode cX12_isWhence 77 = .ok (.getfield 32, 3) := by decide +kernel
theorem dX12_isWhence_80 : decode cX12_isWhence 80 = .ok (.iconst 1, 1) := by decide +kernel
theorem dX12_isWhence_81 : decode cX12_isWhence 81 = .ok (.iaload, 1) := by decide +kernel
theorem dX12_isWhence_82 : decode cX12_isWhence 82 = .ok (.iload 5, 2) := by decide +kernel
theorem dX12_isWhence_84 : decode cX12_isWhence 84 = .ok (.isub, 1) := by decide +kernel
theorem dX12_isWhence_85 : decode cX12_isWhence 85 = .ok (.if_icmp .ne 7, 3) := by decide +kernel
theorem dX12_isWhence_88 : decode cX12_isWhence 88 = .ok (.iconst 1, 1) := by decide +kernel
theorem dX12_isWhence_89 : decode cX12_isWhence 89 = .ok (.goto 4, 3) := by decide +kernel
theorem dX12_isWhence_92 : decode cX12_isWhence 92 = .ok (.iconst 0, 1) := by decide +kernel
theorem dX12_isWhence_93 : decode cX12_isWhence 93 = .ok (.istore_n 2, 1) := by decide +kernel
theorem dX12_isWhence_94 : decode cX12_isWhence 94 = .ok (.iinc 3 1, 3) := by decide +kernel
theorem dX12_isWhence_97 : decode cX12_isWhence 97 = .ok (.goto (-89), 3) := by decide +kernel
theorem dX12_isWhence_100 : decode cX12_isWhence 100 = .ok (.iload_n 2, 1) := by decide +kernel
theorem dX12_isWhence_101 : decode cX12_isWhence 101 = .ok (.ireturn, 1) := by decide +kernel
theorem dX12_whence_0 : decode cX12_whence 0 = .ok (.iload_n 1, 1) := by decide +kernel
theorem dX12_whence_1 : decode cX12_whence 1 = .ok (.i2l, 1) := by decide +kernel
theorem dX12_whence_2 : decode cX12_whence 2 = .ok (.lconst 0, 1) := by decide +kernel
theorem dX12_whence_3 : decode cX12_whence 3 = .ok (.lconst 1, 1) := by decide +kernel
theorem dX12_whence_4 : decode cX12_whence 4 = .ok (.invokestatic 62, 3) := by decide +kernel
theorem dX12_whence_7 : decode cX12_whence 7 = .ok (.ifCond .ne 5, 3) := by decide +kernel
theorem dX12_whence_10 : decode cX12_whence 10 = .ok (.iconst (-1), 1) := by decide +kernel
theorem dX12_whence_11 : decode cX12_whence 11 = .ok (.ireturn, 1) := by decide +kernel
theorem dX12_whence_12 : decode cX12_whence 12 = .ok (.aload_n 0, 1) := by decide +kernel
theorem dX12_whence_13 : decode cX12_whence 13 = .ok (.invokevirtual 193, 3) := by decide +kernel
theorem dX12_whence_16 : decode cX12_whence 16 = .ok (.iconst 0, 1) := by decide +kernel
theorem dX12_whence_17 : decode cX12_whence 17 = .ok (.istore_n 2, 1) := by decide +kernel
theorem dX12_whence_18 : decode cX12_whence 18 = .ok (.bipush (-4), 2) := by decide +kernel
theorem dX12_whence_20 : decode cX12_whence 20 = .ok (.istore_n 3, 1) := by decide +kernel
theorem dX12_whence_21 : decode cX12_whence 21 = .ok (.bipush 24, 2) := by decide +kernel
theorem dX12_whence_23 : decode cX12_whence 23 = .ok (.aload_n 0, 1) := by decide +kernel
theorem dX12_whence_24 : decode cX12_whence 24 = .ok (.getfield 13, 3) := by decide +kernel
theorem dX12_whence_27 : decode cX12_whence 27 = .ok (.iconst 1, 1) := by decide +kernel
theorem dX12_whence_28 : decode cX12_whence 28 = .ok (.iaload, 1) := by decide +kernel
theorem dX12_whence_29 : decode cX12_whence 29 = .ok (.imul, 1) := by decide +kernel
theorem dX12_whence_30 : decode cX12_whence 30 = .ok (.iconst 1, 1) := by decide +kernel
theorem dX12_whence_31 : decode cX12_whence 31 = .ok (.isub, 1) := by decide +kernel
theorem dX12_whence_32 : decode cX12_whence 32 = .ok (.istore 4, 2) := by decide +kernel
theorem dX12_whence_34 : decode cX12_whence 34 = .ok (.iload 4, 2) := by decide +kernel
theorem dX12_whence_36 : decode cX12_whence 36 = .ok (.ifCond .lt 24, 3) := by decide +kernel
theorem dX12_whence_39 : decode cX12_whence 39 = .ok (.aload_n 0, 1) := by decide +kernel
theorem dX12_whence_40 : decode cX12_whence 40 = .ok (.iload 4, 2) := by decide +kernel
theorem dX12_whence_42 : decode cX12_whence 42 = .ok (.invokevirtual 205, 3) := by decide +kernel
theorem dX12_whence_45 : decode cX12_whence 45 = .ok (.ifCond .eq 9, 3) := by decide +kernel
theorem dX12_whence_48 : decode cX12_whence 48 = .ok (.iinc 2 1, 3) := by decide +kernel
theorem dX12_whence_51 : decode cX12_whence 51 = .ok (.iload 4, 2) := by decide +kernel
theorem dX12_whence_53 : decode cX12_whence 53 = .ok (.istore_n 3, 1) := by decide +kernel
theorem dX12_whence_54 : decode cX12_whence 54 = .ok (.iinc 4 (-1), 3) := by decide +kernel
theorem dX12_whence_57 : decode cX12_whence 57 = .ok (.goto (-23), 3) := by decide +kernel
theorem dX12_whence_60 : decode cX12_whence 60 = .ok (.iload_n 1, 1) := by decide +kernel
theorem dX12_whence_61 : decode cX12_whence 61 = .ok (.ifCond .ne 7, 3) := by decide +kernel
theorem dX12_whence_64 : decode cX12_whence 64 = .ok (.iload_n 2, 1) := by decide +kernel
theorem dX12_whence_65 : decode cX12_whence 65 = .ok (.goto 4, 3) := by decide +kernel
theorem dX12_whence_68 : decode cX12_whence 68 = .ok (.iload_n 3, 1) := by decide +kernel
theorem dX12_whence_69 : decode cX12_whence 69 = .ok (.ireturn, 1) := by decide +kernel
theorem dX12_isAll_0 : decode cX12_isAll 0 = .ok (.iconst 1, 1) := by decide +kernel
theorem dX12_isAll_1 : decode cX12_isAll 1 = .ok (.istore_n 2, 1) := by decide +kernel
theorem dX12_isAll_2 : decode cX12_isAll 2 = .ok (.iconst 0, 1) := by decide +kernel
theorem dX12_isAll_3 : decode cX12_isAll 3 = .ok (.istore_n 3, 1) := by decide +kernel
theorem dX12_isAll_4 : decode cX12_isAll 4 = .ok (.iload_n 3, 1) := by decide +kernel
theorem dX12_isAll_5 : decode cX12_isAll 5 = .ok (.aload_n 0, 1) := by decide +kernel
theorem dX12_isAll_6 : decode cX12_isAll 6 = .ok (.getfield 13, 3) := by decide +kernel
theorem dX12_isAll_9 : decode cX12_isAll 9 = .ok (.iconst 2, 1) := by decide +kernel
theorem dX12_isAll_10 : decode cX12_isAll 10 = .ok (.iaload, 1) := by decide +kernel
theorem dX12_isAll_11 : decode cX12_isAll 11 = .ok (.if_icmp .ge 103, 3) := by decide +kernel
theorem dX12_isAll_14 : decode cX12_isAll 14 = .ok (.iconst 0, 1) := by decide +kernel
theorem dX12_isAll_15 : decode cX12_isAll 15 = .ok (.istore 4, 2) := by decide +kernel
theorem dX12_isAll_17 : decode cX12_isAll 17 = .ok (.iload 4, 2) := by decide +kernel
theorem dX12_isAll_19 : decode cX12_isAll 19 = .ok (.iload_n 3, 1) := by decide +kernel
theorem dX12_isAll_20 : decode cX12_isAll 20 = .ok (.if_icmp .ge 88, 3) := by decide +kernel
theorem dX12_isAll_23 : decode cX12_isAll 23 = .ok (.aload_n 0, 1) := by decide +kernel
theorem dX12_isAll_24 : decode cX12_isAll 24 = .ok (.iload_n 3, 1) := by decide +kernel
theorem dX12_isAll_25 : decode cX12_isAll 25 = .ok (.invokevirtual 165, 3) := by decide +kernel
theorem dX12_isAll_28 : decode cX12_isAll 28 = .ok (.ifCond .ne 16, 3) := by decide +kernel
theorem dX12_isAll_31 : decode cX12_isAll 31 = .ok (.aload_n 0, 1) := by decide +kernel
theorem dX12_isAll_32 : decode cX12_isAll 32 = .ok (.iload 4, 2) := by decide +kernel
theorem dX12_isAll_34 : decode cX12_isAll 34 = .ok (.invokevirtual 165, 3) := by decide +kernel
theorem dX12_isAll_37 : decode cX12_isAll 37 = .ok (.ifCond .ne 7, 3) := by decide +kernel
theorem dX12_isAll_40 : decode cX12_isAll 40 = .ok (.iconst 1, 1) := by decide +kernel
theorem dX12_isAll_41 : decode cX12_isAll 41 = .ok (.goto 4, 3) := by decide +kernel
theorem dX12_isAll_44 : decode cX12_isAll 44 = .ok (.iconst 0, 1) := by decide +kernel
theorem dX12_isAll_45 : decode cX12_isAll 45 = .ok (.istore 5, 2) := by decide +kernel
theorem dX12_isAll_47 : decode cX12_isAll 47 = .ok (.iload_n 2, 1) := by decide +kernel
theorem dX12_isAll_48 : decode cX12_isAll 48 = .ok (.ifCond .eq 52, 3) := by decide +kernel
theorem dX12_isAll_51 : decode cX12_isAll 51 = .ok (.iload 5, 2) := by decide +kernel
theorem dX12_isAll_53 : decode cX12_isAll 53 = .ok (.ifCond .eq 43, 3) := by decide +kernel
theorem dX12_isAll_56 : decode cX12_isAll 56 = .ok (.aload_n 0, 1) := by decide +kernel
theorem dX12_isAll_57 : decode cX12_isAll 57 = .ok (.bipush 24, 2) := by decide +kernel
theorem dX12_isAll_59 : decode cX12_isAll 59 = .ok (.aload_n 0, 1) := by decide +kernel
theorem dX12_isAll_60 : decode cX12_isAll 60 = .ok (.iload_n 3, 1) := by decide +kernel
theorem dX12_isAll_61 : decode cX12_isAll 61 = .ok (.invokevirtual 127, 3) := by decide +kernel
theorem dX12_isAll_64 : decode cX12_isAll 64 = .ok (.imul, 1) := by decide +kernel
theorem dX12_isAll_65 : decode cX12_isAll 65 = .ok (.aload_n 0, 1) := by decide +kernel
theorem dX12_isAll_66 : decode cX12_isAll 66 = .ok (.getfield 42, 3) := by decide +kernel
theorem dX12_isAll_69 : decode cX12_isAll 69 = .ok (.iload_n 3, 1) := by decide +kernel
theorem dX12_isAll_70 : decode cX12_isAll 70 = .ok (.iaload, 1) := by decide +kernel
theorem dX12_isAll_71 : decode cX12_isAll 71 = .ok (.iadd, 1) := by decide +kernel
theorem dX12_isAll_72 : decode cX12_isAll 72 = .ok (.bipush 24, 2) := by decide +kernel
theorem dX12_isAll_74 : decode cX12_isAll 74 = .ok (.aload_n 0, 1) := by decide +kernel
theorem dX12_isAll_75 : decode cX12_isAll 75 = .ok (.iload 4, 2) := by decide +kernel
theorem dX12_isAll_77 : decode cX12_isAll 77 = .ok (.invokevirtual 127, 3) := by decide +kernel
theorem dX12_isAll_80 : decode cX12_isAll 80 = .ok (.imul, 1) := by decide +kernel
theorem dX12_isAll_81 : decode cX12_isAll 81 = .ok (.aload_n 0, 1) := by decide +kernel
theorem dX12_isAll_82 : decode cX12_isAll 82 = .ok (.getfield 42, 3) := by decide +kernel
theorem dX12_isAll_85 : decode cX12_isAll 85 = .ok (.iload 4, 2) := by decide +kernel
theorem dX12_isAll_87 : decode cX12_isAll 87 = .ok (.iaload, 1) := by decide +kernel
theorem dX12_isAll_88 : decode cX12_isAll 88 = .ok (.iadd, 1) := by decide +kernel
theorem dX12_isAll_89 : decode cX12_isAll 89 = .ok (.invokevirtual 196, 3) := by decide +kernel
theorem dX12_isAll_92 : decode cX12_isAll 92 = .ok (.iload_n 1, 1) := by decide +kernel
theorem dX12_isAll_93 : decode cX12_isAll 93 = .ok (.if_icmp .gt 7, 3) := by decide +kernel
theorem dX12_isAll_96 : decode cX12_isAll 96 = .ok (.iconst 1, 1) := by decide +kernel
theorem dX12_isAll_97 : decode cX12_isAll 97 = .ok (.goto 4, 3) := by decide +kernel
theorem dX12_isAll_100 : decode cX12_isAll 100 = .ok (.iconst 0, 1) := by decide +kernel
theorem dX12_isAll_101 : decode cX12_isAll 101 = .ok (.istore_n 2, 1) := by decide +kernel
theorem dX12_isAll_102 : decode cX12_isAll 102 = .ok (.iinc 4 1, 3) := by decide +kernel
theorem dX12_isAll_105 : decode cX12_isAll 105 = .ok (.goto (-88), 3) := by decide +kernel
theorem dX12_isAll_108 : decode cX12_isAll 108 = .ok (.iinc 3 1, 3) := by decide +kernel
theorem dX12_isAll_111 : decode cX12_isAll 111 = .ok (.goto (-107), 3) := by decide +kernel
theorem dX12_isAll_114 : decode cX12_isAll 114 = .ok (.iload_n 2, 1) := by decide +kernel
theorem dX12_isAll_115 : decode cX12_isAll 115 = .ok (.ireturn, 1) := by decide +kernel
theorem dX12_canHang_0 : decode cX12_canHang 0 = .ok (.aload_n 0, 1) := by decide +kernel
theorem dX12_canHang_1 : decode cX12_canHang 1 = .ok (.iload_n 1, 1) := by decide +kernel
theorem dX12_canHang_2 : decode cX12_canHang 2 = .ok (.invokevirtual 165, 3) := by decide +kernel
theorem dX12_canHang_5 : decode cX12_canHang 5 = .ok (.ifCond .ne 20, 3) := by decide +kernel
theorem dX12_canHang_8 : decode cX12_canHang 8 = .ok (.aload_n 0, 1) := by decide +kernel
theorem dX12_canHang_9 : decode cX12_canHang 9 = .ok (.aload_n 0, 1) := by decide +kernel
theorem dX12_canHang_10 : decode cX12_canHang 10 = .ok (.iload_n 1, 1) := by decide +kernel
theorem dX12_canHang_11 : decode cX12_canHang 11 = .ok (.invokevirtual 127, 3) := by decide +kernel
theorem dX12_canHang_14 : decode cX12_canHang 14 = .ok (.iload_n 2, 1) := by decide +kernel
theorem dX12_canHang_15 : decode cX12_canHang 15 = .ok (.invokevirtual 175, 3) := by decide +kernel
theorem dX12_canHang_18 : decode cX12_canHang 18 = .ok (.ifCond .ne 7, 3) := by decide +kernel
theorem dX12_canHang_21 : decode cX12_canHang 21 = .ok (.iconst 1, 1) := by decide +kernel
theorem dX12_canHang_22 : decode cX12_canHang 22 = .ok (.goto 4, 3) := by decide +kernel
theorem dX12_canHang_25 : decode cX12_canHang 25 = .ok (.iconst 0, 1) := by decide +kernel
theorem dX12_canHang_26 : decode cX12_canHang 26 = .ok (.istore_n 3, 1) := by decide +kernel
theorem dX12_canHang_27 : decode cX12_canHang 27 = .ok (.iconst 0, 1) := by decide +kernel
theorem dX12_canHang_28 : decode cX12_canHang 28 = .ok (.istore 4, 2) := by decide +kernel
theorem dX12_canHang_30 : decode cX12_canHang 30 = .ok (.iload 4, 2) := by decide +kernel
theorem dX12_canHang_32 : decode cX12_canHang 32 = .ok (.aload_n 0, 1) := by decide +kernel
theorem dX12_canHang_33 : decode cX12_canHang 33 = .ok (.getfield 13, 3) := by decide +kernel
theorem dX12_canHang_36 : decode cX12_canHang 36 = .ok (.iconst 2, 1) := by decide +kernel
theorem dX12_canHang_37 : decode cX12_canHang 37 = .ok (.iaload, 1) := by decide +kernel
theorem dX12_canHang_38 : decode cX12_canHang 38 = .ok (.if_icmp .ge 53, 3) := by decide +kernel
theorem dX12_canHang_41 : decode cX12_canHang 41 = .ok (.iload_n 3, 1) := by decide +kernel
theorem dX12_canHang_42 : decode cX12_canHang 42 = .ok (.ifCond .eq 41, 3) := by decide +kernel
theorem dX12_canHang_45 : decode cX12_canHang 45 = .ok (.aload_n 0, 1) := by decide +kernel
theorem dX12_canHang_46 : decode cX12_canHang 46 = .ok (.iload 4, 2) := by decide +kernel
theorem dX12_canHang_48 : decode cX12_canHang 48 = .ok (.invokevirtual 165, 3) := by decide +kernel
theorem dX12_canHang_51 : decode cX12_canHang 51 = .ok (.ifCond .ne 28, 3) := by decide +kernel
theorem dX12_canHang_54 : decode cX12_canHang 54 = .ok (.aload_n 0, 1) := by decide +kernel
theorem dX12_canHang_55 : decode cX12_canHang 55 = .ok (.iload 4, 2) := by decide +kernel
theorem dX12_canHang_57 : decode cX12_canHang 57 = .ok (.invokevirtual 127, 3) := by decide +kernel
theorem dX12_canHang_60 : decode cX12_canHang 60 = .ok (.aload_n 0, 1) := by decide +kernel
theorem dX12_canHang_61 : decode cX12_canHang 61 = .ok (.iload_n 1, 1) := by decide +kernel
theorem dX12_canHang_62 : decode cX12_canHang 62 = .ok (.invokevirtual 127, 3) := by decide +kernel
theorem dX12_canHang_65 : decode cX12_canHang 65 = .ok (.if_icmp .ne 14, 3) := by decide +kernel
theorem dX12_canHang_68 : decode cX12_canHang 68 = .ok (.aload_n 0, 1) := by decide +kernel
theorem dX12_canHang_69 : decode cX12_canHang 69 = .ok (.getfield 42, 3) := by decide +kernel
theorem dX12_canHang_72 : decode cX12_canHang 72 = .ok (.iload 4, 2) := by decide +kernel
theorem dX12_canHang_74 : decode cX12_canHang 74 = .ok (.iaload, 1) := by decide +kernel
theorem dX12_canHang_75 : decode cX12_canHang 75 = .ok (.iload_n 2, 1) := by decide +kernel
theorem dX12_canHang_76 : decode cX12_canHang 76 = .ok (.if_icmp .eq 7, 3) := by decide +kernel
theorem dX12_canHang_79 : decode cX12_canHang 79 = .ok (.iconst 1, 1) := by decide +kernel
theorem dX12_canHang_80 : decode cX12_canHang 80 = .ok (.goto 4, 3) := by decide +kernel
theorem dX12_canHang_83 : decode cX12_canHang 83 = .ok (.iconst 0, 1) := by decide +kernel
theorem dX12_canHang_84 : decode cX12_canHang 84 = .ok (.istore_n 3, 1) := by decide +kernel
theorem dX12_canHang_85 : decode cX12_canHang 85 = .ok (.iinc 4 1, 3) := by decide +kernel
theorem dX12_canHang_88 : decode cX12_canHang 88 = .ok (.goto (-58), 3) := by decide +kernel
theorem dX12_canHang_91 : decode cX12_canHang 91 = .ok (.iload_n 3, 1) := by decide +kernel
theorem dX12_canHang_92 : decode cX12_canHang 92 = .ok (.ireturn, 1) := by decide +kernel
theorem dX12_hangs_0 : decode cX12_hangs 0 = .ok (.iload_n 1, 1) := by decide +kernel
theorem dX12_hangs_1 : decode cX12_hangs 1 = .ok (.istore_n 3, 1) := by decide +kernel
theorem dX12_hangs_2 : decode cX12_hangs 2 = .ok (.iload_n 3, 1) := by decide +kernel
theorem dX12_hangs_3 : decode cX12_hangs 3 = .ok (.aload_n 0, 1) := by decide +kernel
theorem dX12_hangs_4 : decode cX12_hangs 4 = .ok (.getfield 13, 3) := by decide +kernel
theorem dX12_hangs_7 : decode cX12_hangs 7 = .ok (.iconst 2, 1) := by decide +kernel
theorem dX12_hangs_8 : decode cX12_hangs 8 = .ok (.iaload, 1) := by decide +kernel
theorem dX12_hangs_9 : decode cX12_hangs 9 = .ok (.if_icmp .ge 101, 3) := by decide +kernel
theorem dX12_hangs_12 : decode cX12_hangs 12 = .ok (.aload_n 0, 1) := by decide +kernel
theorem dX12_hangs_13 : decode cX12_hangs 13 = .ok (.getfield 42, 3) := by decide +kernel
theorem dX12_hangs_16 : decode cX12_hangs 16 = .ok (.iload_n 3, 1) := by decide +kernel
theorem dX12_hangs_17 : decode cX12_hangs 17 = .ok (.iaload, 1) := by decide +kernel
theorem dX12_hangs_18 : decode cX12_hangs 18 = .ok (.istore 4, 2) := by decide +kernel
theorem dX12_hangs_20 : decode cX12_hangs 20 = .ok (.iconst 0, 1) := by decide +kernel
theorem dX12_hangs_21 : decode cX12_hangs 21 = .ok (.istore 5, 2) := by decide +kernel
theorem dX12_hangs_23 : decode cX12_hangs 23 = .ok (.iload 5, 2) := by decide +kernel
theorem dX12_hangs_25 : decode cX12_hangs 25 = .ok (.aload_n 0, 1) := by decide +kernel
theorem dX12_hangs_26 : decode cX12_hangs 26 = .ok (.getfield 13, 3) := by decide +kernel
theorem dX12_hangs_29 : decode cX12_hangs 29 = .ok (.iconst 0, 1) := by decide +kernel
theorem dX12_hangs_30 : decode cX12_hangs 30 = .ok (.iaload, 1) := by decide +kernel
theorem dX12_hangs_31 : decode cX12_hangs 31 = .ok (.if_icmp .ge 73, 3) := by decide +kernel
theorem dX12_hangs_34 : decode cX12_hangs 34 = .ok (.aload_n 0, 1) := by decide +kernel
theorem dX12_hangs_35 : decode cX12_hangs 35 = .ok (.iload_n 3, 1) := by decide +kernel
theorem dX12_hangs_36 : decode cX12_hangs 36 = .ok (.iload 5, 2) := by decide +kernel
theorem dX12_hangs_38 : decode cX12_hangs 38 = .ok (.invokevirtual 208, 3) := by decide +kernel
theorem dX12_hangs_41 : decode cX12_hangs 41 = .ok (.istore 6, 2) := by decide +kernel
theorem dX12_hangs_43 : decode cX12_hangs 43 = .ok (.aload_n 0, 1) := by decide +kernel
theorem dX12_hangs_44 : decode cX12_hangs 44 = .ok (.getfield 42, 3) := by decide +kernel
theorem dX12_hangs_47 : decode cX12_hangs 47 = .ok (.iload_n 3, 1) := by decide +kernel
theorem dX12_hangs_48 : decode cX12_hangs 48 = .ok (.iload 6, 2) := by decide +kernel
theorem dX12_hangs_50 : decode cX12_hangs 50 = .ok (.ifCond .eq 8, 3) := by decide +kernel
theorem dX12_hangs_53 : decode cX12_hangs 53 = .ok (.iload 5, 2) := by decide +kernel
theorem dX12_hangs_55 : decode cX12_hangs 55 = .ok (.goto 5, 3) := by decide +kernel
theorem dX12_hangs_58 : decode cX12_hangs 58 = .ok (.iload 4, 2) := by decide +kernel
theorem dX12_hangs_60 : decode cX12_hangs 60 = .ok (.iastore, 1) := by decide +kernel
theorem dX12_hangs_61 : decode cX12_hangs 61 = .ok (.iload 6, 2) := by decide +kernel
theorem dX12_hangs_63 : decode cX12_hangs 63 = .ok (.ifCond .eq 27, 3) := by decide +kernel
theorem dX12_hangs_66 : decode cX12_hangs 66 = .ok (.aload_n 0, 1) := by decide +kernel
theorem dX12_hangs_67 : decode cX12_hangs 67 = .ok (.iload_n 2, 1) := by decide +kernel
theorem dX12_hangs_68 : decode cX12_hangs 68 = .ok (.invokevirtual 211, 3) := by decide +kernel
theorem dX12_hangs_71 : decode cX12_hangs 71 = .ok (.ifCond .eq 19, 3) := by decide +kernel
theorem dX12_hangs_74 : decode cX12_hangs 74 = .ok (.aload_n 0, 1) := by decide +kernel
theorem dX12_hangs_75 : decode cX12_hangs 75 = .ok (.getfield 42, 3) := by decide +kernel
theorem dX12_hangs_78 : decode cX12_hangs 78 = .ok (.iload_n 3, 1) := by decide +kernel
theorem dX12_hangs_79 : decode cX12_hangs 79 = .ok (.iload 4, 2) := by decide +kernel
theorem dX12_hangs_81 : decode cX12_hangs 81 = .ok (.iastore, 1) := by decide +kernel
theorem dX12_hangs_82 : decode cX12_hangs 82 = .ok (.bipush 24, 2) := by decide +kernel
theorem dX12_hangs_84 : decode cX12_hangs 84 = .ok (.iload_n 3, 1) := by decide +kernel
theorem dX12_hangs_85 : decode cX12_hangs 85 = .ok (.imul, 1) := by decide +kernel
theorem dX12_hangs_86 : decode cX12_hangs 86 = .ok (.iload 5, 2) := by decide +kernel
theorem dX12_hangs_88 : decode cX12_hangs 88 = .ok (.iadd, 1) := by decide +kernel
theorem dX12_hangs_89 : decode cX12_hangs 89 = .ok (.ireturn, 1) := by decide +kernel
theorem dX12_hangs_90 : decode cX12_hangs 90 = .ok (.aload_n 0, 1) := by decide +kernel
theorem dX12_hangs_91 : decode cX12_hangs 91 = .ok (.getfield 42, 3) := by decide +kernel
theorem dX12_hangs_94 : decode cX12_hangs 94 = .ok (.iload_n 3, 1) := by decide +kernel
theorem dX12_hangs_95 : decode cX12_hangs 95 = .ok (.iload 4, 2) := by decide +kernel
theorem dX12_hangs_97 : decode cX12_hangs 97 = .ok (.iastore, 1) := by decide +kernel
theorem dX12_hangs_98 : decode cX12_hangs 98 = .ok (.iinc 5 1, 3) := by decide +kernel
theorem dX12_hangs_101 : decode cX12_hangs 101 = .ok (.goto (-78), 3) := by decide +kernel
theorem dX12_hangs_104 : decode cX12_hangs 104 = .ok (.iinc 3 1, 3) := by decide +kernel
theorem dX12_hangs_107 : decode cX12_hangs 107 = .ok (.goto (-105), 3) := by decide +kernel
theorem dX12_hangs_110 : decode cX12_hangs 110 = .ok (.bipush (-4), 2) := by decide +kernel
theorem dX12_hangs_112 : decode cX12_hangs 112 = .ok (.ireturn, 1) := by decide +kernel
theorem dX12_movedOf_0 : decode cX12_movedOf 0 = .ok (.iconst 0, 1) := by decide +kernel
theorem dX12_movedOf_1 : decode cX12_movedOf 1 = .ok (.istore_n 2, 1) := by decide +kernel
theorem dX12_movedOf_2 : decode cX12_movedOf 2 = .ok (.iload_n 2, 1) := by decide +kernel
theorem dX12_movedOf_3 : decode cX12_movedOf 3 = .ok (.bipush 6, 2) := by decide +kernel
theorem dX12_movedOf_5 : decode cX12_movedOf 5 = .ok (.if_icmp .ge 24, 3) := by decide +kernel
theorem dX12_movedOf_8 : decode cX12_movedOf 8 = .ok (.aload_n 0, 1) := by decide +kernel
theorem dX12_movedOf_9 : decode cX12_movedOf 9 = .ok (.getfield 42, 3) := by decide +kernel
theorem dX12_movedOf_12 : decode cX12_movedOf 12 = .ok (.iload_n 2, 1) := by decide +kernel
theorem dX12_movedOf_13 : decode cX12_movedOf 13 = .ok (.aload_n 0, 1) := by decide +kernel
theorem dX12_movedOf_14 : decode cX12_movedOf 14 = .ok (.getfield 29, 3) := by decide +kernel
theorem dX12_movedOf_17 : decode cX12_movedOf 17 = .ok (.bipush 29, 2) := by decide +kernel
theorem dX12_movedOf_19 : decode cX12_movedOf 19 = .ok (.iload_n 2, 1) := by decide +kernel
theorem dX12_movedOf_20 : decode cX12_movedOf 20 = .ok (.iadd, 1) := by decide +kernel
theorem dX12_movedOf_21 : decode cX12_movedOf 21 = .ok (.iaload, 1) := by decide +kernel
theorem dX12_movedOf_22 : decode cX12_movedOf 22 = .ok (.iastore, 1) := by decide +kernel
theorem dX12_movedOf_23 : decode cX12_movedOf 23 = .ok (.iinc 2 1, 3) := by decide +kernel
theorem dX12_movedOf_26 : decode cX12_movedOf 26 = .ok (.goto (-24), 3) := by decide +kernel
theorem dX12_movedOf_29 : decode cX12_movedOf 29 = .ok (.aload_n 0, 1) := by decide +kernel
theorem dX12_movedOf_30 : decode cX12_movedOf 30 = .ok (.bipush (-4), 2) := by decide +kernel
theorem dX12_movedOf_32 : decode cX12_movedOf 32 = .ok (.putfield 214, 3) := by decide +kernel
theorem dX12_movedOf_35 : decode cX12_movedOf 35 = .ok (.aload_n 0, 1) := by decide +kernel
theorem dX12_movedOf_36 : decode cX12_movedOf 36 = .ok (.bipush (-4), 2) := by decide +kernel
theorem dX12_movedOf_38 : decode cX12_movedOf 38 = .ok (.putfield 217, 3) := by decide +kernel
theorem dX12_movedOf_41 : decode cX12_movedOf 41 = .ok (.aload_n 0, 1) := by decide +kernel
theorem dX12_movedOf_42 : decode cX12_movedOf 42 = .ok (.iload_n 1, 1) := by decide +kernel
theorem dX12_movedOf_43 : decode cX12_movedOf 43 = .ok (.invokevirtual 211, 3) := by decide +kernel
theorem dX12_movedOf_46 : decode cX12_movedOf 46 = .ok (.ifCond .eq 5, 3) := by decide +kernel
theorem dX12_movedOf_49 : decode cX12_movedOf 49 = .ok (.iconst 0, 1) := by decide +kernel
theorem dX12_movedOf_50 : decode cX12_movedOf 50 = .ok (.ireturn, 1) := by decide +kernel
theorem dX12_movedOf_51 : decode cX12_movedOf 51 = .ok (.aload_n 0, 1) := by decide +kernel
theorem dX12_movedOf_52 : decode cX12_movedOf 52 = .ok (.aload_n 0, 1) := by decide +kernel
theorem dX12_movedOf_53 : decode cX12_movedOf 53 = .ok (.iconst 0, 1) := by decide +kernel
theorem dX12_movedOf_54 : decode cX12_movedOf 54 = .ok (.iload_n 1, 1) := by decide +kernel
theorem dX12_movedOf_55 : decode cX12_movedOf 55 = .ok (.invokevirtual 220, 3) := by decide +kernel
theorem dX12_movedOf_58 : decode cX12_movedOf 58 = .ok (.putfield 214, 3) := by decide +kernel
theorem dX12_movedOf_61 : decode cX12_movedOf 61 = .ok (.aload_n 0, 1) := by decide +kernel
theorem dX12_movedOf_62 : decode cX12_movedOf 62 = .ok (.getfield 214, 3) := by decide +kernel
theorem dX12_movedOf_65 : decode cX12_movedOf 65 = .ok (.ifCond .lt 5, 3) := by decide +kernel
theorem dX12_movedOf_68 : decode cX12_movedOf 68 = .ok (.iconst 1, 1) := by decide +kernel
theorem dX12_movedOf_69 : decode cX12_movedOf 69 = .ok (.ireturn, 1) := by decide +kernel
theorem dX12_movedOf_70 : decode cX12_movedOf 70 = .ok (.iconst 0, 1) := by decide +kernel
theorem dX12_movedOf_71 : decode cX12_movedOf 71 = .ok (.istore_n 2, 1) := by decide +kernel
theorem dX12_movedOf_72 : decode cX12_movedOf 72 = .ok (.iload_n 2, 1) := by decide +kernel
theorem dX12_movedOf_73 : decode cX12_movedOf 73 = .ok (.aload_n 0, 1) := by decide +kernel
theorem dX12_movedOf_74 : decode cX12_movedOf 74 = .ok (.getfield 13, 3) := by decide +kernel
theorem dX12_movedOf_77 : decode cX12_movedOf 77 = .ok (.iconst 2, 1) := by decide +kernel
theorem dX12_movedOf_78 : decode cX12_movedOf 78 = .ok (.iaload, 1) := by decide +kernel
theorem dX12_movedOf_79 : decode cX12_movedOf 79 = .ok (.if_icmp .ge 93, 3) := by decide +kernel
theorem dX12_movedOf_82 : decode cX12_movedOf 82 = .ok (.aload_n 0, 1) := by decide +kernel
theorem dX12_movedOf_83 : decode cX12_movedOf 83 = .ok (.getfield 42, 3) := by decide +kernel
theorem dX12_movedOf_86 : decode cX12_movedOf 86 = .ok (.iload_n 2, 1) := by decide +kernel
theorem dX12_movedOf_87 : decode cX12_movedOf 87 = .ok (.iaload, 1) := by decide +kernel
theorem dX12_movedOf_88 : decode cX12_movedOf 88 = .ok (.istore_n 3, 1) := by decide +kernel
theorem dX12_movedOf_89 : decode cX12_movedOf 89 = .ok (.iconst 0, 1) := by decide +kernel
theorem dX12_movedOf_90 : decode cX12_movedOf 90 = .ok (.istore 4, 2) := by decide +kernel
theorem dX12_movedOf_92 : decode cX12_movedOf 92 = .ok (.iload 4, 2) := by decide +kernel
theorem dX12_movedOf_94 : decode cX12_movedOf 94 = .ok (.aload_n 0, 1) := by decide +kernel
theorem dX12_movedOf_95 : decode cX12_movedOf 95 = .ok (.getfield 13, 3) := by decide +kernel
theorem dX12_movedOf_98 : decode cX12_movedOf 98 = .ok (.iconst 0, 1) := by decide +kernel
theorem dX12_movedOf_99 : decode cX12_movedOf 99 = .ok (.iaload, 1) := by decide +kernel
theorem dX12_movedOf_100 : decode cX12_movedOf 100 = .ok (.if_icmp .ge 66, 3) := by decide +kernel
theorem dX12_movedOf_103 : decode cX12_movedOf 103 = .ok (.aload_n 0, 1) := by decide +kernel
theorem dX12_movedOf_104 : decode cX12_movedOf 104 = .ok (.iload_n 2, 1) := by decide +kernel
theorem dX12_movedOf_105 : decode cX12_movedOf 105 = .ok (.iload 4, 2) := by decide +kernel
theorem dX12_movedOf_107 : decode cX12_movedOf 107 = .ok (.invokevirtual 208, 3) := by decide +kernel
theorem dX12_movedOf_110 : decode cX12_movedOf 110 = .ok (.ifCond .eq 50, 3) := by decide +kernel
theorem dX12_movedOf_113 : decode cX12_movedOf 113 = .ok (.aload_n 0, 1) := by decide +kernel
theorem dX12_movedOf_114 : decode cX12_movedOf 114 = .ok (.getfield 42, 3) := by decide +kernel
theorem dX12_movedOf_117 : decode cX12_movedOf 117 = .ok (.iload_n 2, 1) := by decide +kernel
theorem dX12_movedOf_118 : decode cX12_movedOf 118 = .ok (.iload 4, 2) := by decide +kernel
theorem dX12_movedOf_120 : decode cX12_movedOf 120 = .ok (.iastore, 1) := by decide +kernel
theorem dX12_movedOf_121 : decode cX12_movedOf 121 = .ok (.aload_n 0, 1) := by decide +kernel
theorem dX12_movedOf_122 : decode cX12_movedOf 122 = .ok (.aload_n 0, 1) := by decide +kernel
theorem dX12_movedOf_123 : decode cX12_movedOf 123 = .ok (.iload_n 2, 1) := by decide +kernel
theorem dX12_movedOf_124 : decode cX12_movedOf 124 = .ok (.iconst 1, 1) := by decide +kernel
theorem dX12_movedOf_125 : decode cX12_movedOf 125 = .ok (.iadd, 1) := by decide +kernel
theorem dX12_movedOf_126 : decode cX12_movedOf 126 = .ok (.iload_n 1, 1) := by decide +kernel
theorem dX12_movedOf_127 : decode cX12_movedOf 127 = .ok (.invokevirtual 220, 3) := by decide +kernel
theorem dX12_movedOf_130 : decode cX12_movedOf 130 = .ok (.putfield 217, 3) := by decide +kernel
theorem dX12_movedOf_133 : decode cX12_movedOf 133 = .ok (.aload_n 0, 1) := by decide +kernel
theorem dX12_movedOf_134 : decode cX12_movedOf 134 = .ok (.getfield 42, 3) := by decide +kernel
theorem dX12_movedOf_137 : decode cX12_movedOf 137 = .ok (.iload_n 2, 1) := by decide +kernel
theorem dX12_movedOf_138 : decode cX12_movedOf 138 = .ok (.iload_n 3, 1) := by decide +kernel
theorem dX12_movedOf_139 : decode cX12_movedOf 139 = .ok (.iastore, 1) := by decide +kernel
theorem dX12_movedOf_140 : decode cX12_movedOf 140 = .ok (.aload_n 0, 1) := by decide +kernel
theorem dX12_movedOf_141 : decode cX12_movedOf 141 = .ok (.getfield 217, 3) := by decide +kernel
theorem dX12_movedOf_144 : decode cX12_movedOf 144 = .ok (.ifCond .lt 16, 3) := by decide +kernel
theorem dX12_movedOf_147 : decode cX12_movedOf 147 = .ok (.aload_n 0, 1) := by decide +kernel
theorem dX12_movedOf_148 : decode cX12_movedOf 148 = .ok (.bipush 24, 2) := by decide +kernel
theorem dX12_movedOf_150 : decode cX12_movedOf 150 = .ok (.iload_n 2, 1) := by decide +kernel
theorem dX12_movedOf_151 : decode cX12_movedOf 151 = .ok (.imul, 1) := by decide +kernel
theorem dX12_movedOf_152 : decode cX12_movedOf 152 = .ok (.iload 4, 2) := by decide +kernel
theorem dX12_movedOf_154 : decode cX12_movedOf 154 = .ok (.iadd, 1) := by decide +kernel
theorem dX12_movedOf_155 : decode cX12_movedOf 155 = .ok (.putfield 214, 3) := by decide +kernel
theorem dX12_movedOf_158 : decode cX12_movedOf 158 = .ok (.iconst 2, 1) := by decide +kernel
theorem dX12_movedOf_159 : decode cX12_movedOf 159 = .ok (.ireturn, 1) := by decide +kernel
theorem dX12_movedOf_160 : decode cX12_movedOf 160 = .ok (.iinc 4 1, 3) := by decide +kernel
theorem dX12_movedOf_163 : decode cX12_movedOf 163 = .ok (.goto (-71), 3) := by decide +kernel
theorem dX12_movedOf_166 : decode cX12_movedOf 166 = .ok (.iinc 2 1, 3) := by decide +kernel
theorem dX12_movedOf_169 : decode cX12_movedOf 169 = .ok (.goto (-97), 3) := by decide +kernel
theorem dX12_movedOf_172 : decode cX12_movedOf 172 = .ok (.bipush (-4), 2) := by decide +kernel
theorem dX12_movedOf_174 : decode cX12_movedOf 174 = .ok (.ireturn, 1) := by decide +kernel
theorem dX12_moved_0 : decode cX12_moved 0 = .ok (.iload_n 1, 1) := by decide +kernel
theorem dX12_moved_1 : decode cX12_moved 1 = .ok (.i2l, 1) := by decide +kernel
theorem dX12_moved_2 : decode cX12_moved 2 = .ok (.lconst 0, 1) := by decide +kernel
theorem dX12_moved_3 : decode cX12_moved 3 = .ok (.ldc2_w 200, 3) := by decide +kernel
theorem dX12_moved_6 : decode cX12_moved 6 = .ok (.invokestatic 62, 3) := by decide +kernel
theorem dX12_moved_9 : decode cX12_moved 9 = .ok (.ifCond .eq 15, 3) := by decide +kernel
theorem dX12_moved_12 : decode cX12_moved 12 = .ok (.iload_n 2, 1) := by decide +kernel
theorem dX12_moved_13 : decode cX12_moved 13 = .ok (.i2l, 1) := by decide +kernel
theorem dX12_moved_14 : decode cX12_moved 14 = .ok (.lconst 0, 1) := by decide +kernel
theorem dX12_moved_15 : decode cX12_moved 15 = .ok (.ldc2_w 77, 3) := by decide +kernel
theorem dX12_moved_18 : decode cX12_moved 18 = .ok (.invokestatic 62, 3) := by decide +kernel
theorem dX12_moved_21 : decode cX12_moved 21 = .ok (.ifCond .ne 5, 3) := by decide +kernel
theorem dX12_moved_24 : decode cX12_moved 24 = .ok (.iconst (-1), 1) := by decide +kernel
theorem dX12_moved_25 : decode cX12_moved 25 = .ok (.ireturn, 1) := by decide +kernel
theorem dX12_moved_26 : decode cX12_moved 26 = .ok (.aload_n 0, 1) := by decide +kernel
theorem dX12_moved_27 : decode cX12_moved 27 = .ok (.invokevirtual 193, 3) := by decide +kernel
theorem dX12_moved_30 : decode cX12_moved 30 = .ok (.aload_n 0, 1) := by decide +kernel
theorem dX12_moved_31 : decode cX12_moved 31 = .ok (.iload_n 1, 1) := by decide +kernel
theorem dX12_moved_32 : decode cX12_moved 32 = .ok (.invokevirtual 223, 3) := by decide +kernel
theorem dX12_moved_35 : decode cX12_moved 35 = .ok (.istore_n 3, 1) := by decide +kernel
theorem dX12_moved_36 : decode cX12_moved 36 = .ok (.iload_n 3, 1) := by decide +kernel
theorem dX12_moved_37 : decode cX12_moved 37 = .ok (.ifCond .lt 7, 3) := by decide +kernel
theorem dX12_moved_40 : decode cX12_moved 40 = .ok (.iload_n 2, 1) := by decide +kernel
theorem dX12_moved_41 : decode cX12_moved 41 = .ok (.ifCond .ne 7, 3) := by decide +kernel
theorem dX12_moved_44 : decode cX12_moved 44 = .ok (.iload_n 3, 1) := by decide +kernel
theorem dX12_moved_45 : decode cX12_moved 45 = .ok (.goto 19, 3) := by decide +kernel
theorem dX12_moved_48 : decode cX12_moved 48 = .ok (.iload_n 2, 1) := by decide +kernel
theorem dX12_moved_49 : decode cX12_moved 49 = .ok (.iconst 1, 1) := by decide +kernel
theorem dX12_moved_50 : decode cX12_moved 50 = .ok (.if_icmp .ne 10, 3) := by decide +kernel
theorem dX12_moved_53 : decode cX12_moved 53 = .ok (.aload_n 0, 1) := by decide +kernel
theorem dX12_moved_54 : decode cX12_moved 54 = .ok (.getfield 214, 3) := by decide +kernel
theorem dX12_moved_57 : decode cX12_moved 57 = .ok (.goto 7, 3) := by decide +kernel
theorem dX12_moved_60 : decode cX12_moved 60 = .ok (.aload_n 0, 1) := by decide +kernel
theorem dX12_moved_61 : decode cX12_moved 61 = .ok (.getfield 217, 3) := by decide +kernel
theorem dX12_moved_64 : decode cX12_moved 64 = .ok (.ireturn, 1) := by decide +kernel
theorem dX12_lands_0 : decode cX12_lands 0 = .ok (.aload_n 0, 1) := by decide +kernel
theorem dX12_lands_1 : decode cX12_lands 1 = .ok (.bipush 11, 2) := by decide +kernel
theorem dX12_lands_3 : decode cX12_lands 3 = .ok (.iload_n 1, 1) := by decide +kernel
theorem dX12_lands_4 : decode cX12_lands 4 = .ok (.iload_n 2, 1) := by decide +kernel
theorem dX12_lands_5 : decode cX12_lands 5 = .ok (.iload_n 3, 1) := by decide +kernel
theorem dX12_lands_6 : decode cX12_lands 6 = .ok (.invokevirtual 168, 3) := by decide +kernel
theorem dX12_lands_9 : decode cX12_lands 9 = .ok (.istore 5, 2) := by decide +kernel
theorem dX12_lands_11 : decode cX12_lands 11 = .ok (.bipush (-4), 2) := by decide +kernel
theorem dX12_lands_13 : decode cX12_lands 13 = .ok (.istore 6, 2) := by decide +kernel
theorem dX12_lands_15 : decode cX12_lands 15 = .ok (.aload_n 0, 1) := by decide +kernel
theorem dX12_lands_16 : decode cX12_lands 16 = .ok (.iconst 0, 1) := by decide +kernel
theorem dX12_lands_17 : decode cX12_lands 17 = .ok (.putfield 226, 3) := by decide +kernel
theorem dX12_lands_20 : decode cX12_lands 20 = .ok (.iload 6, 2) := by decide +kernel
theorem dX12_lands_22 : decode cX12_lands 22 = .ok (.ifCond .ge 37, 3) := by decide +kernel
theorem dX12_lands_25 : decode cX12_lands 25 = .ok (.aload_n 0, 1) := by decide +kernel
theorem dX12_lands_26 : decode cX12_lands 26 = .ok (.getfield 226, 3) := by decide +kernel
theorem dX12_lands_29 : decode cX12_lands 29 = .ok (.bipush 60, 2) := by decide +kernel
theorem dX12_lands_31 : decode cX12_lands 31 = .ok (.if_icmp .ge 28, 3) := by decide +kernel
theorem dX12_lands_34 : decode cX12_lands 34 = .ok (.aload_n 0, 1) := by decide +kernel
theorem dX12_lands_35 : decode cX12_lands 35 = .ok (.bipush 11, 2) := by decide +kernel
theorem dX12_lands_37 : decode cX12_lands 37 = .ok (.iload 5, 2) := by decide +kernel
theorem dX12_lands_39 : decode cX12_lands 39 = .ok (.iload 4, 2) := by decide +kernel
theorem dX12_lands_41 : decode cX12_lands 41 = .ok (.invokevirtual 154, 3) := by decide +kernel
theorem dX12_lands_44 : decode cX12_lands 44 = .ok (.istore 6, 2) := by decide +kernel
theorem dX12_lands_46 : decode cX12_lands 46 = .ok (.aload_n 0, 1) := by decide +kernel
theorem dX12_lands_47 : decode cX12_lands 47 = .ok (.dup, 1) := by decide +kernel
theorem dX12_lands_48 : decode cX12_lands 48 = .ok (.getfield 226, 3) := by decide +kernel
theorem dX12_lands_51 : decode cX12_lands 51 = .ok (.iconst 1, 1) := by decide +kernel
theorem dX12_lands_52 : decode cX12_lands 52 = .ok (.iadd, 1) := by decide +kernel
theorem dX12_lands_53 : decode cX12_lands 53 = .ok (.putfield 226, 3) := by decide +kernel
theorem dX12_lands_56 : decode cX12_lands 56 = .ok (.goto (-36), 3) := by decide +kernel
theorem dX12_lands_59 : decode cX12_lands 59 = .ok (.iload 6, 2) := by decide +kernel
theorem dX12_lands_61 : decode cX12_lands 61 = .ok (.ireturn, 1) := by decide +kernel
theorem dX12_sent_0 : decode cX12_sent 0 = .ok (.aload_n 0, 1) := by decide +kernel
theorem dX12_sent_1 : decode cX12_sent 1 = .ok (.iload_n 1, 1) := by decide +kernel
theorem dX12_sent_2 : decode cX12_sent 2 = .ok (.invokevirtual 133, 3) := by decide +kernel
theorem dX12_sent_5 : decode cX12_sent 5 = .ok (.ifCond .eq 26, 3) := by decide +kernel
theorem dX12_sent_8 : decode cX12_sent 8 = .ok (.aload_n 0, 1) := by decide +kernel
theorem dX12_sent_9 : decode cX12_sent 9 = .ok (.iload_n 2, 1) := by decide +kernel
theorem dX12_sent_10 : decode cX12_sent 10 = .ok (.invokevirtual 133, 3) := by decide +kernel
theorem dX12_sent_13 : decode cX12_sent 13 = .ok (.ifCond .eq 18, 3) := by decide +kernel
theorem dX12_sent_16 : decode cX12_sent 16 = .ok (.iload_n 1, 1) := by decide +kernel
theorem dX12_sent_17 : decode cX12_sent 17 = .ok (.iload_n 2, 1) := by decide +kernel
theorem dX12_sent_18 : decode cX12_sent 18 = .ok (.if_icmp .eq 13, 3) := by decide +kernel
theorem dX12_sent_21 : decode cX12_sent 21 = .ok (.iload_n 3, 1) := by decide +kernel
theorem dX12_sent_22 : decode cX12_sent 22 = .ok (.i2l, 1) := by decide +kernel
theorem dX12_sent_23 : decode cX12_sent 23 = .ok (.lconst 0, 1) := by decide +kernel
theorem dX12_sent_24 : decode cX12_sent 24 = .ok (.lconst 1, 1) := by decide +kernel
theorem dX12_sent_25 : decode cX12_sent 25 = .ok (.invokestatic 62, 3) := by decide +kernel
theorem dX12_sent_28 : decode cX12_sent 28 = .ok (.ifCond .ne 5, 3) := by decide +kernel
theorem dX12_sent_31 : decode cX12_sent 31 = .ok (.iconst (-1), 1) := by decide +kernel
theorem dX12_sent_32 : decode cX12_sent 32 = .ok (.ireturn, 1) := by decide +kernel
theorem dX12_sent_33 : decode cX12_sent 33 = .ok (.aload_n 0, 1) := by decide +kernel
theorem dX12_sent_34 : decode cX12_sent 34 = .ok (.iload_n 1, 1) := by decide +kernel
theorem dX12_sent_35 : decode cX12_sent 35 = .ok (.invokevirtual 165, 3) := by decide +kernel
theorem dX12_sent_38 : decode cX12_sent 38 = .ok (.ifCond .ne 11, 3) := by decide +kernel
theorem dX12_sent_41 : decode cX12_sent 41 = .ok (.aload_n 0, 1) := by decide +kernel
theorem dX12_sent_42 : decode cX12_sent 42 = .ok (.iload_n 2, 1) := by decide +kernel
theorem dX12_sent_43 : decode cX12_sent 43 = .ok (.invokevirtual 165, 3) := by decide +kernel
theorem dX12_sent_46 : decode cX12_sent 46 = .ok (.ifCond .eq 6, 3) := by decide +kernel
theorem dX12_sent_49 : decode cX12_sent 49 = .ok (.bipush (-2), 2) := by decide +kernel
theorem dX12_sent_51 : decode cX12_sent 51 = .ok (.ireturn, 1) := by decide +kernel
theorem dX12_sent_52 : decode cX12_sent 52 = .ok (.bipush (-4), 2) := by decide +kernel
theorem dX12_sent_54 : decode cX12_sent 54 = .ok (.istore 4, 2) := by decide +kernel
theorem dX12_sent_56 : decode cX12_sent 56 = .ok (.bipush 99, 2) := by decide +kernel
theorem dX12_sent_58 : decode cX12_sent 58 = .ok (.istore 5, 2) := by decide +kernel
theorem dX12_sent_60 : decode cX12_sent 60 = .ok (.iconst 0, 1) := by decide +kernel
theorem dX12_sent_61 : decode cX12_sent 61 = .ok (.istore 6, 2) := by decide +kernel
theorem dX12_sent_63 : decode cX12_sent 63 = .ok (.iload 6, 2) := by decide +kernel
theorem dX12_sent_65 : decode cX12_sent 65 = .ok (.bipush 10, 2) := by decide +kernel
theorem dX12_sent_67 : decode cX12_sent 67 = .ok (.if_icmp .ge 57, 3) := by decide +kernel
theorem dX12_sent_70 : decode cX12_sent 70 = .ok (.aload_n 0, 1) := by decide +kernel
theorem dX12_sent_71 : decode cX12_sent 71 = .ok (.invokevirtual 229, 3) := by decide +kernel
theorem dX12_sent_74 : decode cX12_sent 74 = .ok (.aload_n 0, 1) := by decide +kernel
theorem dX12_sent_75 : decode cX12_sent 75 = .ok (.aload_n 0, 1) := by decide +kernel
theorem dX12_sent_76 : decode cX12_sent 76 = .ok (.iload_n 1, 1) := by decide +kernel
theorem dX12_sent_77 : decode cX12_sent 77 = .ok (.invokevirtual 127, 3) := by decide +kernel
theorem dX12_sent_80 : decode cX12_sent 80 = .ok (.aload_n 0, 1) := by decide +kernel
theorem dX12_sent_81 : decode cX12_sent 81 = .ok (.getfield 29, 3) := by decide +kernel
theorem dX12_sent_84 : decode cX12_sent 84 = .ok (.bipush 29, 2) := by decide +kernel
theorem dX12_sent_86 : decode cX12_sent 86 = .ok (.iload_n 1, 1) := by decide +kernel
theorem dX12_sent_87 : decode cX12_sent 87 = .ok (.iadd, 1) := by decide +kernel
theorem dX12_sent_88 : decode cX12_sent 88 = .ok (.iaload, 1) := by decide +kernel
theorem dX12_sent_89 : decode cX12_sent 89 = .ok (.iload 6, 2) := by decide +kernel
theorem dX12_sent_91 : decode cX12_sent 91 = .ok (.iload_n 1, 1) := by decide +kernel
theorem dX12_sent_92 : decode cX12_sent 92 = .ok (.invokevirtual 232, 3) := by decide +kernel
theorem dX12_sent_95 : decode cX12_sent 95 = .ok (.iload_n 2, 1) := by decide +kernel
theorem dX12_sent_96 : decode cX12_sent 96 = .ok (.if_icmp .ne 22, 3) := by decide +kernel
theorem dX12_sent_99 : decode cX12_sent 99 = .ok (.aload_n 0, 1) := by decide +kernel
theorem dX12_sent_100 : decode cX12_sent 100 = .ok (.getfield 226, 3) := by decide +kernel
theorem dX12_sent_103 : decode cX12_sent 103 = .ok (.iload 5, 2) := by decide +kernel
theorem dX12_sent_105 : decode cX12_sent 105 = .ok (.if_icmp .ge 13, 3) := by decide +kernel
theorem dX12_sent_108 : decode cX12_sent 108 = .ok (.iload 6, 2) := by decide +kernel
theorem dX12_sent_110 : decode cX12_sent 110 = .ok (.istore 4, 2) := by decide +kernel
theorem dX12_sent_112 : decode cX12_sent 112 = .ok (.aload_n 0, 1) := by decide +kernel
theorem dX12_sent_113 : decode cX12_sent 113 = .ok (.getfield 226, 3) := by decide +kernel
theorem dX12_sent_116 : decode cX12_sent 116 = .ok (.istore 5, 2) := by decide +kernel
theorem dX12_sent_118 : decode cX12_sent 118 = .ok (.iinc 6 1, 3) := by decide +kernel
theorem dX12_sent_121 : decode cX12_sent 121 = .ok (.goto (-58), 3) := by decide +kernel
theorem dX12_sent_124 : decode cX12_sent 124 = .ok (.iload 4, 2) := by decide +kernel
theorem dX12_sent_126 : decode cX12_sent 126 = .ok (.ifCond .lt 7, 3) := by decide +kernel
theorem dX12_sent_129 : decode cX12_sent 129 = .ok (.iload_n 3, 1) := by decide +kernel
theorem dX12_sent_130 : decode cX12_sent 130 = .ok (.ifCond .ne 8, 3) := by decide +kernel
theorem dX12_sent_133 : decode cX12_sent 133 = .ok (.iload 4, 2) := by decide +kernel
theorem dX12_sent_135 : decode cX12_sent 135 = .ok (.goto 5, 3) := by decide +kernel
theorem dX12_sent_138 : decode cX12_sent 138 = .ok (.iload 5, 2) := by decide +kernel
theorem dX12_sent_140 : decode cX12_sent 140 = .ok (.ireturn, 1) := by decide +kernel
theorem dX12_alone_0 : decode cX12_alone 0 = .ok (.aload_n 0, 1) := by decide +kernel
theorem dX12_alone_1 : decode cX12_alone 1 = .ok (.iconst 0, 1) := by decide +kernel
theorem dX12_alone_2 : decode cX12_alone 2 = .ok (.bipush 11, 2) := by decide +kernel
theorem dX12_alone_4 : decode cX12_alone 4 = .ok (.invokevirtual 145, 3) := by decide +kernel
theorem dX12_alone_7 : decode cX12_alone 7 = .ok (.aload_n 0, 1) := by decide +kernel
theorem dX12_alone_8 : decode cX12_alone 8 = .ok (.getfield 29, 3) := by decide +kernel
theorem dX12_alone_11 : decode cX12_alone 11 = .ok (.sipush 462, 3) := by decide +kernel
theorem dX12_alone_14 : decode cX12_alone 14 = .ok (.iconst 0, 1) := by decide +kernel
theorem dX12_alone_15 : decode cX12_alone 15 = .ok (.iastore, 1) := by decide +kernel
theorem dX12_alone_16 : decode cX12_alone 16 = .ok (.return_, 1) := by decide +kernel
theorem dX12_fall_0 : decode cX12_fall 0 = .ok (.aload_n 0, 1) := by decide +kernel
theorem dX12_fall_1 : decode cX12_fall 1 = .ok (.iload_n 1, 1) := by decide +kernel
theorem dX12_fall_2 : decode cX12_fall 2 = .ok (.invokevirtual 133, 3) := by decide +kernel
theorem dX12_fall_5 : decode cX12_fall 5 = .ok (.ifCond .eq 13, 3) := by decide +kernel
theorem dX12_fall_8 : decode cX12_fall 8 = .ok (.iload_n 2, 1) := by decide +kernel
theorem dX12_fall_9 : decode cX12_fall 9 = .ok (.i2l, 1) := by decide +kernel
theorem dX12_fall_10 : decode cX12_fall 10 = .ok (.lconst 0, 1) := by decide +kernel
theorem dX12_fall_11 : decode cX12_fall 11 = .ok (.lconst 1, 1) := by decide +kernel
theorem dX12_fall_12 : decode cX12_fall 12 = .ok (.invokestatic 62, 3) := by decide +kernel
theorem dX12_fall_15 : decode cX12_fall 15 = .ok (.ifCond .ne 5, 3) := by decide +kernel
theorem dX12_fall_18 : decode cX12_fall 18 = .ok (.iconst (-1), 1) := by decide +kernel
theorem dX12_fall_19 : decode cX12_fall 19 = .ok (.ireturn, 1) := by decide +kernel
theorem dX12_fall_20 : decode cX12_fall 20 = .ok (.aload_n 0, 1) := by decide +kernel
theorem dX12_fall_21 : decode cX12_fall 21 = .ok (.iload_n 1, 1) := by decide +kernel
theorem dX12_fall_22 : decode cX12_fall 22 = .ok (.invokevirtual 165, 3) := by decide +kernel
theorem dX12_fall_25 : decode cX12_fall 25 = .ok (.ifCond .eq 6, 3) := by decide +kernel
theorem dX12_fall_28 : decode cX12_fall 28 = .ok (.bipush (-2), 2) := by decide +kernel
theorem dX12_fall_30 : decode cX12_fall 30 = .ok (.ireturn, 1) := by decide +kernel
theorem dX12_fall_31 : decode cX12_fall 31 = .ok (.aload_n 0, 1) := by decide +kernel
theorem dX12_fall_32 : decode cX12_fall 32 = .ok (.invokevirtual 229, 3) := by decide +kernel
theorem dX12_fall_35 : decode cX12_fall 35 = .ok (.aload_n 0, 1) := by decide +kernel
theorem dX12_fall_36 : decode cX12_fall 36 = .ok (.getfield 29, 3) := by decide +kernel
theorem dX12_fall_39 : decode cX12_fall 39 = .ok (.sipush 497, 3) := by decide +kernel
theorem dX12_fall_42 : decode cX12_fall 42 = .ok (.iload_n 1, 1) := by decide +kernel
theorem dX12_fall_43 : decode cX12_fall 43 = .ok (.iadd, 1) := by decide +kernel
theorem dX12_fall_44 : decode cX12_fall 44 = .ok (.iconst 1, 1) := by decide +kernel
theorem dX12_fall_45 : decode cX12_fall 45 = .ok (.iastore, 1) := by decide +kernel
theorem dX12_fall_46 : decode cX12_fall 46 = .ok (.aload_n 0, 1) := by decide +kernel
theorem dX12_fall_47 : decode cX12_fall 47 = .ok (.aload_n 0, 1) := by decide +kernel
theorem dX12_fall_48 : decode cX12_fall 48 = .ok (.iload_n 1, 1) := by decide +kernel
theorem dX12_fall_49 : decode cX12_fall 49 = .ok (.invokevirtual 127, 3) := by decide +kernel
theorem dX12_fall_52 : decode cX12_fall 52 = .ok (.aload_n 0, 1) := by decide +kernel
theorem dX12_fall_53 : decode cX12_fall 53 = .ok (.getfield 29, 3) := by decide +kernel
theorem dX12_fall_56 : decode cX12_fall 56 = .ok (.bipush 29, 2) := by decide +kernel
theorem dX12_fall_58 : decode cX12_fall 58 = .ok (.iload_n 1, 1) := by decide +kernel
theorem dX12_fall_59 : decode cX12_fall 59 = .ok (.iadd, 1) := by decide +kernel
theorem dX12_fall_60 : decode cX12_fall 60 = .ok (.iaload, 1) := by decide +kernel
theorem dX12_fall_61 : decode cX12_fall 61 = .ok (.bipush 9, 2) := by decide +kernel
theorem dX12_fall_63 : decode cX12_fall 63 = .ok (.bipush (-4), 2) := by decide +kernel
theorem dX12_fall_65 : decode cX12_fall 65 = .ok (.invokevirtual 232, 3) := by decide +kernel
theorem dX12_fall_68 : decode cX12_fall 68 = .ok (.istore_n 3, 1) := by decide +kernel
theorem dX12_fall_69 : decode cX12_fall 69 = .ok (.iload_n 3, 1) := by decide +kernel
theorem dX12_fall_70 : decode cX12_fall 70 = .ok (.ifCond .lt 7, 3) := by decide +kernel
theorem dX12_fall_73 : decode cX12_fall 73 = .ok (.iload_n 2, 1) := by decide +kernel
theorem dX12_fall_74 : decode cX12_fall 74 = .ok (.ifCond .ne 7, 3) := by decide +kernel
theorem dX12_fall_77 : decode cX12_fall 77 = .ok (.iload_n 3, 1) := by decide +kernel
theorem dX12_fall_78 : decode cX12_fall 78 = .ok (.goto 7, 3) := by decide +kernel
theorem dX12_fall_81 : decode cX12_fall 81 = .ok (.aload_n 0, 1) := by decide +kernel
theorem dX12_fall_82 : decode cX12_fall 82 = .ok (.getfield 226, 3) := by decide +kernel
theorem dX12_fall_85 : decode cX12_fall 85 = .ok (.ireturn, 1) := by decide +kernel
theorem dX12_clearOf_0 : decode cX12_clearOf 0 = .ok (.iconst 0, 1) := by decide +kernel
theorem dX12_clearOf_1 : decode cX12_clearOf 1 = .ok (.istore_n 3, 1) := by decide +kernel
theorem dX12_clearOf_2 : decode cX12_clearOf 2 = .ok (.iconst 0, 1) := by decide +kernel
theorem dX12_clearOf_3 : decode cX12_clearOf 3 = .ok (.istore 4, 2) := by decide +kernel
theorem dX12_clearOf_5 : decode cX12_clearOf 5 = .ok (.iload 4, 2) := by decide +kernel
theorem dX12_clearOf_7 : decode cX12_clearOf 7 = .ok (.bipush 21, 2) := by decide +kernel
theorem dX12_clearOf_9 : decode cX12_clearOf 9 = .ok (.if_icmp .ge 161, 3) := by decide +kernel
theorem dX12_clearOf_12 : decode cX12_clearOf 12 = .ok (.iconst 0, 1) := by decide +kernel
theorem dX12_clearOf_13 : decode cX12_clearOf 13 = .ok (.istore 5, 2) := by decide +kernel
theorem dX12_clearOf_15 : decode cX12_clearOf 15 = .ok (.iconst 0, 1) := by decide +kernel
theorem dX12_clearOf_16 : decode cX12_clearOf 16 = .ok (.istore 6, 2) := by decide +kernel
theorem dX12_clearOf_18 : decode cX12_clearOf 18 = .ok (.iload 6, 2) := by decide +kernel
theorem dX12_clearOf_20 : decode cX12_clearOf 20 = .ok (.aload_n 0, 1) := by decide +kernel
theorem dX12_clearOf_21 : decode cX12_clearOf 21 = .ok (.getfield 13, 3) := by decide +kernel
theorem dX12_clearOf_24 : decode cX12_clearOf 24 = .ok (.iconst 2, 1) := by decide +kernel
theorem dX12_clearOf_25 : decode cX12_clearOf 25 = .ok (.iaload, 1) := by decide +kernel
theorem dX12_clearOf_26 : decode cX12_clearOf 26 = .ok (.if_icmp .ge 121, 3) := by decide +kernel
theorem dX12_clearOf_29 : decode cX12_clearOf 29 = .ok (.aload_n 0, 1) := by decide +kernel
theorem dX12_clearOf_30 : decode cX12_clearOf 30 = .ok (.iload 6, 2) := by decide +kernel
theorem dX12_clearOf_32 : decode cX12_clearOf 32 = .ok (.invokevirtual 165, 3) := by decide +kernel
theorem dX12_clearOf_35 : decode cX12_clearOf 35 = .ok (.ifCond .ne 24, 3) := by decide +kernel
theorem dX12_clearOf_38 : decode cX12_clearOf 38 = .ok (.aload_n 0, 1) := by decide +kernel
theorem dX12_clearOf_39 : decode cX12_clearOf 39 = .ok (.iload 6, 2) := by decide +kernel
theorem dX12_clearOf_41 : decode cX12_clearOf 41 = .ok (.invokevirtual 127, 3) := by decide +kernel
theorem dX12_clearOf_44 : decode cX12_clearOf 44 = .ok (.i2l, 1) := by decide +kernel
theorem dX12_clearOf_45 : decode cX12_clearOf 45 = .ok (.iload_n 1, 1) := by decide +kernel
theorem dX12_clearOf_46 : decode cX12_clearOf 46 = .ok (.i2l, 1) := by decide +kernel
theorem dX12_clearOf_47 : decode cX12_clearOf 47 = .ok (.iload_n 2, 1) := by decide +kernel
theorem dX12_clearOf_48 : decode cX12_clearOf 48 = .ok (.i2l, 1) := by decide +kernel
theorem dX12_clearOf_49 : decode cX12_clearOf 49 = .ok (.invokestatic 62, 3) := by decide +kernel
theorem dX12_clearOf_52 : decode cX12_clearOf 52 = .ok (.ifCond .eq 7, 3) := by decide +kernel
theorem dX12_clearOf_55 : decode cX12_clearOf 55 = .ok (.iconst 1, 1) := by decide +kernel
theorem dX12_clearOf_56 : decode cX12_clearOf 56 = .ok (.goto 4, 3) := by decide +kernel
theorem dX12_clearOf_59 : decode cX12_clearOf 59 = .ok (.iconst 0, 1) := by decide +kernel
theorem dX12_clearOf_60 : decode cX12_clearOf 60 = .ok (.istore 7, 2) := by decide +kernel
theorem dX12_clearOf_62 : decode cX12_clearOf 62 = .ok (.aload_n 0, 1) := by decide +kernel
theorem dX12_clearOf_63 : decode cX12_clearOf 63 = .ok (.getfield 20, 3) := by decide +kernel
theorem dX12_clearOf_66 : decode cX12_clearOf 66 = .ok (.iconst 4, 1) := by decide +kernel
theorem dX12_clearOf_67 : decode cX12_clearOf 67 = .ok (.iload 6, 2) := by decide +kernel
theorem dX12_clearOf_69 : decode cX12_clearOf 69 = .ok (.imul, 1) := by decide +kernel
theorem dX12_clearOf_70 : decode cX12_clearOf 70 = .ok (.iconst 3, 1) := by decide +kernel
theorem dX12_clearOf_71 : decode cX12_clearOf 71 = .ok (.iadd, 1) := by decide +kernel
theorem dX12_clearOf_72 : decode cX12_clearOf 72 = .ok (.iaload, 1) := by decide +kernel
theorem dX12_clearOf_73 : decode cX12_clearOf 73 = .ok (.iload 4, 2) := by decide +kernel
theorem dX12_clearOf_75 : decode cX12_clearOf 75 = .ok (.if_icmp .le 20, 3) := by decide +kernel
theorem dX12_clearOf_78 : decode cX12_clearOf 78 = .ok (.aload_n 0, 1) := by decide +kernel
theorem dX12_clearOf_79 : decode cX12_clearOf 79 = .ok (.getfield 20, 3) := by decide +kernel
theorem dX12_clearOf_82 : decode cX12_clearOf 82 = .ok (.iconst 4, 1) := by decide +kernel
theorem dX12_clearOf_83 : decode cX12_clearOf 83 = .ok (.iload 6, 2) := by decide +kernel
theorem dX12_clearOf_85 : decode cX12_clearOf 85 = .ok (.imul, 1) := by decide +kernel
theorem dX12_clearOf_86 : decode cX12_clearOf 86 = .ok (.iconst 3, 1) := by decide +kernel
theorem dX12_clearOf_87 : decode cX12_clearOf 87 = .ok (.iadd, 1) := by decide +kernel
theorem dX12_clearOf_88 : decode cX12_clearOf 88 = .ok (.iaload, 1) := by decide +kernel
theorem dX12_clearOf_89 : decode cX12_clearOf 89 = .ok (.iload 4, 2) := by decide +kernel
theorem dX12_clearOf_91 : decode cX12_clearOf 91 = .ok (.isub, 1) := by decide +kernel
theorem dX12_clearOf_92 : decode cX12_clearOf 92 = .ok (.goto 4, 3) := by decide +kernel
theorem dX12_clearOf_95 : decode cX12_clearOf 95 = .ok (.iconst 0, 1) := by decide +kernel
theorem dX12_clearOf_96 : decode cX12_clearOf 96 = .ok (.istore 8, 2) := by decide +kernel
theorem dX12_clearOf_98 : decode cX12_clearOf 98 = .ok (.iload 5, 2) := by decide +kernel
theorem dX12_clearOf_100 : decode cX12_clearOf 100 = .ok (.iload 7, 2) := by decide +kernel
theorem dX12_clearOf_102 : decode cX12_clearOf 102 = .ok (.ifCond .eq 20, 3) := by decide +kernel
theorem dX12_clearOf_105 : decode cX12_clearOf 105 = .ok (.aload_n 0, 1) := by decide +kernel
theorem dX12_clearOf_106 : decode cX12_clearOf 106 = .ok (.getfield 20, 3) := by decide +kernel
theorem dX12_clearOf_109 : decode cX12_clearOf 109 = .ok (.iconst 4, 1) := by decide +kernel
theorem dX12_clearOf_110 : decode cX12_clearOf 110 = .ok (.iload 6, 2) := by decide +kernel
theorem dX12_clearOf_112 : decode cX12_clearOf 112 = .ok (.imul, 1) := by decide +kernel
theorem dX12_clearOf_113 : decode cX12_clearOf 113 = .ok (.iconst 2, 1) := by decide +kernel
theorem dX12_clearOf_114 : decode cX12_clearOf 114 = .ok (.iadd, 1) := by decide +kernel
theorem dX12_clearOf_115 : decode cX12_clearOf 115 = .ok (.iaload, 1) := by decide +kernel
theorem dX12_clearOf_116 : decode cX12_clearOf 116 = .ok (.iload 8, 2) := by decide +kernel
theorem dX12_clearOf_118 : decode cX12_clearOf 118 = .ok (.isub, 1) := by decide +kernel
theorem dX12_clearOf_119 : decode cX12_clearOf 119 = .ok (.goto 4, 3) := by decide +kernel
theorem dX12_clearOf_122 : decode cX12_clearOf 122 = .ok (.iconst 0, 1) := by decide +kernel
theorem dX12_clearOf_123 : decode cX12_clearOf 123 = .ok (.iadd, 1) := by decide +kernel
theorem dX12_clearOf_124 : decode cX12_clearOf 124 = .ok (.istore 5, 2) := by decide +kernel
theorem dX12_clearOf_126 : decode cX12_clearOf 126 = .ok (.iload_n 3, 1) := by decide +kernel
theorem dX12_clearOf_127 : decode cX12_clearOf 127 = .ok (.ifCond .ne 8, 3) := by decide +kernel
theorem dX12_clearOf_130 : decode cX12_clearOf 130 = .ok (.iload 7, 2) := by decide +kernel
theorem dX12_clearOf_132 : decode cX12_clearOf 132 = .ok (.ifCond .eq 7, 3) := by decide +kernel
theorem dX12_clearOf_135 : decode cX12_clearOf 135 = .ok (.iconst 1, 1) := by decide +kernel
theorem dX12_clearOf_136 : decode cX12_clearOf 136 = .ok (.goto 4, 3) := by decide +kernel
theorem dX12_clearOf_139 : decode cX12_clearOf 139 = .ok (.iconst 0, 1) := by decide +kernel
theorem dX12_clearOf_140 : decode cX12_clearOf 140 = .ok (.istore_n 3, 1) := by decide +kernel
theorem dX12_clearOf_141 : decode cX12_clearOf 141 = .ok (.iinc 6 1, 3) := by decide +kernel
theorem dX12_clearOf_144 : decode cX12_clearOf 144 = .ok (.goto (-126), 3) := by decide +kernel
theorem dX12_clearOf_147 : decode cX12_clearOf 147 = .ok (.iload 5, 2) := by decide +kernel
theorem dX12_clearOf_149 : decode cX12_clearOf 149 = .ok (.ifCond .lt 15, 3) := by decide +kernel
theorem dX12_clearOf_152 : decode cX12_clearOf 152 = .ok (.iload_n 3, 1) := by decide +kernel
theorem dX12_clearOf_153 : decode cX12_clearOf 153 = .ok (.ifCond .eq 8, 3) := by decide +kernel
theorem dX12_clearOf_156 : decode cX12_clearOf 156 = .ok (.iload 4, 2) := by decide +kernel
theorem dX12_clearOf_158 : decode cX12_clearOf 158 = .ok (.goto 5, 3) := by decide +kernel
theorem dX12_clearOf_161 : decode cX12_clearOf 161 = .ok (.bipush (-4), 2) := by decide +kernel
theorem dX12_clearOf_163 : decode cX12_clearOf 163 = .ok (.ireturn, 1) := by decide +kernel
theorem dX12_clearOf_164 : decode cX12_clearOf 164 = .ok (.iinc 4 1, 3) := by decide +kernel
theorem dX12_clearOf_167 : decode cX12_clearOf 167 = .ok (.goto (-162), 3) := by decide +kernel
theorem dX12_clearOf_170 : decode cX12_clearOf 170 = .ok (.bipush (-4), 2) := by decide +kernel
theorem dX12_clearOf_172 : decode cX12_clearOf 172 = .ok (.ireturn, 1) := by decide +kernel
theorem dX12_clear_0 : decode cX12_clear 0 = .ok (.aload_n 0, 1) := by decide +kernel
theorem dX12_clear_1 : decode cX12_clear 1 = .ok (.iload_n 1, 1) := by decide +kernel
theorem dX12_clear_2 : decode cX12_clear 2 = .ok (.invokevirtual 130, 3) := by decide +kernel
theorem dX12_clear_5 : decode cX12_clear 5 = .ok (.ifCond .eq 25, 3) := by decide +kernel
theorem dX12_clear_8 : decode cX12_clear 8 = .ok (.aload_n 0, 1) := by decide +kernel
theorem dX12_clear_9 : decode cX12_clear 9 = .ok (.iload_n 2, 1) := by decide +kernel
theorem dX12_clear_10 : decode cX12_clear 10 = .ok (.invokevirtual 130, 3) := by decide +kernel
theorem dX12_clear_13 : decode cX12_clear 13 = .ok (.ifCond .eq 17, 3) := by decide +kernel
theorem dX12_clear_16 : decode cX12_clear 16 = .ok (.iload_n 1, 1) := by decide +kernel
theorem dX12_clear_17 : decode cX12_clear 17 = .ok (.iload_n 2, 1) := by decide +kernel
theorem dX12_clear_18 : decode cX12_clear 18 = .ok (.if_icmp .gt 12, 3) := by decide +kernel
theorem dX12_clear_21 : decode cX12_clear 21 = .ok (.aload_n 0, 1) := by decide +kernel
theorem dX12_clear_22 : decode cX12_clear 22 = .ok (.iload_n 1, 1) := by decide +kernel
theorem dX12_clear_23 : decode cX12_clear 23 = .ok (.iload_n 2, 1) := by decide +kernel
theorem dX12_clear_24 : decode cX12_clear 24 = .ok (.invokevirtual 235, 3) := by decide +kernel
theorem dX12_clear_27 : decode cX12_clear 27 = .ok (.goto 4, 3) := by decide +kernel
theorem dX12_clear_30 : decode cX12_clear 30 = .ok (.iconst (-1), 1) := by decide +kernel
theorem dX12_clear_31 : decode cX12_clear 31 = .ok (.ireturn, 1) := by decide +kernel
theorem dX12_gain_0 : decode cX12_gain 0 = .ok (.aload_n 0, 1) := by decide +kernel
theorem dX12_gain_1 : decode cX12_gain 1 = .ok (.iload_n 1, 1) := by decide +kernel
theorem dX12_gain_2 : decode cX12_gain 2 = .ok (.invokevirtual 130, 3) := by decide +kernel
theorem dX12_gain_5 : decode cX12_gain 5 = .ok (.ifCond .eq 7, 3) := by decide +kernel
theorem dX12_gain_8 : decode cX12_gain 8 = .ok (.iload_n 1, 1) := by decide +kernel
theorem dX12_gain_9 : decode cX12_gain 9 = .ok (.ifCond .ne 5, 3) := by decide +kernel
theorem dX12_gain_12 : decode cX12_gain 12 = .ok (.iconst (-1), 1) := by decide +kernel
theorem dX12_gain_13 : decode cX12_gain 13 = .ok (.ireturn, 1) := by decide +kernel
theorem dX12_gain_14 : decode cX12_gain 14 = .ok (.aload_n 0, 1) := by decide +kernel
theorem dX12_gain_15 : decode cX12_gain 15 = .ok (.iload_n 1, 1) := by decide +kernel
theorem dX12_gain_16 : decode cX12_gain 16 = .ok (.aload_n 0, 1) := by decide +kernel
theorem dX12_gain_17 : decode cX12_gain 17 = .ok (.getfield 13, 3) := by decide +kernel
theorem dX12_gain_20 : decode cX12_gain 20 = .ok (.iconst 1, 1) := by decide +kernel
theorem dX12_gain_21 : decode cX12_gain 21 = .ok (.iaload, 1) := by decide +kernel
theorem dX12_gain_22 : decode cX12_gain 22 = .ok (.iconst 1, 1) := by decide +kernel
theorem dX12_gain_23 : decode cX12_gain 23 = .ok (.isub, 1) := by decide +kernel
theorem dX12_gain_24 : decode cX12_gain 24 = .ok (.invokevirtual 235, 3) := by decide +kernel
theorem dX12_gain_27 : decode cX12_gain 27 = .ok (.istore_n 2, 1) := by decide +kernel
theorem dX12_gain_28 : decode cX12_gain 28 = .ok (.aload_n 0, 1) := by decide +kernel
theorem dX12_gain_29 : decode cX12_gain 29 = .ok (.iconst 0, 1) := by decide +kernel
theorem dX12_gain_30 : decode cX12_gain 30 = .ok (.iload_n 1, 1) := by decide +kernel
theorem dX12_gain_31 : decode cX12_gain 31 = .ok (.iconst 1, 1) := by decide +kernel
theorem dX12_gain_32 : decode cX12_gain 32 = .ok (.isub, 1) := by decide +kernel
theorem dX12_gain_33 : decode cX12_gain 33 = .ok (.invokevirtual 235, 3) := by decide +kernel
theorem dX12_gain_36 : decode cX12_gain 36 = .ok (.istore_n 3, 1) := by decide +kernel
theorem dX12_gain_37 : decode cX12_gain 37 = .ok (.iload_n 2, 1) := by decide +kernel
theorem dX12_gain_38 : decode cX12_gain 38 = .ok (.ifCond .lt 7, 3) := by decide +kernel
theorem dX12_gain_41 : decode cX12_gain 41 = .ok (.iload_n 3, 1) := by decide +kernel
theorem dX12_gain_42 : decode cX12_gain 42 = .ok (.ifCond .ge 8, 3) := by decide +kernel
theorem dX12_gain_45 : decode cX12_gain 45 = .ok (.bipush (-4), 2) := by decide +kernel
theorem dX12_gain_47 : decode cX12_gain 47 = .ok (.goto 15, 3) := by decide +kernel
theorem dX12_gain_50 : decode cX12_gain 50 = .ok (.iload_n 2, 1) := by decide +kernel
theorem dX12_gain_51 : decode cX12_gain 51 = .ok (.iload_n 3, 1) := by decide +kernel
theorem dX12_gain_52 : decode cX12_gain 52 = .ok (.if_icmp .le 9, 3) := by decide +kernel
theorem dX12_gain_55 : decode cX12_gain 55 = .ok (.iload_n 2, 1) := by decide +kernel
theorem dX12_gain_56 : decode cX12_gain 56 = .ok (.iload_n 3, 1) := by decide +kernel
theorem dX12_gain_57 : decode cX12_gain 57 = .ok (.isub, 1) := by decide +kernel
theorem dX12_gain_58 : decode cX12_gain 58 = .ok (.goto 4, 3) := by decide +kernel
theorem dX12_gain_61 : decode cX12_gain 61 = .ok (.iconst 0, 1) := by decide +kernel
theorem dX12_gain_62 : decode cX12_gain 62 = .ok (.ireturn, 1) := by decide +kernel
theorem dX12_drifted_0 : decode cX12_drifted 0 = .ok (.aload_n 0, 1) := by decide +kernel
theorem dX12_drifted_1 : decode cX12_drifted 1 = .ok (.iload_n 1, 1) := by decide +kernel
theorem dX12_drifted_2 : decode cX12_drifted 2 = .ok (.invokevirtual 130, 3) := by decide +kernel
theorem dX12_drifted_5 : decode cX12_drifted 5 = .ok (.ifCond .eq 32, 3) := by decide +kernel
theorem dX12_drifted_8 : decode cX12_drifted 8 = .ok (.aload_n 0, 1) := by decide +kernel
theorem dX12_drifted_9 : decode cX12_drifted 9 = .ok (.iload_n 2, 1) := by decide +kernel
theorem dX12_drifted_10 : decode cX12_drifted 10 = .ok (.invokevirtual 172, 3) := by decide +kernel
theorem dX12_drifted_13 : decode cX12_drifted 13 = .ok (.ifCond .eq 24, 3) := by decide +kernel
theorem dX12_drifted_16 : decode cX12_drifted 16 = .ok (.aload_n 0, 1) := by decide +kernel
theorem dX12_drifted_17 : decode cX12_drifted 17 = .ok (.iload_n 3, 1) := by decide +kernel
theorem dX12_drifted_18 : decode cX12_drifted 18 = .ok (.invokevirtual 172, 3) := by decide +kernel
theorem dX12_drifted_21 : decode cX12_drifted 21 = .ok (.ifCond .eq 16, 3) := by decide +kernel
theorem dX12_drifted_24 : decode cX12_drifted 24 = .ok (.iload 4, 2) := by decide +kernel
theorem dX12_drifted_26 : decode cX12_drifted 26 = .ok (.i2l, 1) := by decide +kernel
theorem dX12_drifted_27 : decode cX12_drifted 27 = .ok (.lconst 1, 1) := by decide +kernel
theorem dX12_drifted_28 : decode cX12_drifted 28 = .ok (.ldc2_w 238, 3) := by decide +kernel
theorem dX12_drifted_31 : decode cX12_drifted 31 = .ok (.invokestatic 62, 3) := by decide +kernel
theorem dX12_drifted_34 : decode cX12_drifted 34 = .ok (.ifCond .ne 5, 3) := by decide +kernel
theorem dX12_drifted_37 : decode cX12_drifted 37 = .ok (.iconst (-1), 1) := by decide +kernel
theorem dX12_drifted_38 : decode cX12_drifted 38 = .ok (.ireturn, 1) := by decide +kernel
theorem dX12_drifted_39 : decode cX12_drifted 39 = .ok (.aload_n 0, 1) := by decide +kernel
theorem dX12_drifted_40 : decode cX12_drifted 40 = .ok (.getfield 108, 3) := by decide +kernel
theorem dX12_drifted_43 : decode cX12_drifted 43 = .ok (.bipush 6, 2) := by decide +kernel
theorem dX12_drifted_45 : decode cX12_drifted 45 = .ok (.if_icmp .ne 6, 3) := by decide +kernel
theorem dX12_drifted_48 : decode cX12_drifted 48 = .ok (.bipush (-3), 2) := by decide +kernel
theorem dX12_drifted_50 : decode cX12_drifted 50 = .ok (.ireturn, 1) := by decide +kernel
theorem dX12_drifted_51 : decode cX12_drifted 51 = .ok (.aload_n 0, 1) := by decide +kernel
theorem dX12_drifted_52 : decode cX12_drifted 52 = .ok (.getfield 35, 3) := by decide +kernel
theorem dX12_drifted_55 : decode cX12_drifted 55 = .ok (.iconst 4, 1) := by decide +kernel
theorem dX12_drifted_56 : decode cX12_drifted 56 = .ok (.aload_n 0, 1) := by decide +kernel
theorem dX12_drifted_57 : decode cX12_drifted 57 = .ok (.getfield 108, 3) := by decide +kernel
theorem dX12_drifted_60 : decode cX12_drifted 60 = .ok (.imul, 1) := by decide +kernel
theorem dX12_drifted_61 : decode cX12_drifted 61 = .ok (.iload_n 1, 1) := by decide +kernel
theorem dX12_drifted_62 : decode cX12_drifted 62 = .ok (.iastore, 1) := by decide +kernel
theorem dX12_drifted_63 : decode cX12_drifted 63 = .ok (.aload_n 0, 1) := by decide +kernel
theorem dX12_drifted_64 : decode cX12_drifted 64 = .ok (.getfield 35, 3) := by decide +kernel
theorem dX12_drifted_67 : decode cX12_drifted 67 = .ok (.iconst 4, 1) := by decide +kernel
theorem dX12_drifted_68 : decode cX12_drifted 68 = .ok (.aload_n 0, 1) := by decide +kernel
theorem dX12_drifted_69 : decode cX12_drifted 69 = .ok (.getfield 108, 3) := by decide +kernel
theorem dX12_drifted_72 : decode cX12_drifted 72 = .ok (.imul, 1) := by decide +kernel
theorem dX12_drifted_73 : decode cX12_drifted 73 = .ok (.iconst 1, 1) := by decide +kernel
theorem dX12_drifted_74 : decode cX12_drifted 74 = .ok (.iadd, 1) := by decide +kernel
theorem dX12_drifted_75 : decode cX12_drifted 75 = .ok (.iload_n 2, 1) := by decide +kernel
theorem dX12_drifted_76 : decode cX12_drifted 76 = .ok (.iastore, 1) := by decide +kernel
theorem dX12_drifted_77 : decode cX12_drifted 77 = .ok (.aload_n 0, 1) := by decide +kernel
theorem dX12_drifted_78 : decode cX12_drifted 78 = .ok (.getfield 35, 3) := by decide +kernel
theorem dX12_drifted_81 : decode cX12_drifted 81 = .ok (.iconst 4, 1) := by decide +kernel
theorem dX12_drifted_82 : decode cX12_drifted 82 = .ok (.aload_n 0, 1) := by decide +kernel
theorem dX12_drifted_83 : decode cX12_drifted 83 = .ok (.getfield 108, 3) := by decide +kernel
theorem dX12_drifted_86 : decode cX12_drifted 86 = .ok (.imul, 1) := by decide +kernel
theorem dX12_drifted_87 : decode cX12_drifted 87 = .ok (.iconst 2, 1) := by decide +kernel
theorem dX12_drifted_88 : decode cX12_drifted 88 = .ok (.iadd, 1) := by decide +kernel
theorem dX12_drifted_89 : decode cX12_drifted 89 = .ok (.iload_n 3, 1) := by decide +kernel
theorem dX12_drifted_90 : decode cX12_drifted 90 = .ok (.iastore, 1) := by decide +kernel
theorem dX12_drifted_91 : decode cX12_drifted 91 = .ok (.aload_n 0, 1) := by decide +kernel
theorem dX12_drifted_92 : decode cX12_drifted 92 = .ok (.getfield 35, 3) := by decide +kernel
theorem dX12_drifted_95 : decode cX12_drifted 95 = .ok (.iconst 4, 1) := by decide +kernel
theorem dX12_drifted_96 : decode cX12_drifted 96 = .ok (.aload_n 0, 1) := by decide +kernel
theorem dX12_drifted_97 : decode cX12_drifted 97 = .ok (.getfield 108, 3) := by decide +kernel
theorem dX12_drifted_100 : decode cX12_drifted 100 = .ok (.imul, 1) := by decide +kernel
theorem dX12_drifted_101 : decode cX12_drifted 101 = .ok (.iconst 3, 1) := by decide +kernel
theorem dX12_drifted_102 : decode cX12_drifted 102 = .ok (.iadd, 1) := by decide +kernel
theorem dX12_drifted_103 : decode cX12_drifted 103 = .ok (.iload 4, 2) := by decide +kernel
theorem dX12_drifted_105 : decode cX12_drifted 105 = .ok (.iastore, 1) := by decide +kernel
theorem dX12_drifted_106 : decode cX12_drifted 106 = .ok (.aload_n 0, 1) := by decide +kernel
theorem dX12_drifted_107 : decode cX12_drifted 107 = .ok (.dup, 1) := by decide +kernel
theorem dX12_drifted_108 : decode cX12_drifted 108 = .ok (.getfield 108, 3) := by decide +kernel
theorem dX12_drifted_111 : decode cX12_drifted 111 = .ok (.iconst 1, 1) := by decide +kernel
theorem dX12_drifted_112 : decode cX12_drifted 112 = .ok (.iadd, 1) := by decide +kernel
theorem dX12_drifted_113 : decode cX12_drifted 113 = .ok (.putfield 108, 3) := by decide +kernel
theorem dX12_drifted_116 : decode cX12_drifted 116 = .ok (.aload_n 0, 1) := by decide +kernel
theorem dX12_drifted_117 : decode cX12_drifted 117 = .ok (.getfield 108, 3) := by decide +kernel
theorem dX12_drifted_120 : decode cX12_drifted 120 = .ok (.ireturn, 1) := by decide +kernel
theorem dX12_forget_0 : decode cX12_forget 0 = .ok (.aload_n 0, 1) := by decide +kernel
theorem dX12_forget_1 : decode cX12_forget 1 = .ok (.getfield 108, 3) := by decide +kernel
theorem dX12_forget_4 : decode cX12_forget 4 = .ok (.istore_n 1, 1) := by decide +kernel
theorem dX12_forget_5 : decode cX12_forget 5 = .ok (.aload_n 0, 1) := by decide +kernel
theorem dX12_forget_6 : decode cX12_forget 6 = .ok (.iconst 0, 1) := by decide +kernel
theorem dX12_forget_7 : decode cX12_forget 7 = .ok (.putfield 108, 3) := by decide +kernel
theorem dX12_forget_10 : decode cX12_forget 10 = .ok (.iload_n 1, 1) := by decide +kernel
theorem dX12_forget_11 : decode cX12_forget 11 = .ok (.ireturn, 1) := by decide +kernel
theorem dX12_currents_0 : decode cX12_currents 0 = .ok (.aload_n 0, 1) := by decide +kernel
theorem dX12_currents_1 : decode cX12_currents 1 = .ok (.iload_n 1, 1) := by decide +kernel
theorem dX12_currents_2 : decode cX12_currents 2 = .ok (.invokevirtual 130, 3) := by decide +kernel
theorem dX12_currents_5 : decode cX12_currents 5 = .ok (.ifCond .ne 5, 3) := by decide +kernel
theorem dX12_currents_8 : decode cX12_currents 8 = .ok (.iconst (-1), 1) := by decide +kernel
theorem dX12_currents_9 : decode cX12_currents 9 = .ok (.ireturn, 1) := by decide +kernel
theorem dX12_currents_10 : decode cX12_currents 10 = .ok (.iconst 0, 1) := by decide +kernel
theorem dX12_currents_11 : decode cX12_currents 11 = .ok (.istore_n 2, 1) := by decide +kernel
theorem dX12_currents_12 : decode cX12_currents 12 = .ok (.iconst 0, 1) := by decide +kernel
theorem dX12_currents_13 : decode cX12_currents 13 = .ok (.istore_n 3, 1) := by decide +kernel
theorem dX12_currents_14 : decode cX12_currents 14 = .ok (.iload_n 3, 1) := by decide +kernel
theorem dX12_currents_15 : decode cX12_currents 15 = .ok (.bipush 7, 2) := by decide +kernel
theorem dX12_currents_17 : decode cX12_currents 17 = .ok (.if_icmp .ge 123, 3) := by decide +kernel
theorem dX12_currents_20 : decode cX12_currents 20 = .ok (.iconst 1, 1) := by decide +kernel
theorem dX12_currents_21 : decode cX12_currents 21 = .ok (.istore 4, 2) := by decide +kernel
theorem dX12_currents_23 : decode cX12_currents 23 = .ok (.iconst 0, 1) := by decide +kernel
theorem dX12_currents_24 : decode cX12_currents 24 = .ok (.istore 5, 2) := by decide +kernel
theorem dX12_currents_26 : decode cX12_currents 26 = .ok (.iload 5, 2) := by decide +kernel
theorem dX12_currents_28 : decode cX12_currents 28 = .ok (.aload_n 0, 1) := by decide +kernel
theorem dX12_currents_29 : decode cX12_currents 29 = .ok (.getfield 108, 3) := by decide +kernel
theorem dX12_currents_32 : decode cX12_currents 32 = .ok (.if_icmp .ge 87, 3) := by decide +kernel
theorem dX12_currents_35 : decode cX12_currents 35 = .ok (.aload_n 0, 1) := by decide +kernel
theorem dX12_currents_36 : decode cX12_currents 36 = .ok (.getfield 35, 3) := by decide +kernel
theorem dX12_currents_39 : decode cX12_currents 39 = .ok (.iconst 4, 1) := by decide +kernel
theorem dX12_currents_40 : decode cX12_currents 40 = .ok (.iload 5, 2) := by decide +kernel
theorem dX12_currents_42 : decode cX12_currents 42 = .ok (.imul, 1) := by decide +kernel
theorem dX12_currents_43 : decode cX12_currents 43 = .ok (.iconst 1, 1) := by decide +kernel
theorem dX12_currents_44 : decode cX12_currents 44 = .ok (.iadd, 1) := by decide +kernel
theorem dX12_currents_45 : decode cX12_currents 45 = .ok (.iaload, 1) := by decide +kernel
theorem dX12_currents_46 : decode cX12_currents 46 = .ok (.aload_n 0, 1) := by decide +kernel
theorem dX12_currents_47 : decode cX12_currents 47 = .ok (.getfield 35, 3) := by decide +kernel
theorem dX12_currents_50 : decode cX12_currents 50 = .ok (.iconst 4, 1) := by decide +kernel
theorem dX12_currents_51 : decode cX12_currents 51 = .ok (.iload 5, 2) := by decide +kernel
theorem dX12_currents_53 : decode cX12_currents 53 = .ok (.imul, 1) := by decide +kernel
theorem dX12_currents_54 : decode cX12_currents 54 = .ok (.iconst 3, 1) := by decide +kernel
theorem dX12_currents_55 : decode cX12_currents 55 = .ok (.iadd, 1) := by decide +kernel
theorem dX12_currents_56 : decode cX12_currents 56 = .ok (.iaload, 1) := by decide +kernel
theorem dX12_currents_57 : decode cX12_currents 57 = .ok (.iload_n 3, 1) := by decide +kernel
theorem dX12_currents_58 : decode cX12_currents 58 = .ok (.iconst 3, 1) := by decide +kernel
theorem dX12_currents_59 : decode cX12_currents 59 = .ok (.isub, 1) := by decide +kernel
theorem dX12_currents_60 : decode cX12_currents 60 = .ok (.imul, 1) := by decide +kernel
theorem dX12_currents_61 : decode cX12_currents 61 = .ok (.iadd, 1) := by decide +kernel
theorem dX12_currents_62 : decode cX12_currents 62 = .ok (.aload_n 0, 1) := by decide +kernel
theorem dX12_currents_63 : decode cX12_currents 63 = .ok (.getfield 35, 3) := by decide +kernel
theorem dX12_currents_66 : decode cX12_currents 66 = .ok (.iconst 4, 1) := by decide +kernel
theorem dX12_currents_67 : decode cX12_currents 67 = .ok (.iload 5, 2) := by decide +kernel
theorem dX12_currents_69 : decode cX12_currents 69 = .ok (.imul, 1) := by decide +kernel
theorem dX12_currents_70 : decode cX12_currents 70 = .ok (.iconst 2, 1) := by decide +kernel
theorem dX12_currents_71 : decode cX12_currents 71 = .ok (.iadd, 1) := by decide +kernel
theorem dX12_currents_72 : decode cX12_currents 72 = .ok (.iaload, 1) := by decide +kernel
theorem dX12_currents_73 : decode cX12_currents 73 = .ok (.isub, 1) := by decide +kernel
theorem dX12_currents_74 : decode cX12_currents 74 = .ok (.istore 6, 2) := by decide +kernel
theorem dX12_currents_76 : decode cX12_currents 76 = .ok (.iload 4, 2) := by decide +kernel
theorem dX12_currents_78 : decode cX12_currents 78 = .ok (.ifCond .eq 32, 3) := by decide +kernel
theorem dX12_currents_81 : decode cX12_currents 81 = .ok (.aload_n 0, 1) := by decide +kernel
theorem dX12_currents_82 : decode cX12_currents 82 = .ok (.getfield 35, 3) := by decide +kernel
theorem dX12_currents_85 : decode cX12_currents 85 = .ok (.iconst 4, 1) := by decide +kernel
theorem dX12_currents_86 : decode cX12_currents 86 = .ok (.iload 5, 2) := by decide +kernel
theorem dX12_currents_88 : decode cX12_currents 88 = .ok (.imul, 1) := by decide +kernel
theorem dX12_currents_89 : decode cX12_currents 89 = .ok (.iaload, 1) := by decide +kernel
theorem dX12_currents_90 : decode cX12_currents 90 = .ok (.iload_n 1, 1) := by decide +kernel
theorem dX12_currents_91 : decode cX12_currents 91 = .ok (.if_icmp .ne 15, 3) := by decide +kernel
theorem dX12_currents_94 : decode cX12_currents 94 = .ok (.iload 6, 2) := by decide +kernel
theorem dX12_currents_96 : decode cX12_currents 96 = .ok (.aload_n 0, 1) := by decide +kernel
theorem dX12_currents_97 : decode cX12_currents 97 = .ok (.getfield 13, 3) := by decide +kernel
theorem dX12_currents_100 : decode cX12_currents 100 = .ok (.iconst 0, 1) := by decide +kernel
theorem dX12_currents_101 : decode cX12_currents 101 = .ok (.iaload, 1) := by decide +kernel
theorem dX12_currents_102 : decode cX12_currents 102 = .ok (.irem, 1) := by decide +kernel
theorem dX12_currents_103 : decode cX12_currents 103 = .ok (.ifCond .ne 7, 3) := by decide +kernel
theorem dX12_currents_106 : decode cX12_currents 106 = .ok (.iconst 1, 1) := by decide +kernel
theorem dX12_currents_107 : decode cX12_currents 107 = .ok (.goto 4, 3) := by decide +kernel
theorem dX12_currents_110 : decode cX12_currents 110 = .ok (.iconst 0, 1) := by decide +kernel
theorem dX12_currents_111 : decode cX12_currents 111 = .ok (.istore 4, 2) := by decide +kernel
theorem dX12_currents_113 : decode cX12_currents 113 = .ok (.iinc 5 1, 3) := by decide +kernel
theorem dX12_currents_116 : decode cX12_currents 116 = .ok (.goto (-90), 3) := by decide +kernel
theorem dX12_currents_119 : decode cX12_currents 119 = .ok (.iload_n 2, 1) := by decide +kernel
theorem dX12_currents_120 : decode cX12_currents 120 = .ok (.iload 4, 2) := by decide +kernel
theorem dX12_currents_122 : decode cX12_currents 122 = .ok (.ifCond .eq 9, 3) := by decide +kernel
theorem dX12_currents_125 : decode cX12_currents 125 = .ok (.iconst 1, 1) := by decide +kernel
theorem dX12_currents_126 : decode cX12_currents 126 = .ok (.iload_n 3, 1) := by decide +kernel
theorem dX12_currents_127 : decode cX12_currents 127 = .ok (.ishl, 1) := by decide +kernel
theorem dX12_currents_128 : decode cX12_currents 128 = .ok (.goto 4, 3) := by decide +kernel
theorem dX12_currents_131 : decode cX12_currents 131 = .ok (.iconst 0, 1) := by decide +kernel
theorem dX12_currents_132 : decode cX12_currents 132 = .ok (.ior, 1) := by decide +kernel
theorem dX12_currents_133 : decode cX12_currents 133 = .ok (.istore_n 2, 1) := by decide +kernel
theorem dX12_currents_134 : decode cX12_currents 134 = .ok (.iinc 3 1, 3) := by decide +kernel
theorem dX12_currents_137 : decode cX12_currents 137 = .ok (.goto (-123), 3) := by decide +kernel
theorem dX12_currents_140 : decode cX12_currents 140 = .ok (.iload_n 2, 1) := by decide +kernel
theorem dX12_currents_141 : decode cX12_currents 141 = .ok (.ireturn, 1) := by decide +kernel
theorem dX12_leak_0 : decode cX12_leak 0 = .ok (.aload_n 0, 1) := by decide +kernel
theorem dX12_leak_1 : decode cX12_leak 1 = .ok (.iload_n 1, 1) := by decide +kernel
theorem dX12_leak_2 : decode cX12_leak 2 = .ok (.invokevirtual 130, 3) := by decide +kernel
theorem dX12_leak_5 : decode cX12_leak 5 = .ok (.ifCond .eq 51, 3) := by decide +kernel
theorem dX12_leak_8 : decode cX12_leak 8 = .ok (.iload_n 2, 1) := by decide +kernel
theorem dX12_leak_9 : decode cX12_leak 9 = .ok (.i2l, 1) := by decide +kernel
theorem dX12_leak_10 : decode cX12_leak 10 = .ok (.lconst 0, 1) := by decide +kernel
theorem dX12_leak_11 : decode cX12_leak 11 = .ok (.ldc2_w 95, 3) := by decide +kernel
theorem dX12_leak_14 : decode cX12_leak 14 = .ok (.invokestatic 62, 3) := by decide +kernel
theorem dX12_leak_17 : decode cX12_leak 17 = .ok (.ifCond .eq 39, 3) := by decide +kernel
theorem dX12_leak_20 : decode cX12_leak 20 = .ok (.iload_n 3, 1) := by decide +kernel
theorem dX12_leak_21 : decode cX12_leak 21 = .ok (.i2l, 1) := by decide +kernel
theorem dX12_leak_22 : decode cX12_leak 22 = .ok (.lconst 0, 1) := by decide +kernel
theorem dX12_leak_23 : decode cX12_leak 23 = .ok (.ldc2_w 95, 3) := by decide +kernel
theorem dX12_leak_26 : decode cX12_leak 26 = .ok (.invokestatic 62, 3) := by decide +kernel
theorem dX12_leak_29 : decode cX12_leak 29 = .ok (.ifCond .eq 27, 3) := by decide +kernel
theorem dX12_leak_32 : decode cX12_leak 32 = .ok (.iload 4, 2) := by decide +kernel
theorem dX12_leak_34 : decode cX12_leak 34 = .ok (.i2l, 1) := by decide +kernel
theorem dX12_leak_35 : decode cX12_leak 35 = .ok (.lconst 0, 1) := by decide +kernel
theorem dX12_leak_36 : decode cX12_leak 36 = .ok (.ldc2_w 240, 3) := by decide +kernel
theorem dX12_leak_39 : decode cX12_leak 39 = .ok (.invokestatic 62, 3) := by decide +kernel
theorem dX12_leak_42 : decode cX12_leak 42 = .ok (.ifCond .eq 14, 3) := by decide +kernel
theorem dX12_leak_45 : decode cX12_leak 45 = .ok (.iload 5, 2) := by decide +kernel
theorem dX12_leak_47 : decode cX12_leak 47 = .ok (.i2l, 1) := by decide +kernel
theorem dX12_leak_48 : decode cX12_leak 48 = .ok (.lconst 0, 1) := by decide +kernel
theorem dX12_leak_49 : decode cX12_leak 49 = .ok (.lconst 1, 1) := by decide +kernel
theorem dX12_leak_50 : decode cX12_leak 50 = .ok (.invokestatic 62, 3) := by decide +kernel
theorem dX12_leak_53 : decode cX12_leak 53 = .ok (.ifCond .ne 7, 3) := by decide +kernel
theorem dX12_leak_56 : decode cX12_leak 56 = .ok (.ldc2_w 242, 3) := by decide +kernel
theorem dX12_leak_59 : decode cX12_leak 59 = .ok (.lreturn, 1) := by decide +kernel
theorem dX12_leak_60 : decode cX12_leak 60 = .ok (.iconst 0, 1) := by decide +kernel
theorem dX12_leak_61 : decode cX12_leak 61 = .ok (.istore 6, 2) := by decide +kernel
theorem dX12_leak_63 : decode cX12_leak 63 = .ok (.iload 6, 2) := by decide +kernel
theorem dX12_leak_65 : decode cX12_leak 65 = .ok (.bipush 11, 2) := by decide +kernel
theorem dX12_leak_67 : decode cX12_leak 67 = .ok (.if_icmp .ge 36, 3) := by decide +kernel
theorem dX12_leak_70 : decode cX12_leak 70 = .ok (.aload_n 0, 1) := by decide +kernel
theorem dX12_leak_71 : decode cX12_leak 71 = .ok (.getfield 45, 3) := by decide +kernel
theorem dX12_leak_74 : decode cX12_leak 74 = .ok (.iload 6, 2) := by decide +kernel
theorem dX12_leak_76 : decode cX12_leak 76 = .ok (.iload 6, 2) := by decide +kernel
theorem dX12_leak_78 : decode cX12_leak 78 = .ok (.aload_n 0, 1) := by decide +kernel
theorem dX12_leak_79 : decode cX12_leak 79 = .ok (.getfield 17, 3) := by decide +kernel
theorem dX12_leak_82 : decode cX12_leak 82 = .ok (.iconst 3, 1) := by decide +kernel
theorem dX12_leak_83 : decode cX12_leak 83 = .ok (.iload_n 1, 1) := by decide +kernel
theorem dX12_leak_84 : decode cX12_leak 84 = .ok (.imul, 1) := by decide +kernel
theorem dX12_leak_85 : decode cX12_leak 85 = .ok (.iconst 1, 1) := by decide +kernel
theorem dX12_leak_86 : decode cX12_leak 86 = .ok (.iadd, 1) := by decide +kernel
theorem dX12_leak_87 : decode cX12_leak 87 = .ok (.iaload, 1) := by decide +kernel
theorem dX12_leak_88 : decode cX12_leak 88 = .ok (.if_icmp .ne 7, 3) := by decide +kernel
theorem dX12_leak_91 : decode cX12_leak 91 = .ok (.lconst 1, 1) := by decide +kernel
theorem dX12_leak_92 : decode cX12_leak 92 = .ok (.goto 4, 3) := by decide +kernel
theorem dX12_leak_95 : decode cX12_leak 95 = .ok (.lconst 0, 1) := by decide +kernel
theorem dX12_leak_96 : decode cX12_leak 96 = .ok (.lastore, 1) := by decide +kernel
theorem dX12_leak_97 : decode cX12_leak 97 = .ok (.iinc 6 1, 3) := by decide +kernel
theorem dX12_leak_100 : decode cX12_leak 100 = .ok (.goto (-37), 3) := by decide +kernel
theorem dX12_leak_103 : decode cX12_leak 103 = .ok (.lconst 1, 1) := by decide +kernel
theorem dX12_leak_104 : decode cX12_leak 104 = .ok (.lstore 6, 2) := by decide +kernel
theorem dX12_leak_106 : decode cX12_leak 106 = .ok (.iconst 0, 1) := by decide +kernel
theorem dX12_leak_107 : decode cX12_leak 107 = .ok (.istore 8, 2) := by decide +kernel
theorem dX12_leak_109 : decode cX12_leak 109 = .ok (.iload 8, 2) := by decide +kernel
theorem dX12_leak_111 : decode cX12_leak 111 = .ok (.iload_n 3, 1) := by decide +kernel
theorem dX12_leak_112 : decode cX12_leak 112 = .ok (.if_icmp .ge 84, 3) := by decide +kernel
theorem dX12_leak_115 : decode cX12_leak 115 = .ok (.aload_n 0, 1) := by decide +kernel
theorem dX12_leak_116 : decode cX12_leak 116 = .ok (.getfield 45, 3) := by decide +kernel
theorem dX12_leak_119 : decode cX12_leak 119 = .ok (.iconst 0, 1) := by decide +kernel
theorem dX12_leak_120 : decode cX12_leak 120 = .ok (.dup2, 1) := by decide +kernel
theorem dX12_leak_121 : decode cX12_leak 121 = .ok (.laload, 1) := by decide +kernel
theorem dX12_leak_122 : decode cX12_leak 122 = .ok (.ldc2_w 240, 3) := by decide +kernel
theorem dX12_leak_125 : decode cX12_leak 125 = .ok (.lmul, 1) := by decide +kernel
theorem dX12_leak_126 : decode cX12_leak 126 = .ok (.lastore, 1) := by decide +kernel
theorem dX12_leak_127 : decode cX12_leak 127 = .ok (.iconst 1, 1) := by decide +kernel
theorem dX12_leak_128 : decode cX12_leak 128 = .ok (.istore 9, 2) := by decide +kernel
theorem dX12_leak_130 : decode cX12_leak 130 = .ok (.iload 9, 2) := by decide +kernel
theorem dX12_leak_132 : decode cX12_leak 132 = .ok (.bipush 10, 2) := by decide +kernel
theorem dX12_leak_134 : decode cX12_leak 134 = .ok (.if_icmp .ge 48, 3) := by decide +kernel
theorem dX12_leak_137 : decode cX12_leak 137 = .ok (.aload_n 0, 1) := by decide +kernel
theorem dX12_leak_138 : decode cX12_leak 138 = .ok (.getfield 45, 3) := by decide +kernel
theorem dX12_leak_141 : decode cX12_leak 141 = .ok (.iload 9, 2) := by decide +kernel
theorem dX12_leak_143 : decode cX12_leak 143 = .ok (.iconst 1, 1) := by decide +kernel
theorem dX12_leak_144 : decode cX12_leak 144 = .ok (.isub, 1) := by decide +kernel
theorem dX12_leak_145 : decode cX12_leak 145 = .ok (.dup2, 1) := by decide +kernel
theorem dX12_leak_146 : decode cX12_leak 146 = .ok (.laload, 1) := by decide +kernel
theorem dX12_leak_147 : decode cX12_leak 147 = .ok (.iload 4, 2) := by decide +kernel
theorem dX12_leak_149 : decode cX12_leak 149 = .ok (.i2l, 1) := by decide +kernel
theorem dX12_leak_150 : decode cX12_leak 150 = .ok (.aload_n 0, 1) := by decide +kernel
theorem dX12_leak_151 : decode cX12_leak 151 = .ok (.getfield 45, 3) := by decide +kernel
theorem dX12_leak_154 : decode cX12_leak 154 = .ok (.iload 9, 2) := by decide +kernel
theorem dX12_leak_156 : decode cX12_leak 156 = .ok (.laload, 1) := by decide +kernel
theorem dX12_leak_157 : decode cX12_leak 157 = .ok (.lmul, 1) := by decide +kernel
theorem dX12_leak_158 : decode cX12_leak 158 = .ok (.ladd, 1) := by decide +kernel
theorem dX12_leak_159 : decode cX12_leak 159 = .ok (.lastore, 1) := by decide +kernel
theorem dX12_leak_160 : decode cX12_leak 160 = .ok (.aload_n 0, 1) := by decide +kernel
theorem dX12_leak_161 : decode cX12_leak 161 = .ok (.getfield 45, 3) := by decide +kernel
theorem dX12_leak_164 : decode cX12_leak 164 = .ok (.iload 9, 2) := by decide +kernel
theorem dX12_leak_166 : decode cX12_leak 166 = .ok (.dup2, 1) := by decide +kernel
theorem dX12_leak_167 : decode cX12_leak 167 = .ok (.laload, 1) := by decide +kernel
theorem dX12_leak_168 : decode cX12_leak 168 = .ok (.bipush 10, 2) := by decide +kernel
theorem dX12_leak_170 : decode cX12_leak 170 = .ok (.iload 4, 2) := by decide +kernel
theorem dX12_leak_172 : decode cX12_leak 172 = .ok (.isub, 1) := by decide +kernel
theorem dX12_leak_173 : decode cX12_leak 173 = .ok (.i2l, 1) := by decide +kernel
theorem dX12_leak_174 : decode cX12_leak 174 = .ok (.lmul, 1) := by decide +kernel
theorem dX12_leak_175 : decode cX12_leak 175 = .ok (.lastore, 1) := by decide +kernel
theorem dX12_leak_176 : decode cX12_leak 176 = .ok (.iinc 9 1, 3) := by decide +kernel
theorem dX12_leak_179 : decode cX12_leak 179 = .ok (.goto (-49), 3) := by decide +kernel
theorem dX12_leak_182 : decode cX12_leak 182 = .ok (.lload 6, 2) := by decide +kernel
theorem dX12_leak_184 : decode cX12_leak 184 = .ok (.ldc2_w 240, 3) := by decide +kernel
theorem dX12_leak_187 : decode cX12_leak 187 = .ok (.lmul, 1) := by decide +kernel
theorem dX12_leak_188 : decode cX12_leak 188 = .ok (.lstore 6, 2) := by decide +kernel
theorem dX12_leak_190 : decode cX12_leak 190 = .ok (.iinc 8 1, 3) := by decide +kernel
theorem dX12_leak_193 : decode cX12_leak 193 = .ok (.goto (-84), 3) := by decide +kernel
theorem dX12_leak_196 : decode cX12_leak 196 = .ok (.lconst 0, 1) := by decide +kernel
theorem dX12_leak_197 : decode cX12_leak 197 = .ok (.lstore 8, 2) := by decide +kernel
theorem dX12_leak_199 : decode cX12_leak 199 = .ok (.iload_n 2, 1) := by decide +kernel
theorem dX12_leak_200 : decode cX12_leak 200 = .ok (.istore 10, 2) := by decide +kernel
theorem dX12_leak_202 : decode cX12_leak 202 = .ok (.iload 10, 2) := by decide +kernel
theorem dX12_leak_204 : decode cX12_leak 204 = .ok (.bipush 10, 2) := by decide +kernel
theorem dX12_leak_206 : decode cX12_leak 206 = .ok (.if_icmp .ge 21, 3) := by decide +kernel
theorem dX12_leak_209 : decode cX12_leak 209 = .ok (.lload 8, 2) := by decide +kernel
theorem dX12_leak_211 : decode cX12_leak 211 = .ok (.aload_n 0, 1) := by decide +kernel
theorem dX12_leak_212 : decode cX12_leak 212 = .ok (.getfield 45, 3) := by decide +kernel
theorem dX12_leak_215 : decode cX12_leak 215 = .ok (.iload 10, 2) := by decide +kernel
theorem dX12_leak_217 : decode cX12_leak 217 = .ok (.laload, 1) := by decide +kernel
theorem dX12_leak_218 : decode cX12_leak 218 = .ok (.ladd, 1) := by decide +kernel
theorem dX12_leak_219 : decode cX12_leak 219 = .ok (.lstore 8, 2) := by decide +kernel
theorem dX12_leak_221 : decode cX12_leak 221 = .ok (.iinc 10 1, 3) := by decide +kernel
theorem dX12_leak_224 : decode cX12_leak 224 = .ok (.goto (-22), 3) := by decide +kernel
theorem dX12_leak_227 : decode cX12_leak 227 = .ok (.lload 8, 2) := by decide +kernel
theorem dX12_leak_229 : decode cX12_leak 229 = .ok (.lstore 10, 2) := by decide +kernel
theorem dX12_leak_231 : decode cX12_leak 231 = .ok (.lload 6, 2) := by decide +kernel
theorem dX12_leak_233 : decode cX12_leak 233 = .ok (.lstore 12, 2) := by decide +kernel
theorem dX12_leak_235 : decode cX12_leak 235 = .ok (.lload 12, 2) := by decide +kernel
theorem dX12_leak_237 : decode cX12_leak 237 = .ok (.lconst 0, 1) := by decide +kernel
theorem dX12_leak_238 : decode cX12_leak 238 = .ok (.lcmp, 1) := by decide +kernel
theorem dX12_leak_239 : decode cX12_leak 239 = .ok (.ifCond .eq 21, 3) := by decide +kernel
theorem dX12_leak_242 : decode cX12_leak 242 = .ok (.lload 10, 2) := by decide +kernel
theorem dX12_leak_244 : decode cX12_leak 244 = .ok (.lload 12, 2) := by decide +kernel
theorem dX12_leak_246 : decode cX12_leak 246 = .ok (.lrem, 1) := by decide +kernel
theorem dX12_leak_247 : decode cX12_leak 247 = .ok (.lstore 14, 2) := by decide +kernel
theorem dX12_leak_249 : decode cX12_leak 249 = .ok (.lload 12, 2) := by decide +kernel
theorem dX12_leak_251 : decode cX12_leak 251 = .ok (.lstore 10, 2) := by decide +kernel
theorem dX12_leak_253 : decode cX12_leak 253 = .ok (.lload 14, 2) := by decide +kernel
theorem dX12_leak_255 : decode cX12_leak 255 = .ok (.lstore 12, 2) := by decide +kernel
theorem dX12_leak_257 : decode cX12_leak 257 = .ok (.goto (-22), 3) := by decide +kernel
theorem dX12_leak_260 : decode cX12_leak 260 = .ok (.iload 5, 2) := by decide +kernel
theorem dX12_leak_262 : decode cX12_leak 262 = .ok (.ifCond .ne 11, 3) := by decide +kernel
theorem dX12_leak_265 : decode cX12_leak 265 = .ok (.lload 8, 2) := by decide +kernel
theorem dX12_leak_267 : decode cX12_leak 267 = .ok (.lload 10, 2) := by decide +kernel
theorem dX12_leak_269 : decode cX12_leak 269 = .ok (.ldiv, 1) := by decide +kernel
theorem dX12_leak_270 : decode cX12_leak 270 = .ok (.goto 8, 3) := by decide +kernel
theorem dX12_leak_273 : decode cX12_leak 273 = .ok (.lload 6, 2) := by decide +kernel
theorem dX12_leak_275 : decode cX12_leak 275 = .ok (.lload 10, 2) := by decide +kernel
theorem dX12_leak_277 : decode cX12_leak 277 = .ok (.ldiv, 1) := by decide +kernel
theorem dX12_leak_278 : decode cX12_leak 278 = .ok (.lreturn, 1) := by decide +kernel
theorem dX12_year_0 : decode cX12_year 0 = .ok (.iload_n 1, 1) := by decide +kernel
theorem dX12_year_1 : decode cX12_year 1 = .ok (.i2l, 1) := by decide +kernel
theorem dX12_year_2 : decode cX12_year 2 = .ok (.lconst 0, 1) := by decide +kernel
theorem dX12_year_3 : decode cX12_year 3 = .ok (.ldc2_w 244, 3) := by decide +kernel
theorem dX12_year_6 : decode cX12_year 6 = .ok (.invokestatic 62, 3) := by decide +kernel
theorem dX12_year_9 : decode cX12_year 9 = .ok (.ifCond .eq 35, 3) := by decide +kernel
theorem dX12_year_12 : decode cX12_year 12 = .ok (.iload_n 2, 1) := by decide +kernel
theorem dX12_year_13 : decode cX12_year 13 = .ok (.i2l, 1) := by decide +kernel
theorem dX12_year_14 : decode cX12_year 14 = .ok (.lconst 1, 1) := by decide +kernel
theorem dX12_year_15 : decode cX12_year 15 = .ok (.ldc2_w 157, 3) := by decide +kernel
theorem dX12_year_18 : decode cX12_year 18 = .ok (.invokestatic 62, 3) := by decide +kernel
theorem dX12_year_21 : decode cX12_year 21 = .ok (.ifCond .eq 23, 3) := by decide +kernel
theorem dX12_year_24 : decode cX12_year 24 = .ok (.iload_n 3, 1) := by decide +kernel
theorem dX12_year_25 : decode cX12_year 25 = .ok (.i2l, 1) := by decide +kernel
theorem dX12_year_26 : decode cX12_year 26 = .ok (.ldc2_w 242, 3) := by decide +kernel
theorem dX12_year_29 : decode cX12_year 29 = .ok (.aload_n 0, 1) := by decide +kernel
theorem dX12_year_30 : decode cX12_year 30 = .ok (.getfield 13, 3) := by decide +kernel
theorem dX12_year_33 : decode cX12_year 33 = .ok (.iconst 2, 1) := by decide +kernel
theorem dX12_year_34 : decode cX12_year 34 = .ok (.iaload, 1) := by decide +kernel
theorem dX12_year_35 : decode cX12_year 35 = .ok (.iconst 1, 1) := by decide +kernel
theorem dX12_year_36 : decode cX12_year 36 = .ok (.isub, 1) := by decide +kernel
theorem dX12_year_37 : decode cX12_year 37 = .ok (.i2l, 1) := by decide +kernel
theorem dX12_year_38 : decode cX12_year 38 = .ok (.invokestatic 62, 3) := by decide +kernel
theorem dX12_year_41 : decode cX12_year 41 = .ok (.ifCond .ne 5, 3) := by decide +kernel
theorem dX12_year_44 : decode cX12_year 44 = .ok (.iconst (-1), 1) := by decide +kernel
theorem dX12_year_45 : decode cX12_year 45 = .ok (.ireturn, 1) := by decide +kernel
theorem dX12_year_46 : decode cX12_year 46 = .ok (.iload_n 3, 1) := by decide +kernel
theorem dX12_year_47 : decode cX12_year 47 = .ok (.ifCond .lt 14, 3) := by decide +kernel
theorem dX12_year_50 : decode cX12_year 50 = .ok (.aload_n 0, 1) := by decide +kernel
theorem dX12_year_51 : decode cX12_year 51 = .ok (.iload_n 3, 1) := by decide +kernel
theorem dX12_year_52 : decode cX12_year 52 = .ok (.invokevirtual 165, 3) := by decide +kernel
theorem dX12_year_55 : decode cX12_year 55 = .ok (.ifCond .eq 6, 3) := by decide +kernel
theorem dX12_year_58 : decode cX12_year 58 = .ok (.bipush (-2), 2) := by decide +kernel
theorem dX12_year_60 : decode cX12_year 60 = .ok (.ireturn, 1) := by decide +kernel
theorem dX12_year_61 : decode cX12_year 61 = .ok (.iconst 0, 1) := by decide +kernel
theorem dX12_year_62 : decode cX12_year 62 = .ok (.istore 4, 2) := by decide +kernel
theorem dX12_year_64 : decode cX12_year 64 = .ok (.iconst 0, 1) := by decide +kernel
theorem dX12_year_65 : decode cX12_year 65 = .ok (.istore 5, 2) := by decide +kernel
theorem dX12_year_67 : decode cX12_year 67 = .ok (.iload 5, 2) := by decide +kernel
theorem dX12_year_69 : decode cX12_year 69 = .ok (.iload_n 2, 1) := by decide +kernel
theorem dX12_year_70 : decode cX12_year 70 = .ok (.if_icmp .ge 106, 3) := by decide +kernel
theorem dX12_year_73 : decode cX12_year 73 = .ok (.ldc2_w 246, 3) := by decide +kernel
theorem dX12_year_76 : decode cX12_year 76 = .ok (.iload_n 1, 1) := by decide +kernel
theorem dX12_year_77 : decode cX12_year 77 = .ok (.i2l, 1) := by decide +kernel
theorem dX12_year_78 : decode cX12_year 78 = .ok (.lmul, 1) := by decide +kernel
theorem dX12_year_79 : decode cX12_year 79 = .ok (.ldc2_w 248, 3) := by decide +kernel
theorem dX12_year_82 : decode cX12_year 82 = .ok (.iload 5, 2) := by decide +kernel
theorem dX12_year_84 : decode cX12_year 84 = .ok (.i2l, 1) := by decide +kernel
theorem dX12_year_85 : decode cX12_year 85 = .ok (.lmul, 1) := by decide +kernel
theorem dX12_year_86 : decode cX12_year 86 = .ok (.ladd, 1) := by decide +kernel
theorem dX12_year_87 : decode cX12_year 87 = .ok (.lconst 1, 1) := by decide +kernel
theorem dX12_year_88 : decode cX12_year 88 = .ok (.ladd, 1) := by decide +kernel
theorem dX12_year_89 : decode cX12_year 89 = .ok (.lstore 6, 2) := by decide +kernel
theorem dX12_year_91 : decode cX12_year 91 = .ok (.lload 6, 2) := by decide +kernel
theorem dX12_year_93 : decode cX12_year 93 = .ok (.lload 6, 2) := by decide +kernel
theorem dX12_year_95 : decode cX12_year 95 = .ok (.lmul, 1) := by decide +kernel
theorem dX12_year_96 : decode cX12_year 96 = .ok (.ldc2_w 250, 3) := by decide +kernel
theorem dX12_year_99 : decode cX12_year 99 = .ok (.lrem, 1) := by decide +kernel
theorem dX12_year_100 : decode cX12_year 100 = .ok (.l2i, 1) := by decide +kernel
theorem dX12_year_101 : decode cX12_year 101 = .ok (.istore 8, 2) := by decide +kernel
theorem dX12_year_103 : decode cX12_year 103 = .ok (.aload_n 0, 1) := by decide +kernel
theorem dX12_year_104 : decode cX12_year 104 = .ok (.invokevirtual 229, 3) := by decide +kernel
theorem dX12_year_107 : decode cX12_year 107 = .ok (.aload_n 0, 1) := by decide +kernel
theorem dX12_year_108 : decode cX12_year 108 = .ok (.iload 8, 2) := by decide +kernel
theorem dX12_year_110 : decode cX12_year 110 = .ok (.aload_n 0, 1) := by decide +kernel
theorem dX12_year_111 : decode cX12_year 111 = .ok (.getfield 13, 3) := by decide +kernel
theorem dX12_year_114 : decode cX12_year 114 = .ok (.iconst 1, 1) := by decide +kernel
theorem dX12_year_115 : decode cX12_year 115 = .ok (.iaload, 1) := by decide +kernel
theorem dX12_year_116 : decode cX12_year 116 = .ok (.irem, 1) := by decide +kernel
theorem dX12_year_117 : decode cX12_year 117 = .ok (.iload 8, 2) := by decide +kernel
theorem dX12_year_119 : decode cX12_year 119 = .ok (.bipush 8, 2) := by decide +kernel
theorem dX12_year_121 : decode cX12_year 121 = .ok (.idiv, 1) := by decide +kernel
theorem dX12_year_122 : decode cX12_year 122 = .ok (.aload_n 0, 1) := by decide +kernel
theorem dX12_year_123 : decode cX12_year 123 = .ok (.getfield 13, 3) := by decide +kernel
theorem dX12_year_126 : decode cX12_year 126 = .ok (.iconst 0, 1) := by decide +kernel
theorem dX12_year_127 : decode cX12_year 127 = .ok (.iaload, 1) := by decide +kernel
theorem dX12_year_128 : decode cX12_year 128 = .ok (.irem, 1) := by decide +kernel
theorem dX12_year_129 : decode cX12_year 129 = .ok (.iload 8, 2) := by decide +kernel
theorem dX12_year_131 : decode cX12_year 131 = .ok (.sipush 256, 3) := by decide +kernel
theorem dX12_year_134 : decode cX12_year 134 = .ok (.idiv, 1) := by decide +kernel
theorem dX12_year_135 : decode cX12_year 135 = .ok (.bipush 10, 2) := by decide +kernel
theorem dX12_year_137 : decode cX12_year 137 = .ok (.irem, 1) := by decide +kernel
theorem dX12_year_138 : decode cX12_year 138 = .ok (.bipush (-4), 2) := by decide +kernel
theorem dX12_year_140 : decode cX12_year 140 = .ok (.invokevirtual 232, 3) := by decide +kernel
theorem dX12_year_143 : decode cX12_year 143 = .ok (.istore 9, 2) := by decide +kernel
theorem dX12_year_145 : decode cX12_year 145 = .ok (.iload 4, 2) := by decide +kernel
theorem dX12_year_147 : decode cX12_year 147 = .ok (.iload 9, 2) := by decide +kernel
theorem dX12_year_149 : decode cX12_year 149 = .ok (.ifCond .lt 17, 3) := by decide +kernel
theorem dX12_year_152 : decode cX12_year 152 = .ok (.iload_n 3, 1) := by decide +kernel
theorem dX12_year_153 : decode cX12_year 153 = .ok (.ifCond .lt 9, 3) := by decide +kernel
theorem dX12_year_156 : decode cX12_year 156 = .ok (.iload 9, 2) := by decide +kernel
theorem dX12_year_158 : decode cX12_year 158 = .ok (.iload_n 3, 1) := by decide +kernel
theorem dX12_year_159 : decode cX12_year 159 = .ok (.if_icmp .ne 7, 3) := by decide +kernel
theorem dX12_year_162 : decode cX12_year 162 = .ok (.iconst 1, 1) := by decide +kernel
theorem dX12_year_163 : decode cX12_year 163 = .ok (.goto 4, 3) := by decide +kernel
theorem dX12_year_166 : decode cX12_year 166 = .ok (.iconst 0, 1) := by decide +kernel
theorem dX12_year_167 : decode cX12_year 167 = .ok (.iadd, 1) := by decide +kernel
theorem dX12_year_168 : decode cX12_year 168 = .ok (.istore 4, 2) := by decide +kernel
theorem dX12_year_170 : decode cX12_year 170 = .ok (.iinc 5 1, 3) := by decide +kernel
theorem dX12_year_173 : decode cX12_year 173 = .ok (.goto (-106), 3) := by decide +kernel
theorem dX12_year_176 : decode cX12_year 176 = .ok (.iload 4, 2) := by decide +kernel
theorem dX12_year_178 : decode cX12_year 178 = .ok (.ireturn, 1) := by decide +kernel
theorem dX12_keep_0 : decode cX12_keep 0 = .ok (.aload_n 0, 1) := by decide +kernel
theorem dX12_keep_1 : decode cX12_keep 1 = .ok (.getfield 114, 3) := by decide +kernel
theorem dX12_keep_4 : decode cX12_keep 4 = .ok (.iconst 2, 1) := by decide +kernel
theorem dX12_keep_5 : decode cX12_keep 5 = .ok (.if_icmp .ne 6, 3) := by decide +kernel
theorem dX12_keep_8 : decode cX12_keep 8 = .ok (.bipush (-3), 2) := by decide +kernel
theorem dX12_keep_10 : decode cX12_keep 10 = .ok (.ireturn, 1) := by decide +kernel
theorem dX12_keep_11 : decode cX12_keep 11 = .ok (.aload_n 0, 1) := by decide +kernel
theorem dX12_keep_12 : decode cX12_keep 12 = .ok (.dup, 1) := by decide +kernel
theorem dX12_keep_13 : decode cX12_keep 13 = .ok (.getfield 114, 3) := by decide +kernel
theorem dX12_keep_16 : decode cX12_keep 16 = .ok (.iconst 1, 1) := by decide +kernel
theorem dX12_keep_17 : decode cX12_keep 17 = .ok (.iadd, 1) := by decide +kernel
theorem dX12_keep_18 : decode cX12_keep 18 = .ok (.putfield 114, 3) := by decide +kernel
theorem dX12_keep_21 : decode cX12_keep 21 = .ok (.aload_n 0, 1) := by decide +kernel
theorem dX12_keep_22 : decode cX12_keep 22 = .ok (.iconst 0, 1) := by decide +kernel
theorem dX12_keep_23 : decode cX12_keep 23 = .ok (.aload_n 0, 1) := by decide +kernel
theorem dX12_keep_24 : decode cX12_keep 24 = .ok (.getfield 114, 3) := by decide +kernel
theorem dX12_keep_27 : decode cX12_keep 27 = .ok (.invokevirtual 145, 3) := by decide +kernel
theorem dX12_keep_30 : decode cX12_keep 30 = .ok (.aload_n 0, 1) := by decide +kernel
theorem dX12_keep_31 : decode cX12_keep 31 = .ok (.getfield 114, 3) := by decide +kernel
theorem dX12_keep_34 : decode cX12_keep 34 = .ok (.ireturn, 1) := by decide +kernel
theorem dX12_back_0 : decode cX12_back 0 = .ok (.aload_n 0, 1) := by decide +kernel
theorem dX12_back_1 : decode cX12_back 1 = .ok (.getfield 114, 3) := by decide +kernel
theorem dX12_back_4 : decode cX12_back 4 = .ok (.ifCond .ne 6, 3) := by decide +kernel
theorem dX12_back_7 : decode cX12_back 7 = .ok (.bipush (-2), 2) := by decide +kernel
theorem dX12_back_9 : decode cX12_back 9 = .ok (.ireturn, 1) := by decide +kernel
theorem dX12_back_10 : decode cX12_back 10 = .ok (.aload_n 0, 1) := by decide +kernel
theorem dX12_back_11 : decode cX12_back 11 = .ok (.aload_n 0, 1) := by decide +kernel
theorem dX12_back_12 : decode cX12_back 12 = .ok (.getfield 114, 3) := by decide +kernel
theorem dX12_back_15 : decode cX12_back 15 = .ok (.iconst 0, 1) := by decide +kernel
theorem dX12_back_16 : decode cX12_back 16 = .ok (.invokevirtual 145, 3) := by decide +kernel
theorem dX12_back_19 : decode cX12_back 19 = .ok (.aload_n 0, 1) := by decide +kernel
theorem dX12_back_20 : decode cX12_back 20 = .ok (.dup, 1) := by decide +kernel
theorem dX12_back_21 : decode cX12_back 21 = .ok (.getfield 114, 3) := by decide +kernel
theorem dX12_back_24 : decode cX12_back 24 = .ok (.iconst 1, 1) := by decide +kernel
theorem dX12_back_25 : decode cX12_back 25 = .ok (.isub, 1) := by decide +kernel
theorem dX12_back_26 : decode cX12_back 26 = .ok (.putfield 114, 3) := by decide +kernel
theorem dX12_back_29 : decode cX12_back 29 = .ok (.aload_n 0, 1) := by decide +kernel
theorem dX12_back_30 : decode cX12_back 30 = .ok (.iconst 0, 1) := by decide +kernel
theorem dX12_back_31 : decode cX12_back 31 = .ok (.putfield 111, 3) := by decide +kernel
theorem dX12_back_34 : decode cX12_back 34 = .ok (.aload_n 0, 1) := by decide +kernel
theorem dX12_back_35 : decode cX12_back 35 = .ok (.getfield 114, 3) := by decide +kernel
theorem dX12_back_38 : decode cX12_back 38 = .ok (.ireturn, 1) := by decide +kernel
theorem dX12_count_0 : decode cX12_count 0 = .ok (.iload_n 1, 1) := by decide +kernel
theorem dX12_count_1 : decode cX12_count 1 = .ok (.tableswitch 116 0 9 #[55, 62, 69, 76, 83, 91, 96, 101, 106, 111], 55) := by decide +kernel
theorem dX12_count_56 : decode cX12_count 56 = .ok (.aload_n 0, 1) := by decide +kernel
theorem dX12_count_57 : decode cX12_count 57 = .ok (.getfield 13, 3) := by decide +kernel
theorem dX12_count_60 : decode cX12_count 60 = .ok (.iconst 1, 1) := by decide +kernel
theorem dX12_count_61 : decode cX12_count 61 = .ok (.iaload, 1) := by decide +kernel
theorem dX12_count_62 : decode cX12_count 62 = .ok (.ireturn, 1) := by decide +kernel
theorem dX12_count_63 : decode cX12_count 63 = .ok (.aload_n 0, 1) := by decide +kernel
theorem dX12_count_64 : decode cX12_count 64 = .ok (.getfield 13, 3) := by decide +kernel
theorem dX12_count_67 : decode cX12_count 67 = .ok (.iconst 0, 1) := by decide +kernel
theorem dX12_count_68 : decode cX12_count 68 = .ok (.iaload, 1) := by decide +kernel
theorem dX12_count_69 : decode cX12_count 69 = .ok (.ireturn, 1) := by decide +kernel
theorem dX12_count_70 : decode cX12_count 70 = .ok (.aload_n 0, 1) := by decide +kernel
theorem dX12_count_71 : decode cX12_count 71 = .ok (.getfield 13, 3) := by decide +kernel
theorem dX12_count_74 : decode cX12_count 74 = .ok (.iconst 2, 1) := by decide +kernel
theorem dX12_count_75 : decode cX12_count 75 = .ok (.iaload, 1) := by decide +kernel
theorem dX12_count_76 : decode cX12_count 76 = .ok (.ireturn, 1) := by decide +kernel
theorem dX12_count_77 : decode cX12_count 77 = .ok (.aload_n 0, 1) := by decide +kernel
theorem dX12_count_78 : decode cX12_count 78 = .ok (.getfield 29, 3) := by decide +kernel
theorem dX12_count_81 : decode cX12_count 81 = .ok (.iconst 0, 1) := by decide +kernel
theorem dX12_count_82 : decode cX12_count 82 = .ok (.iaload, 1) := by decide +kernel
theorem dX12_count_83 : decode cX12_count 83 = .ok (.ireturn, 1) := by decide +kernel
theorem dX12_count_84 : decode cX12_count 84 = .ok (.aload_n 0, 1) := by decide +kernel
theorem dX12_count_85 : decode cX12_count 85 = .ok (.getfield 29, 3) := by decide +kernel
theorem dX12_count_88 : decode cX12_count 88 = .ok (.bipush 41, 2) := by decide +kernel
theorem dX12_count_90 : decode cX12_count 90 = .ok (.iaload, 1) := by decide +kernel
theorem dX12_count_91 : decode cX12_count 91 = .ok (.ireturn, 1) := by decide +kernel
theorem dX12_count_92 : decode cX12_count 92 = .ok (.aload_n 0, 1) := by decide +kernel
theorem dX12_count_93 : decode cX12_count 93 = .ok (.getfield 105, 3) := by decide +kernel
theorem dX12_count_96 : decode cX12_count 96 = .ok (.ireturn, 1) := by decide +kernel
theorem dX12_count_97 : decode cX12_count 97 = .ok (.aload_n 0, 1) := by decide +kernel
theorem dX12_count_98 : decode cX12_count 98 = .ok (.getfield 108, 3) := by decide +kernel
theorem dX12_count_101 : decode cX12_count 101 = .ok (.ireturn, 1) := by decide +kernel
theorem dX12_count_102 : decode cX12_count 102 = .ok (.aload_n 0, 1) := by decide +kernel
theorem dX12_count_103 : decode cX12_count 103 = .ok (.getfield 111, 3) := by decide +kernel
theorem dX12_count_106 : decode cX12_count 106 = .ok (.ireturn, 1) := by decide +kernel
theorem dX12_count_107 : decode cX12_count 107 = .ok (.aload_n 0, 1) := by decide +kernel
theorem dX12_count_108 : decode cX12_count 108 = .ok (.getfield 114, 3) := by decide +kernel
theorem dX12_count_111 : decode cX12_count 111 = .ok (.ireturn, 1) := by decide +kernel
theorem dX12_count_112 : decode cX12_count 112 = .ok (.aload_n 0, 1) := by decide +kernel
theorem dX12_count_113 : decode cX12_count 113 = .ok (.getfield 66, 3) := by decide +kernel
theorem dX12_count_116 : decode cX12_count 116 = .ok (.ireturn, 1) := by decide +kernel
theorem dX12_count_117 : decode cX12_count 117 = .ok (.iconst (-1), 1) := by decide +kernel
theorem dX12_count_118 : decode cX12_count 118 = .ok (.ireturn, 1) := by decide +kernel
theorem dL_law_0 : decode cL_law 0 = .ok (.new 7, 3) := by decide +kernel
theorem dL_law_3 : decode cL_law 3 = .ok (.dup, 1) := by decide +kernel
theorem dL_law_4 : decode cL_law 4 = .ok (.invokespecial 9, 3) := by decide +kernel
theorem dL_law_7 : decode cL_law 7 = .ok (.astore_n 1, 1) := by decide +kernel
theorem dL_law_8 : decode cL_law 8 = .ok (.new 10, 3) := by decide +kernel
theorem dL_law_11 : decode cL_law 11 = .ok (.dup, 1) := by decide +kernel
theorem dL_law_12 : decode cL_law 12 = .ok (.invokespecial 12, 3) := by decide +kernel
theorem dL_law_15 : decode cL_law 15 = .ok (.astore_n 2, 1) := by decide +kernel
theorem dL_law_16 : decode cL_law 16 = .ok (.iconst 0, 1) := by decide +kernel
theorem dL_law_17 : decode cL_law 17 = .ok (.istore_n 3, 1) := by decide +kernel
theorem dL_law_18 : decode cL_law 18 = .ok (.iload_n 3, 1) := by decide +kernel
theorem dL_law_19 : decode cL_law 19 = .ok (.aload_n 0, 1) := by decide +kernel
theorem dL_law_20 : decode cL_law 20 = .ok (.arraylength, 1) := by decide +kernel
theorem dL_law_21 : decode cL_law 21 = .ok (.bipush 6, 2) := by decide +kernel
theorem dL_law_23 : decode cL_law 23 = .ok (.isub, 1) := by decide +kernel
theorem dL_law_24 : decode cL_law 24 = .ok (.if_icmp .gt 1139, 3) := by decide +kernel
theorem dL_law_27 : decode cL_law 27 = .ok (.aload_n 0, 1) := by decide +kernel
theorem dL_law_28 : decode cL_law 28 = .ok (.iload_n 3, 1) := by decide +kernel
theorem dL_law_29 : decode cL_law 29 = .ok (.iaload, 1) := by decide +kernel
theorem dL_law_30 : decode cL_law 30 = .ok (.bipush 63, 2) := by decide +kernel
theorem dL_law_32 : decode cL_law 32 = .ok (.iand, 1) := by decide +kernel
theorem dL_law_33 : decode cL_law 33 = .ok (.tableswitch 1124 0 33 #[151, 174, 187, 200, 213, 246, 279, 312, 335, 368, 401, 424, 437, 480, 513, 536, 589, 622, 645, 678, 691, 714, 747, 790, 823, 856, 879, 932, 945, 968, 1032, 1075, 1088, 1101], 151) := by decide +kernel
theorem dL_law_184 : decode cL_law 184 = .ok (.aload_n 1, 1) := by decide +kernel
theorem dL_law_185 : decode cL_law 185 = .ok (.aload_n 0, 1) := by decide +kernel
theorem dL_law_186 : decode cL_law 186 = .ok (.iload_n 3, 1) := by decide +kernel
theorem dL_law_187 : decode cL_law 187 = .ok (.iconst 1, 1) := by decide +kernel
theorem dL_law_188 : decode cL_law 188 = .ok (.iadd, 1) := by decide +kernel
theorem dL_law_189 : decode cL_law 189 = .ok (.iaload, 1) := by decide +kernel
theorem dL_law_190 : decode cL_law 190 = .ok (.invokevirtual 13, 3) := by decide +kernel
theorem dL_law_193 : decode cL_law 193 = .ok (.aload_n 2, 1) := by decide +kernel
theorem dL_law_194 : decode cL_law 194 = .ok (.aload_n 0, 1) := by decide +kernel
theorem dL_law_195 : decode cL_law 195 = .ok (.iload_n 3, 1) := by decide +kernel
theorem dL_law_196 : decode cL_law 196 = .ok (.iconst 1, 1) := by decide +kernel
theorem dL_law_197 : decode cL_law 197 = .ok (.iadd, 1) := by decide +kernel
theorem dL_law_198 : decode cL_law 198 = .ok (.iaload, 1) := by decide +kernel
theorem dL_law_199 : decode cL_law 199 = .ok (.invokevirtual 17, 3) := by decide +kernel
theorem dL_law_202 : decode cL_law 202 = .ok (.if_icmp .eq 955, 3) := by decide +kernel
theorem dL_law_205 : decode cL_law 205 = .ok (.iconst 0, 1) := by decide +kernel
theorem dL_law_206 : decode cL_law 206 = .ok (.ireturn, 1) := by decide +kernel
theorem dL_law_207 : decode cL_law 207 = .ok (.aload_n 1, 1) := by decide +kernel
theorem dL_law_208 : decode cL_law 208 = .ok (.invokevirtual 18, 3) := by decide +kernel
theorem dL_law_211 : decode cL_law 211 = .ok (.aload_n 2, 1) := by decide +kernel
theorem dL_law_212 : decode cL_law 212 = .ok (.invokevirtual 22, 3) := by decide +kernel
theorem dL_law_215 : decode cL_law 215 = .ok (.if_icmp .eq 942, 3) := by decide +kernel
theorem dL_law_218 : decode cL_law 218 = .ok (.iconst 0, 1) := by decide +kernel
theorem dL_law_219 : decode cL_law 219 = .ok (.ireturn, 1) := by decide +kernel
theorem dL_law_220 : decode cL_law 220 = .ok (.aload_n 1, 1) := by decide +kernel
theorem dL_law_221 : decode cL_law 221 = .ok (.invokevirtual 23, 3) := by decide +kernel
theorem dL_law_224 : decode cL_law 224 = .ok (.aload_n 2, 1) := by decide +kernel
theorem dL_law_225 : decode cL_law 225 = .ok (.invokevirtual 26, 3) := by decide +kernel
theorem dL_law_228 : decode cL_law 228 = .ok (.if_icmp .eq 929, 3) := by decide +kernel
theorem dL_law_231 : decode cL_law 231 = .ok (.iconst 0, 1) := by decide +kernel
theorem dL_law_232 : decode cL_law 232 = .ok (.ireturn, 1) := by decide +kernel
theorem dL_law_233 : decode cL_law 233 = .ok (.aload_n 1, 1) := by decide +kernel
theorem dL_law_234 : decode cL_law 234 = .ok (.invokevirtual 27, 3) := by decide +kernel
theorem dL_law_237 : decode cL_law 237 = .ok (.aload_n 2, 1) := by decide +kernel
theorem dL_law_238 : decode cL_law 238 = .ok (.invokevirtual 30, 3) := by decide +kernel
theorem dL_law_241 : decode cL_law 241 = .ok (.if_icmp .eq 916, 3) := by decide +kernel
theorem dL_law_244 : decode cL_law 244 = .ok (.iconst 0, 1) := by decide +kernel
theorem dL_law_245 : decode cL_law 245 = .ok (.ireturn, 1) := by decide +kernel
theorem dL_law_246 : decode cL_law 246 = .ok (.aload_n 1, 1) := by decide +kernel
theorem dL_law_247 : decode cL_law 247 = .ok (.aload_n 0, 1) := by decide +kernel
theorem dL_law_248 : decode cL_law 248 = .ok (.iload_n 3, 1) := by decide +kernel
theorem dL_law_249 : decode cL_law 249 = .ok (.iconst 1, 1) := by decide +kernel
theorem dL_law_250 : decode cL_law 250 = .ok (.iadd, 1) := by decide +kernel
theorem dL_law_251 : decode cL_law 251 = .ok (.iaload, 1) := by decide +kernel
theorem dL_law_252 : decode cL_law 252 = .ok (.aload_n 0, 1) := by decide +kernel
theorem dL_law_253 : decode cL_law 253 = .ok (.iload_n 3, 1) := by decide +kernel
theorem dL_law_254 : decode cL_law 254 = .ok (.iconst 2, 1) := by decide +kernel
theorem dL_law_255 : decode cL_law 255 = .ok (.iadd, 1) := by decide +kernel
theorem dL_law_256 : decode cL_law 256 = .ok (.iaload, 1) := by decide +kernel
theorem dL_law_257 : decode cL_law 257 = .ok (.invokevirtual 31, 3) := by decide +kernel
theorem dL_law_260 : decode cL_law 260 = .ok (.aload_n 2, 1) := by decide +kernel
theorem dL_law_261 : decode cL_law 261 = .ok (.aload_n 0, 1) := by decide +kernel
theorem dL_law_262 : decode cL_law 262 = .ok (.iload_n 3, 1) := by decide +kernel
theorem dL_law_263 : decode cL_law 263 = .ok (.iconst 1, 1) := by decide +kernel
theorem dL_law_264 : decode cL_law 264 = .ok (.iadd, 1) := by decide +kernel
theorem dL_law_265 : decode cL_law 265 = .ok (.iaload, 1) := by decide +kernel
theorem dL_law_266 : decode cL_law 266 = .ok (.aload_n 0, 1) := by decide +kernel
theorem dL_law_267 : decode cL_law 267 = .ok (.iload_n 3, 1) := by decide +kernel
theorem dL_law_268 : decode cL_law 268 = .ok (.iconst 2, 1) := by decide +kernel
theorem dL_law_269 : decode cL_law 269 = .ok (.iadd, 1) := by decide +kernel
theorem dL_law_270 : decode cL_law 270 = .ok (.iaload, 1) := by decide +kernel
theorem dL_law_271 : decode cL_law 271 = .ok (.invokevirtual 35, 3) := by decide +kernel
theorem dL_law_274 : decode cL_law 274 = .ok (.if_icmp .eq 883, 3) := by decide +kernel
theorem dL_law_277 : decode cL_law 277 = .ok (.iconst 0, 1) := by decide +kernel
theorem dL_law_278 : decode cL_law 278 = .ok (.ireturn, 1) := by decide +kernel
theorem dL_law_279 : decode cL_law 279 = .ok (.aload_n 1, 1) := by decide +kernel
theorem dL_law_280 : decode cL_law 280 = .ok (.aload_n 0, 1) := by decide +kernel
theorem dL_law_281 : decode cL_law 281 = .ok (.iload_n 3, 1) := by decide +kernel
theorem dL_law_282 : decode cL_law 282 = .ok (.iconst 1, 1) := by decide +kernel
theorem dL_law_283 : decode cL_law 283 = .ok (.iadd, 1) := by decide +kernel
theorem dL_law_284 : decode cL_law 284 = .ok (.iaload, 1) := by decide +kernel
theorem dL_law_285 : decode cL_law 285 = .ok (.aload_n 0, 1) := by decide +kernel
theorem dL_law_286 : decode cL_law 286 = .ok (.iload_n 3, 1) := by decide +kernel
theorem dL_law_287 : decode cL_law 287 = .ok (.iconst 2, 1) := by decide +kernel
theorem dL_law_288 : decode cL_law 288 = .ok (.iadd, 1) := by decide +kernel
theorem dL_law_289 : decode cL_law 289 = .ok (.iaload, 1) := by decide +kernel
theorem dL_law_290 : decode cL_law 290 = .ok (.invokevirtual 36, 3) := by decide +kernel
theorem dL_law_293 : decode cL_law 293 = .ok (.aload_n 2, 1) := by decide +kernel
theorem dL_law_294 : decode cL_law 294 = .ok (.aload_n 0, 1) := by decide +kernel
theorem dL_law_295 : decode cL_law 295 = .ok (.iload_n 3, 1) := by decide +kernel
theorem dL_law_296 : decode cL_law 296 = .ok (.iconst 1, 1) := by decide +kernel
theorem dL_law_297 : decode cL_law 297 = .ok (.iadd, 1) := by decide +kernel
theorem dL_law_298 : decode cL_law 298 = .ok (.iaload, 1) := by decide +kernel
theorem dL_law_299 : decode cL_law 299 = .ok (.aload_n 0, 1) := by decide +kernel
theorem dL_law_300 : decode cL_law 300 = .ok (.iload_n 3, 1) := by decide +kernel
theorem dL_law_301 : decode cL_law 301 = .ok (.iconst 2, 1) := by decide +kernel
theorem dL_law_302 : decode cL_law 302 = .ok (.iadd, 1) := by decide +kernel
theorem dL_law_303 : decode cL_law 303 = .ok (.iaload, 1) := by decide +kernel
theorem dL_law_304 : decode cL_law 304 = .ok (.invokevirtual 39, 3) := by decide +kernel
theorem dL_law_307 : decode cL_law 307 = .ok (.if_icmp .eq 850, 3) := by decide +kernel
theorem dL_law_310 : decode cL_law 310 = .ok (.iconst 0, 1) := by decide +kernel
theorem dL_law_311 : decode cL_law 311 = .ok (.ireturn, 1) := by decide +kernel
theorem dL_law_312 : decode cL_law 312 = .ok (.aload_n 1, 1) := by decide +kernel
theorem dL_law_313 : decode cL_law 313 = .ok (.aload_n 0, 1) := by decide +kernel
theorem dL_law_314 : decode cL_law 314 = .ok (.iload_n 3, 1) := by decide +kernel
theorem dL_law_315 : decode cL_law 315 = .ok (.iconst 1, 1) := by decide +kernel
theorem dL_law_316 : decode cL_law 316 = .ok (.iadd, 1) := by decide +kernel
theorem dL_law_317 : decode cL_law 317 = .ok (.iaload, 1) := by decide +kernel
theorem dL_law_318 : decode cL_law 318 = .ok (.aload_n 0, 1) := by decide +kernel
theorem dL_law_319 : decode cL_law 319 = .ok (.iload_n 3, 1) := by decide +kernel
theorem dL_law_320 : decode cL_law 320 = .ok (.iconst 2, 1) := by decide +kernel
theorem dL_law_321 : decode cL_law 321 = .ok (.iadd, 1) := by decide +kernel
theorem dL_law_322 : decode cL_law 322 = .ok (.iaload, 1) := by decide +kernel
theorem dL_law_323 : decode cL_law 323 = .ok (.invokevirtual 40, 3) := by decide +kernel
theorem dL_law_326 : decode cL_law 326 = .ok (.aload_n 2, 1) := by decide +kernel
theorem dL_law_327 : decode cL_law 327 = .ok (.aload_n 0, 1) := by decide +kernel
theorem dL_law_328 : decode cL_law 328 = .ok (.iload_n 3, 1) := by decide +kernel
theorem dL_law_329 : decode cL_law 329 = .ok (.iconst 1, 1) := by decide +kernel
theorem dL_law_330 : decode cL_law 330 = .ok (.iadd, 1) := by decide +kernel
theorem dL_law_331 : decode cL_law 331 = .ok (.iaload, 1) := by decide +kernel
theorem dL_law_332 : decode cL_law 332 = .ok (.aload_n 0, 1) := by decide +kernel
theorem dL_law_333 : decode cL_law 333 = .ok (.iload_n 3, 1) := by decide +kernel
theorem dL_law_334 : decode cL_law 334 = .ok (.iconst 2, 1) := by decide +kernel
theorem dL_law_335 : decode cL_law 335 = .ok (.iadd, 1) := by decide +kernel
theorem dL_law_336 : decode cL_law 336 = .ok (.iaload, 1) := by decide +kernel
theorem dL_law_337 : decode cL_law 337 = .ok (.invokevirtual 43, 3) := by decide +kernel
theorem dL_law_340 : decode cL_law 340 = .ok (.if_icmp .eq 817, 3) := by decide +kernel
theorem dL_law_343 : decode cL_law 343 = .ok (.iconst 0, 1) := by decide +kernel
theorem dL_law_344 : decode cL_law 344 = .ok (.ireturn, 1) := by decide +kernel
theorem dL_law_345 : decode cL_law 345 = .ok (.aload_n 1, 1) := by decide +kernel
theorem dL_law_346 : decode cL_law 346 = .ok (.aload_n 0, 1) := by decide +kernel
theorem dL_law_347 : decode cL_law 347 = .ok (.iload_n 3, 1) := by decide +kernel
theorem dL_law_348 : decode cL_law 348 = .ok (.iconst 1, 1) := by decide +kernel
theorem dL_law_349 : decode cL_law 349 = .ok (.iadd, 1) := by decide +kernel
theorem dL_law_350 : decode cL_law 350 = .ok (.iaload, 1) := by decide +kernel
theorem dL_law_351 : decode cL_law 351 = .ok (.invokevirtual 44, 3) := by decide +kernel
theorem dL_law_354 : decode cL_law 354 = .ok (.aload_n 2, 1) := by decide +kernel
theorem dL_law_355 : decode cL_law 355 = .ok (.aload_n 0, 1) := by decide +kernel
theorem dL_law_356 : decode cL_law 356 = .ok (.iload_n 3, 1) := by decide +kernel
theorem dL_law_357 : decode cL_law 357 = .ok (.iconst 1, 1) := by decide +kernel
theorem dL_law_358 : decode cL_law 358 = .ok (.iadd, 1) := by decide +kernel
theorem dL_law_359 : decode cL_law 359 = .ok (.iaload, 1) := by decide +kernel
theorem dL_law_360 : decode cL_law 360 = .ok (.invokevirtual 47, 3) := by decide +kernel
theorem dL_law_363 : decode cL_law 363 = .ok (.if_icmp .eq 794, 3) := by decide +kernel
theorem dL_law_366 : decode cL_law 366 = .ok (.iconst 0, 1) := by decide +kernel
theorem dL_law_367 : decode cL_law 367 = .ok (.ireturn, 1) := by decide +kernel
theorem dL_law_368 : decode cL_law 368 = .ok (.aload_n 1, 1) := by decide +kernel
theorem dL_law_369 : decode cL_law 369 = .ok (.aload_n 0, 1) := by decide +kernel
theorem dL_law_370 : decode cL_law 370 = .ok (.iload_n 3, 1) := by decide +kernel
theorem dL_law_371 : decode cL_law 371 = .ok (.iconst 1, 1) := by decide +kernel
theorem dL_law_372 : decode cL_law 372 = .ok (.iadd, 1) := by decide +kernel
theorem dL_law_373 : decode cL_law 373 = .ok (.iaload, 1) := by decide +kernel
theorem dL_law_374 : decode cL_law 374 = .ok (.aload_n 0, 1) := by decide +kernel
theorem dL_law_375 : decode cL_law 375 = .ok (.iload_n 3, 1) := by decide +kernel
theorem dL_law_376 : decode cL_law 376 = .ok (.iconst 2, 1) := by decide +kernel
theorem dL_law_377 : decode cL_law 377 = .ok (.iadd, 1) := by decide +kernel
theorem dL_law_378 : decode cL_law 378 = .ok (.iaload, 1) := by decide +kernel
theorem dL_law_379 : decode cL_law 379 = .ok (.invokevirtual 48, 3) := by decide +kernel
theorem dL_law_382 : decode cL_law 382 = .ok (.aload_n 2, 1) := by decide +kernel
theorem dL_law_383 : decode cL_law 383 = .ok (.aload_n 0, 1) := by decide +kernel
theorem dL_law_384 : decode cL_law 384 = .ok (.iload_n 3, 1) := by decide +kernel
theorem dL_law_385 : decode cL_law 385 = .ok (.iconst 1, 1) := by decide +kernel
theorem dL_law_386 : decode cL_law 386 = .ok (.iadd, 1) := by decide +kernel
theorem dL_law_387 : decode cL_law 387 = .ok (.iaload, 1) := by decide +kernel
theorem dL_law_388 : decode cL_law 388 = .ok (.aload_n 0, 1) := by decide +kernel
theorem dL_law_389 : decode cL_law 389 = .ok (.iload_n 3, 1) := by decide +kernel
theorem dL_law_390 : decode cL_law 390 = .ok (.iconst 2, 1) := by decide +kernel
theorem dL_law_391 : decode cL_law 391 = .ok (.iadd, 1) := by decide +kernel
theorem dL_law_392 : decode cL_law 392 = .ok (.iaload, 1) := by decide +kernel
theorem dL_law_393 : decode cL_law 393 = .ok (.invokevirtual 51, 3) := by decide +kernel
theorem dL_law_396 : decode cL_law 396 = .ok (.if_icmp .eq 761, 3) := by decide +kernel
theorem dL_law_399 : decode cL_law 399 = .ok (.iconst 0, 1) := by decide +kernel
theorem dL_law_400 : decode cL_law 400 = .ok (.ireturn, 1) := by decide +kernel
theorem dL_law_401 : decode cL_law 401 = .ok (.aload_n 1, 1) := by decide +kernel
theorem dL_law_402 : decode cL_law 402 = .ok (.aload_n 0, 1) := by decide +kernel
theorem dL_law_403 : decode cL_law 403 = .ok (.iload_n 3, 1) := by decide +kernel
theorem dL_law_404 : decode cL_law 404 = .ok (.iconst 1, 1) := by decide +kernel
theorem dL_law_405 : decode cL_law 405 = .ok (.iadd, 1) := by decide +kernel
theorem dL_law_406 : decode cL_law 406 = .ok (.iaload, 1) := by decide +kernel
theorem dL_law_407 : decode cL_law 407 = .ok (.aload_n 0, 1) := by decide +kernel
theorem dL_law_408 : decode cL_law 408 = .ok (.iload_n 3, 1) := by decide +kernel
theorem dL_law_409 : decode cL_law 409 = .ok (.iconst 2, 1) := by decide +kernel
theorem dL_law_410 : decode cL_law 410 = .ok (.iadd, 1) := by decide +kernel
theorem dL_law_411 : decode cL_law 411 = .ok (.iaload, 1) := by decide +kernel
theorem dL_law_412 : decode cL_law 412 = .ok (.invokevirtual 52, 3) := by decide +kernel
theorem dL_law_415 : decode cL_law 415 = .ok (.aload_n 2, 1) := by decide +kernel
theorem dL_law_416 : decode cL_law 416 = .ok (.aload_n 0, 1) := by decide +kernel
theorem dL_law_417 : decode cL_law 417 = .ok (.iload_n 3, 1) := by decide +kernel
theorem dL_law_418 : decode cL_law 418 = .ok (.iconst 1, 1) := by decide +kernel
theorem dL_law_419 : decode cL_law 419 = .ok (.iadd, 1) := by decide +kernel
theorem dL_law_420 : decode cL_law 420 = .ok (.iaload, 1) := by decide +kernel
theorem dL_law_421 : decode cL_law 421 = .ok (.aload_n 0, 1) := by decide +kernel
theorem dL_law_422 : decode cL_law 422 = .ok (.iload_n 3, 1) := by decide +kernel
theorem dL_law_423 : decode cL_law 423 = .ok (.iconst 2, 1) := by decide +kernel
theorem dL_law_424 : decode cL_law 424 = .ok (.iadd, 1) := by decide +kernel
theorem dL_law_425 : decode cL_law 425 = .ok (.iaload, 1) := by decide +kernel
theorem dL_law_426 : decode cL_law 426 = .ok (.invokevirtual 55, 3) := by decide +kernel
theorem dL_law_429 : decode cL_law 429 = .ok (.if_icmp .eq 728, 3) := by decide +kernel
theorem dL_law_432 : decode cL_law 432 = .ok (.iconst 0, 1) := by decide +kernel
theorem dL_law_433 : decode cL_law 433 = .ok (.ireturn, 1) := by decide +kernel
theorem dL_law_434 : decode cL_law 434 = .ok (.aload_n 1, 1) := by decide +kernel
theorem dL_law_435 : decode cL_law 435 = .ok (.aload_n 0, 1) := by decide +kernel
theorem dL_law_436 : decode cL_law 436 = .ok (.iload_n 3, 1) := by decide +kernel
theorem dL_law_437 : decode cL_law 437 = .ok (.iconst 1, 1) := by decide +kernel
theorem dL_law_438 : decode cL_law 438 = .ok (.iadd, 1) := by decide +kernel
theorem dL_law_439 : decode cL_law 439 = .ok (.iaload, 1) := by decide +kernel
theorem dL_law_440 : decode cL_law 440 = .ok (.invokevirtual 56, 3) := by decide +kernel
theorem dL_law_443 : decode cL_law 443 = .ok (.aload_n 2, 1) := by decide +kernel
theorem dL_law_444 : decode cL_law 444 = .ok (.aload_n 0, 1) := by decide +kernel
theorem dL_law_445 : decode cL_law 445 = .ok (.iload_n 3, 1) := by decide +kernel
theorem dL_law_446 : decode cL_law 446 = .ok (.iconst 1, 1) := by decide +kernel
theorem dL_law_447 : decode cL_law 447 = .ok (.iadd, 1) := by decide +kernel
theorem dL_law_448 : decode cL_law 448 = .ok (.iaload, 1) := by decide +kernel
theorem dL_law_449 : decode cL_law 449 = .ok (.invokevirtual 59, 3) := by decide +kernel
theorem dL_law_452 : decode cL_law 452 = .ok (.if_icmp .eq 705, 3) := by decide +kernel
theorem dL_law_455 : decode cL_law 455 = .ok (.iconst 0, 1) := by decide +kernel
theorem dL_law_456 : decode cL_law 456 = .ok (.ireturn, 1) := by decide +kernel
theorem dL_law_457 : decode cL_law 457 = .ok (.aload_n 1, 1) := by decide +kernel
theorem dL_law_458 : decode cL_law 458 = .ok (.invokevirtual 60, 3) := by decide +kernel
theorem dL_law_461 : decode cL_law 461 = .ok (.aload_n 2, 1) := by decide +kernel
theorem dL_law_462 : decode cL_law 462 = .ok (.invokevirtual 63, 3) := by decide +kernel
theorem dL_law_465 : decode cL_law 465 = .ok (.if_icmp .eq 692, 3) := by decide +kernel
theorem dL_law_468 : decode cL_law 468 = .ok (.iconst 0, 1) := by decide +kernel
theorem dL_law_469 : decode cL_law 469 = .ok (.ireturn, 1) := by decide +kernel
theorem dL_law_470 : decode cL_law 470 = .ok (.aload_n 1, 1) := by decide +kernel
theorem dL_law_471 : decode cL_law 471 = .ok (.aload_n 0, 1) := by decide +kernel
theorem dL_law_472 : decode cL_law 472 = .ok (.iload_n 3, 1) := by decide +kernel
theorem dL_law_473 : decode cL_law 473 = .ok (.iconst 1, 1) := by decide +kernel
theorem dL_law_474 : decode cL_law 474 = .ok (.iadd, 1) := by decide +kernel
theorem dL_law_475 : decode cL_law 475 = .ok (.iaload, 1) := by decide +kernel
theorem dL_law_476 : decode cL_law 476 = .ok (.aload_n 0, 1) := by decide +kernel
theorem dL_law_477 : decode cL_law 477 = .ok (.iload_n 3, 1) := by decide +kernel
theorem dL_law_478 : decode cL_law 478 = .ok (.iconst 2, 1) := by decide +kernel
theorem dL_law_479 : decode cL_law 479 = .ok (.iadd, 1) := by decide +kernel
theorem dL_law_480 : decode cL_law 480 = .ok (.iaload, 1) := by decide +kernel
theorem dL_law_481 : decode cL_law 481 = .ok (.aload_n 0, 1) := by decide +kernel
theorem dL_law_482 : decode cL_law 482 = .ok (.iload_n 3, 1) := by decide +kernel
theorem dL_law_483 : decode cL_law 483 = .ok (.iconst 3, 1) := by decide +kernel
theorem dL_law_484 : decode cL_law 484 = .ok (.iadd, 1) := by decide +kernel
theorem dL_law_485 : decode cL_law 485 = .ok (.iaload, 1) := by decide +kernel
theorem dL_law_486 : decode cL_law 486 = .ok (.invokevirtual 64, 3) := by decide +kernel
theorem dL_law_489 : decode cL_law 489 = .ok (.aload_n 2, 1) := by decide +kernel
theorem dL_law_490 : decode cL_law 490 = .ok (.aload_n 0, 1) := by decide +kernel
theorem dL_law_491 : decode cL_law 491 = .ok (.iload_n 3, 1) := by decide +kernel
theorem dL_law_492 : decode cL_law 492 = .ok (.iconst 1, 1) := by decide +kernel
theorem dL_law_493 : decode cL_law 493 = .ok (.iadd, 1) := by decide +kernel
theorem dL_law_494 : decode cL_law 494 = .ok (.iaload, 1) := by decide +kernel
theorem dL_law_495 : decode cL_law 495 = .ok (.aload_n 0, 1) := by decide +kernel
theorem dL_law_496 : decode cL_law 496 = .ok (.iload_n 3, 1) := by decide +kernel
theorem dL_law_497 : decode cL_law 497 = .ok (.iconst 2, 1) := by decide +kernel
theorem dL_law_498 : decode cL_law 498 = .ok (.iadd, 1) := by decide +kernel
theorem dL_law_499 : decode cL_law 499 = .ok (.iaload, 1) := by decide +kernel
theorem dL_law_500 : decode cL_law 500 = .ok (.aload_n 0, 1) := by decide +kernel
theorem dL_law_501 : decode cL_law 501 = .ok (.iload_n 3, 1) := by decide +kernel
theorem dL_law_502 : decode cL_law 502 = .ok (.iconst 3, 1) := by decide +kernel
theorem dL_law_503 : decode cL_law 503 = .ok (.iadd, 1) := by decide +kernel
theorem dL_law_504 : decode cL_law 504 = .ok (.iaload, 1) := by decide +kernel
theorem dL_law_505 : decode cL_law 505 = .ok (.invokevirtual 68, 3) := by decide +kernel
theorem dL_law_508 : decode cL_law 508 = .ok (.if_icmp .eq 649, 3) := by decide +kernel
theorem dL_law_511 : decode cL_law 511 = .ok (.iconst 0, 1) := by decide +kernel
theorem dL_law_512 : decode cL_law 512 = .ok (.ireturn, 1) := by decide +kernel
theorem dL_law_513 : decode cL_law 513 = .ok (.aload_n 1, 1) := by decide +kernel
theorem dL_law_514 : decode cL_law 514 = .ok (.aload_n 0, 1) := by decide +kernel
theorem dL_law_515 : decode cL_law 515 = .ok (.iload_n 3, 1) := by decide +kernel
theorem dL_law_516 : decode cL_law 516 = .ok (.iconst 1, 1) := by decide +kernel
theorem dL_law_517 : decode cL_law 517 = .ok (.iadd, 1) := by decide +kernel
theorem dL_law_518 : decode cL_law 518 = .ok (.iaload, 1) := by decide +kernel
theorem dL_law_519 : decode cL_law 519 = .ok (.aload_n 0, 1) := by decide +kernel
theorem dL_law_520 : decode cL_law 520 = .ok (.iload_n 3, 1) := by decide +kernel
theorem dL_law_521 : decode cL_law 521 = .ok (.iconst 2, 1) := by decide +kernel
theorem dL_law_522 : decode cL_law 522 = .ok (.iadd, 1) := by decide +kernel
theorem dL_law_523 : decode cL_law 523 = .ok (.iaload, 1) := by decide +kernel
theorem dL_law_524 : decode cL_law 524 = .ok (.invokevirtual 69, 3) := by decide +kernel
theorem dL_law_527 : decode cL_law 527 = .ok (.aload_n 2, 1) := by decide +kernel
theorem dL_law_528 : decode cL_law 528 = .ok (.aload_n 0, 1) := by decide +kernel
theorem dL_law_529 : decode cL_law 529 = .ok (.iload_n 3, 1) := by decide +kernel
theorem dL_law_530 : decode cL_law 530 = .ok (.iconst 1, 1) := by decide +kernel
theorem dL_law_531 : decode cL_law 531 = .ok (.iadd, 1) := by decide +kernel
theorem dL_law_532 : decode cL_law 532 = .ok (.iaload, 1) := by decide +kernel
theorem dL_law_533 : decode cL_law 533 = .ok (.aload_n 0, 1) := by decide +kernel
theorem dL_law_534 : decode cL_law 534 = .ok (.iload_n 3, 1) := by decide +kernel
theorem dL_law_535 : decode cL_law 535 = .ok (.iconst 2, 1) := by decide +kernel
theorem dL_law_536 : decode cL_law 536 = .ok (.iadd, 1) := by decide +kernel
theorem dL_law_537 : decode cL_law 537 = .ok (.iaload, 1) := by decide +kernel
theorem dL_law_538 : decode cL_law 538 = .ok (.invokevirtual 72, 3) := by decide +kernel
theorem dL_law_541 : decode cL_law 541 = .ok (.if_icmp .eq 616, 3) := by decide +kernel
theorem dL_law_544 : decode cL_law 544 = .ok (.iconst 0, 1) := by decide +kernel
theorem dL_law_545 : decode cL_law 545 = .ok (.ireturn, 1) := by decide +kernel
theorem dL_law_546 : decode cL_law 546 = .ok (.aload_n 1, 1) := by decide +kernel
theorem dL_law_547 : decode cL_law 547 = .ok (.aload_n 0, 1) := by decide +kernel
theorem dL_law_548 : decode cL_law 548 = .ok (.iload_n 3, 1) := by decide +kernel
theorem dL_law_549 : decode cL_law 549 = .ok (.iconst 1, 1) := by decide +kernel
theorem dL_law_550 : decode cL_law 550 = .ok (.iadd, 1) := by decide +kernel
theorem dL_law_551 : decode cL_law 551 = .ok (.iaload, 1) := by decide +kernel
theorem dL_law_552 : decode cL_law 552 = .ok (.invokevirtual 73, 3) := by decide +kernel
theorem dL_law_555 : decode cL_law 555 = .ok (.aload_n 2, 1) := by decide +kernel
theorem dL_law_556 : decode cL_law 556 = .ok (.aload_n 0, 1) := by decide +kernel
theorem dL_law_557 : decode cL_law 557 = .ok (.iload_n 3, 1) := by decide +kernel
theorem dL_law_558 : decode cL_law 558 = .ok (.iconst 1, 1) := by decide +kernel
theorem dL_law_559 : decode cL_law 559 = .ok (.iadd, 1) := by decide +kernel
theorem dL_law_560 : decode cL_law 560 = .ok (.iaload, 1) := by decide +kernel
theorem dL_law_561 : decode cL_law 561 = .ok (.invokevirtual 76, 3) := by decide +kernel
theorem dL_law_564 : decode cL_law 564 = .ok (.if_icmp .eq 593, 3) := by decide +kernel
theorem dL_law_567 : decode cL_law 567 = .ok (.iconst 0, 1) := by decide +kernel
theorem dL_law_568 : decode cL_law 568 = .ok (.ireturn, 1) := by decide +kernel
theorem dL_law_569 : decode cL_law 569 = .ok (.aload_n 1, 1) := by decide +kernel
theorem dL_law_570 : decode cL_law 570 = .ok (.aload_n 0, 1) := by decide +kernel
theorem dL_law_571 : decode cL_law 571 = .ok (.iload_n 3, 1) := by decide +kernel
theorem dL_law_572 : decode cL_law 572 = .ok (.iconst 1, 1) := by decide +kernel
theorem dL_law_573 : decode cL_law 573 = .ok (.iadd, 1) := by decide +kernel
theorem dL_law_574 : decode cL_law 574 = .ok (.iaload, 1) := by decide +kernel
theorem dL_law_575 : decode cL_law 575 = .ok (.aload_n 0, 1) := by decide +kernel
theorem dL_law_576 : decode cL_law 576 = .ok (.iload_n 3, 1) := by decide +kernel
theorem dL_law_577 : decode cL_law 577 = .ok (.iconst 2, 1) := by decide +kernel
theorem dL_law_578 : decode cL_law 578 = .ok (.iadd, 1) := by decide +kernel
theorem dL_law_579 : decode cL_law 579 = .ok (.iaload, 1) := by decide +kernel
theorem dL_law_580 : decode cL_law 580 = .ok (.aload_n 0, 1) := by decide +kernel
theorem dL_law_581 : decode cL_law 581 = .ok (.iload_n 3, 1) := by decide +kernel
theorem dL_law_582 : decode cL_law 582 = .ok (.iconst 3, 1) := by decide +kernel
theorem dL_law_583 : decode cL_law 583 = .ok (.iadd, 1) := by decide +kernel
theorem dL_law_584 : decode cL_law 584 = .ok (.iaload, 1) := by decide +kernel
theorem dL_law_585 : decode cL_law 585 = .ok (.aload_n 0, 1) := by decide +kernel
theorem dL_law_586 : decode cL_law 586 = .ok (.iload_n 3, 1) := by decide +kernel
theorem dL_law_587 : decode cL_law 587 = .ok (.iconst 4, 1) := by decide +kernel
theorem dL_law_588 : decode cL_law 588 = .ok (.iadd, 1) := by decide +kernel
theorem dL_law_589 : decode cL_law 589 = .ok (.iaload, 1) := by decide +kernel
theorem dL_law_590 : decode cL_law 590 = .ok (.invokevirtual 77, 3) := by decide +kernel
theorem dL_law_593 : decode cL_law 593 = .ok (.aload_n 2, 1) := by decide +kernel
theorem dL_law_594 : decode cL_law 594 = .ok (.aload_n 0, 1) := by decide +kernel
theorem dL_law_595 : decode cL_law 595 = .ok (.iload_n 3, 1) := by decide +kernel
theorem dL_law_596 : decode cL_law 596 = .ok (.iconst 1, 1) := by decide +kernel
theorem dL_law_597 : decode cL_law 597 = .ok (.iadd, 1) := by decide +kernel
theorem dL_law_598 : decode cL_law 598 = .ok (.iaload, 1) := by decide +kernel
theorem dL_law_599 : decode cL_law 599 = .ok (.aload_n 0, 1) := by decide +kernel
theorem dL_law_600 : decode cL_law 600 = .ok (.iload_n 3, 1) := by decide +kernel
theorem dL_law_601 : decode cL_law 601 = .ok (.iconst 2, 1) := by decide +kernel
theorem dL_law_602 : decode cL_law 602 = .ok (.iadd, 1) := by decide +kernel
theorem dL_law_603 : decode cL_law 603 = .ok (.iaload, 1) := by decide +kernel
theorem dL_law_604 : decode cL_law 604 = .ok (.aload_n 0, 1) := by decide +kernel
theorem dL_law_605 : decode cL_law 605 = .ok (.iload_n 3, 1) := by decide +kernel
theorem dL_law_606 : decode cL_law 606 = .ok (.iconst 3, 1) := by decide +kernel
theorem dL_law_607 : decode cL_law 607 = .ok (.iadd, 1) := by decide +kernel
theorem dL_law_608 : decode cL_law 608 = .ok (.iaload, 1) := by decide +kernel
theorem dL_law_609 : decode cL_law 609 = .ok (.aload_n 0, 1) := by decide +kernel
theorem dL_law_610 : decode cL_law 610 = .ok (.iload_n 3, 1) := by decide +kernel
theorem dL_law_611 : decode cL_law 611 = .ok (.iconst 4, 1) := by decide +kernel
theorem dL_law_612 : decode cL_law 612 = .ok (.iadd, 1) := by decide +kernel
theorem dL_law_613 : decode cL_law 613 = .ok (.iaload, 1) := by decide +kernel
theorem dL_law_614 : decode cL_law 614 = .ok (.invokevirtual 81, 3) := by decide +kernel
theorem dL_law_617 : decode cL_law 617 = .ok (.if_icmp .eq 540, 3) := by decide +kernel
theorem dL_law_620 : decode cL_law 620 = .ok (.iconst 0, 1) := by decide +kernel
theorem dL_law_621 : decode cL_law 621 = .ok (.ireturn, 1) := by decide +kernel
theorem dL_law_622 : decode cL_law 622 = .ok (.aload_n 1, 1) := by decide +kernel
theorem dL_law_623 : decode cL_law 623 = .ok (.aload_n 0, 1) := by decide +kernel
theorem dL_law_624 : decode cL_law 624 = .ok (.iload_n 3, 1) := by decide +kernel
theorem dL_law_625 : decode cL_law 625 = .ok (.iconst 1, 1) := by decide +kernel
theorem dL_law_626 : decode cL_law 626 = .ok (.iadd, 1) := by decide +kernel
theorem dL_law_627 : decode cL_law 627 = .ok (.iaload, 1) := by decide +kernel
theorem dL_law_628 : decode cL_law 628 = .ok (.aload_n 0, 1) := by decide +kernel
theorem dL_law_629 : decode cL_law 629 = .ok (.iload_n 3, 1) := by decide +kernel
theorem dL_law_630 : decode cL_law 630 = .ok (.iconst 2, 1) := by decide +kernel
theorem dL_law_631 : decode cL_law 631 = .ok (.iadd, 1) := by decide +kernel
theorem dL_law_632 : decode cL_law 632 = .ok (.iaload, 1) := by decide +kernel
theorem dL_law_633 : decode cL_law 633 = .ok (.invokevirtual 82, 3) := by decide +kernel
theorem dL_law_636 : decode cL_law 636 = .ok (.aload_n 2, 1) := by decide +kernel
theorem dL_law_637 : decode cL_law 637 = .ok (.aload_n 0, 1) := by decide +kernel
theorem dL_law_638 : decode cL_law 638 = .ok (.iload_n 3, 1) := by decide +kernel
theorem dL_law_639 : decode cL_law 639 = .ok (.iconst 1, 1) := by decide +kernel
theorem dL_law_640 : decode cL_law 640 = .ok (.iadd, 1) := by decide +kernel
theorem dL_law_641 : decode cL_law 641 = .ok (.iaload, 1) := by decide +kernel
theorem dL_law_642 : decode cL_law 642 = .ok (.aload_n 0, 1) := by decide +kernel
theorem dL_law_643 : decode cL_law 643 = .ok (.iload_n 3, 1) := by decide +kernel
theorem dL_law_644 : decode cL_law 644 = .ok (.iconst 2, 1) := by decide +kernel
theorem dL_law_645 : decode cL_law 645 = .ok (.iadd, 1) := by decide +kernel
theorem dL_law_646 : decode cL_law 646 = .ok (.iaload, 1) := by decide +kernel
theorem dL_law_647 : decode cL_law 647 = .ok (.invokevirtual 85, 3) := by decide +kernel
theorem dL_law_650 : decode cL_law 650 = .ok (.if_icmp .eq 507, 3) := by decide +kernel
theorem dL_law_653 : decode cL_law 653 = .ok (.iconst 0, 1) := by decide +kernel
theorem dL_law_654 : decode cL_law 654 = .ok (.ireturn, 1) := by decide +kernel
theorem dL_law_655 : decode cL_law 655 = .ok (.aload_n 1, 1) := by decide +kernel
theorem dL_law_656 : decode cL_law 656 = .ok (.aload_n 0, 1) := by decide +kernel
theorem dL_law_657 : decode cL_law 657 = .ok (.iload_n 3, 1) := by decide +kernel
theorem dL_law_658 : decode cL_law 658 = .ok (.iconst 1, 1) := by decide +kernel
theorem dL_law_659 : decode cL_law 659 = .ok (.iadd, 1) := by decide +kernel
theorem dL_law_660 : decode cL_law 660 = .ok (.iaload, 1) := by decide +kernel
theorem dL_law_661 : decode cL_law 661 = .ok (.invokevirtual 86, 3) := by decide +kernel
theorem dL_law_664 : decode cL_law 664 = .ok (.aload_n 2, 1) := by decide +kernel
theorem dL_law_665 : decode cL_law 665 = .ok (.aload_n 0, 1) := by decide +kernel
theorem dL_law_666 : decode cL_law 666 = .ok (.iload_n 3, 1) := by decide +kernel
theorem dL_law_667 : decode cL_law 667 = .ok (.iconst 1, 1) := by decide +kernel
theorem dL_law_668 : decode cL_law 668 = .ok (.iadd, 1) := by decide +kernel
theorem dL_law_669 : decode cL_law 669 = .ok (.iaload, 1) := by decide +kernel
theorem dL_law_670 : decode cL_law 670 = .ok (.invokevirtual 89, 3) := by decide +kernel
theorem dL_law_673 : decode cL_law 673 = .ok (.if_icmp .eq 484, 3) := by decide +kernel
theorem dL_law_676 : decode cL_law 676 = .ok (.iconst 0, 1) := by decide +kernel
theorem dL_law_677 : decode cL_law 677 = .ok (.ireturn, 1) := by decide +kernel
theorem dL_law_678 : decode cL_law 678 = .ok (.aload_n 1, 1) := by decide +kernel
theorem dL_law_679 : decode cL_law 679 = .ok (.aload_n 0, 1) := by decide +kernel
theorem dL_law_680 : decode cL_law 680 = .ok (.iload_n 3, 1) := by decide +kernel
theorem dL_law_681 : decode cL_law 681 = .ok (.iconst 1, 1) := by decide +kernel
theorem dL_law_682 : decode cL_law 682 = .ok (.iadd, 1) := by decide +kernel
theorem dL_law_683 : decode cL_law 683 = .ok (.iaload, 1) := by decide +kernel
theorem dL_law_684 : decode cL_law 684 = .ok (.aload_n 0, 1) := by decide +kernel
theorem dL_law_685 : decode cL_law 685 = .ok (.iload_n 3, 1) := by decide +kernel
theorem dL_law_686 : decode cL_law 686 = .ok (.iconst 2, 1) := by decide +kernel
theorem dL_law_687 : decode cL_law 687 = .ok (.iadd, 1) := by decide +kernel
theorem dL_law_688 : decode cL_law 688 = .ok (.iaload, 1) := by decide +kernel
theorem dL_law_689 : decode cL_law 689 = .ok (.invokevirtual 90, 3) := by decide +kernel
theorem dL_law_692 : decode cL_law 692 = .ok (.aload_n 2, 1) := by decide +kernel
theorem dL_law_693 : decode cL_law 693 = .ok (.aload_n 0, 1) := by decide +kernel
theorem dL_law_694 : decode cL_law 694 = .ok (.iload_n 3, 1) := by decide +kernel
theorem dL_law_695 : decode cL_law 695 = .ok (.iconst 1, 1) := by decide +kernel
theorem dL_law_696 : decode cL_law 696 = .ok (.iadd, 1) := by decide +kernel
theorem dL_law_697 : decode cL_law 697 = .ok (.iaload, 1) := by decide +kernel
theorem dL_law_698 : decode cL_law 698 = .ok (.aload_n 0, 1) := by decide +kernel
theorem dL_law_699 : decode cL_law 699 = .ok (.iload_n 3, 1) := by decide +kernel
theorem dL_law_700 : decode cL_law 700 = .ok (.iconst 2, 1) := by decide +kernel
theorem dL_law_701 : decode cL_law 701 = .ok (.iadd, 1) := by decide +kernel
theorem dL_law_702 : decode cL_law 702 = .ok (.iaload, 1) := by decide +kernel
theorem dL_law_703 : decode cL_law 703 = .ok (.invokevirtual 93, 3) := by decide +kernel
theorem dL_law_706 : decode cL_law 706 = .ok (.if_icmp .eq 451, 3) := by decide +kernel
theorem dL_law_709 : decode cL_law 709 = .ok (.iconst 0, 1) := by decide +kernel
theorem dL_law_710 : decode cL_law 710 = .ok (.ireturn, 1) := by decide +kernel
theorem dL_law_711 : decode cL_law 711 = .ok (.aload_n 1, 1) := by decide +kernel
theorem dL_law_712 : decode cL_law 712 = .ok (.invokevirtual 94, 3) := by decide +kernel
theorem dL_law_715 : decode cL_law 715 = .ok (.aload_n 2, 1) := by decide +kernel
theorem dL_law_716 : decode cL_law 716 = .ok (.invokevirtual 97, 3) := by decide +kernel
theorem dL_law_719 : decode cL_law 719 = .ok (.if_icmp .eq 438, 3) := by decide +kernel
theorem dL_law_722 : decode cL_law 722 = .ok (.iconst 0, 1) := by decide +kernel
theorem dL_law_723 : decode cL_law 723 = .ok (.ireturn, 1) := by decide +kernel
theorem dL_law_724 : decode cL_law 724 = .ok (.aload_n 1, 1) := by decide +kernel
theorem dL_law_725 : decode cL_law 725 = .ok (.aload_n 0, 1) := by decide +kernel
theorem dL_law_726 : decode cL_law 726 = .ok (.iload_n 3, 1) := by decide +kernel
theorem dL_law_727 : decode cL_law 727 = .ok (.iconst 1, 1) := by decide +kernel
theorem dL_law_728 : decode cL_law 728 = .ok (.iadd, 1) := by decide +kernel
theorem dL_law_729 : decode cL_law 729 = .ok (.iaload, 1) := by decide +kernel
theorem dL_law_730 : decode cL_law 730 = .ok (.invokevirtual 98, 3) := by decide +kernel
theorem dL_law_733 : decode cL_law 733 = .ok (.aload_n 2, 1) := by decide +kernel
theorem dL_law_734 : decode cL_law 734 = .ok (.aload_n 0, 1) := by decide +kernel
theorem dL_law_735 : decode cL_law 735 = .ok (.iload_n 3, 1) := by decide +kernel
theorem dL_law_736 : decode cL_law 736 = .ok (.iconst 1, 1) := by decide +kernel
theorem dL_law_737 : decode cL_law 737 = .ok (.iadd, 1) := by decide +kernel
theorem dL_law_738 : decode cL_law 738 = .ok (.iaload, 1) := by decide +kernel
theorem dL_law_739 : decode cL_law 739 = .ok (.invokevirtual 101, 3) := by decide +kernel
theorem dL_law_742 : decode cL_law 742 = .ok (.if_icmp .eq 415, 3) := by decide +kernel
theorem dL_law_745 : decode cL_law 745 = .ok (.iconst 0, 1) := by decide +kernel
theorem dL_law_746 : decode cL_law 746 = .ok (.ireturn, 1) := by decide +kernel
theorem dL_law_747 : decode cL_law 747 = .ok (.aload_n 1, 1) := by decide +kernel
theorem dL_law_748 : decode cL_law 748 = .ok (.aload_n 0, 1) := by decide +kernel
theorem dL_law_749 : decode cL_law 749 = .ok (.iload_n 3, 1) := by decide +kernel
theorem dL_law_750 : decode cL_law 750 = .ok (.iconst 1, 1) := by decide +kernel
theorem dL_law_751 : decode cL_law 751 = .ok (.iadd, 1) := by decide +kernel
theorem dL_law_752 : decode cL_law 752 = .ok (.iaload, 1) := by decide +kernel
theorem dL_law_753 : decode cL_law 753 = .ok (.aload_n 0, 1) := by decide +kernel
theorem dL_law_754 : decode cL_law 754 = .ok (.iload_n 3, 1) := by decide +kernel
theorem dL_law_755 : decode cL_law 755 = .ok (.iconst 2, 1) := by decide +kernel
theorem dL_law_756 : decode cL_law 756 = .ok (.iadd, 1) := by decide +kernel
theorem dL_law_757 : decode cL_law 757 = .ok (.iaload, 1) := by decide +kernel
theorem dL_law_758 : decode cL_law 758 = .ok (.invokevirtual 102, 3) := by decide +kernel
theorem dL_law_761 : decode cL_law 761 = .ok (.aload_n 2, 1) := by decide +kernel
theorem dL_law_762 : decode cL_law 762 = .ok (.aload_n 0, 1) := by decide +kernel
theorem dL_law_763 : decode cL_law 763 = .ok (.iload_n 3, 1) := by decide +kernel
theorem dL_law_764 : decode cL_law 764 = .ok (.iconst 1, 1) := by decide +kernel
theorem dL_law_765 : decode cL_law 765 = .ok (.iadd, 1) := by decide +kernel
theorem dL_law_766 : decode cL_law 766 = .ok (.iaload, 1) := by decide +kernel
theorem dL_law_767 : decode cL_law 767 = .ok (.aload_n 0, 1) := by decide +kernel
theorem dL_law_768 : decode cL_law 768 = .ok (.iload_n 3, 1) := by decide +kernel
theorem dL_law_769 : decode cL_law 769 = .ok (.iconst 2, 1) := by decide +kernel
theorem dL_law_770 : decode cL_law 770 = .ok (.iadd, 1) := by decide +kernel
theorem dL_law_771 : decode cL_law 771 = .ok (.iaload, 1) := by decide +kernel
theorem dL_law_772 : decode cL_law 772 = .ok (.invokevirtual 105, 3) := by decide +kernel
theorem dL_law_775 : decode cL_law 775 = .ok (.if_icmp .eq 382, 3) := by decide +kernel
theorem dL_law_778 : decode cL_law 778 = .ok (.iconst 0, 1) := by decide +kernel
theorem dL_law_779 : decode cL_law 779 = .ok (.ireturn, 1) := by decide +kernel
theorem dL_law_780 : decode cL_law 780 = .ok (.aload_n 1, 1) := by decide +kernel
theorem dL_law_781 : decode cL_law 781 = .ok (.aload_n 0, 1) := by decide +kernel
theorem dL_law_782 : decode cL_law 782 = .ok (.iload_n 3, 1) := by decide +kernel
theorem dL_law_783 : decode cL_law 783 = .ok (.iconst 1, 1) := by decide +kernel
theorem dL_law_784 : decode cL_law 784 = .ok (.iadd, 1) := by decide +kernel
theorem dL_law_785 : decode cL_law 785 = .ok (.iaload, 1) := by decide +kernel
theorem dL_law_786 : decode cL_law 786 = .ok (.aload_n 0, 1) := by decide +kernel
theorem dL_law_787 : decode cL_law 787 = .ok (.iload_n 3, 1) := by decide +kernel
theorem dL_law_788 : decode cL_law 788 = .ok (.iconst 2, 1) := by decide +kernel
theorem dL_law_789 : decode cL_law 789 = .ok (.iadd, 1) := by decide +kernel
theorem dL_law_790 : decode cL_law 790 = .ok (.iaload, 1) := by decide +kernel
theorem dL_law_791 : decode cL_law 791 = .ok (.aload_n 0, 1) := by decide +kernel
theorem dL_law_792 : decode cL_law 792 = .ok (.iload_n 3, 1) := by decide +kernel
theorem dL_law_793 : decode cL_law 793 = .ok (.iconst 3, 1) := by decide +kernel
theorem dL_law_794 : decode cL_law 794 = .ok (.iadd, 1) := by decide +kernel
theorem dL_law_795 : decode cL_law 795 = .ok (.iaload, 1) := by decide +kernel
theorem dL_law_796 : decode cL_law 796 = .ok (.invokevirtual 106, 3) := by decide +kernel
theorem dL_law_799 : decode cL_law 799 = .ok (.aload_n 2, 1) := by decide +kernel
theorem dL_law_800 : decode cL_law 800 = .ok (.aload_n 0, 1) := by decide +kernel
theorem dL_law_801 : decode cL_law 801 = .ok (.iload_n 3, 1) := by decide +kernel
theorem dL_law_802 : decode cL_law 802 = .ok (.iconst 1, 1) := by decide +kernel
theorem dL_law_803 : decode cL_law 803 = .ok (.iadd, 1) := by decide +kernel
theorem dL_law_804 : decode cL_law 804 = .ok (.iaload, 1) := by decide +kernel
theorem dL_law_805 : decode cL_law 805 = .ok (.aload_n 0, 1) := by decide +kernel
theorem dL_law_806 : decode cL_law 806 = .ok (.iload_n 3, 1) := by decide +kernel
theorem dL_law_807 : decode cL_law 807 = .ok (.iconst 2, 1) := by decide +kernel
theorem dL_law_808 : decode cL_law 808 = .ok (.iadd, 1) := by decide +kernel
theorem dL_law_809 : decode cL_law 809 = .ok (.iaload, 1) := by decide +kernel
theorem dL_law_810 : decode cL_law 810 = .ok (.aload_n 0, 1) := by decide +kernel
theorem dL_law_811 : decode cL_law 811 = .ok (.iload_n 3, 1) := by decide +kernel
theorem dL_law_812 : decode cL_law 812 = .ok (.iconst 3, 1) := by decide +kernel
theorem dL_law_813 : decode cL_law 813 = .ok (.iadd, 1) := by decide +kernel
theorem dL_law_814 : decode cL_law 814 = .ok (.iaload, 1) := by decide +kernel
theorem dL_law_815 : decode cL_law 815 = .ok (.invokevirtual 109, 3) := by decide +kernel
theorem dL_law_818 : decode cL_law 818 = .ok (.if_icmp .eq 339, 3) := by decide +kernel
theorem dL_law_821 : decode cL_law 821 = .ok (.iconst 0, 1) := by decide +kernel
theorem dL_law_822 : decode cL_law 822 = .ok (.ireturn, 1) := by decide +kernel
theorem dL_law_823 : decode cL_law 823 = .ok (.aload_n 1, 1) := by decide +kernel
theorem dL_law_824 : decode cL_law 824 = .ok (.aload_n 0, 1) := by decide +kernel
theorem dL_law_825 : decode cL_law 825 = .ok (.iload_n 3, 1) := by decide +kernel
theorem dL_law_826 : decode cL_law 826 = .ok (.iconst 1, 1) := by decide +kernel
theorem dL_law_827 : decode cL_law 827 = .ok (.iadd, 1) := by decide +kernel
theorem dL_law_828 : decode cL_law 828 = .ok (.iaload, 1) := by decide +kernel
theorem dL_law_829 : decode cL_law 829 = .ok (.aload_n 0, 1) := by decide +kernel
theorem dL_law_830 : decode cL_law 830 = .ok (.iload_n 3, 1) := by decide +kernel
theorem dL_law_831 : decode cL_law 831 = .ok (.iconst 2, 1) := by decide +kernel
theorem dL_law_832 : decode cL_law 832 = .ok (.iadd, 1) := by decide +kernel
theorem dL_law_833 : decode cL_law 833 = .ok (.iaload, 1) := by decide +kernel
theorem dL_law_834 : decode cL_law 834 = .ok (.invokevirtual 110, 3) := by decide +kernel
theorem dL_law_837 : decode cL_law 837 = .ok (.aload_n 2, 1) := by decide +kernel
theorem dL_law_838 : decode cL_law 838 = .ok (.aload_n 0, 1) := by decide +kernel
theorem dL_law_839 : decode cL_law 839 = .ok (.iload_n 3, 1) := by decide +kernel
theorem dL_law_840 : decode cL_law 840 = .ok (.iconst 1, 1) := by decide +kernel
theorem dL_law_841 : decode cL_law 841 = .ok (.iadd, 1) := by decide +kernel
theorem dL_law_842 : decode cL_law 842 = .ok (.iaload, 1) := by decide +kernel
theorem dL_law_843 : decode cL_law 843 = .ok (.aload_n 0, 1) := by decide +kernel
theorem dL_law_844 : decode cL_law 844 = .ok (.iload_n 3, 1) := by decide +kernel
theorem dL_law_845 : decode cL_law 845 = .ok (.iconst 2, 1) := by decide +kernel
theorem dL_law_846 : decode cL_law 846 = .ok (.iadd, 1) := by decide +kernel
theorem dL_law_847 : decode cL_law 847 = .ok (.iaload, 1) := by decide +kernel
theorem dL_law_848 : decode cL_law 848 = .ok (.invokevirtual 113, 3) := by decide +kernel
theorem dL_law_851 : decode cL_law 851 = .ok (.if_icmp .eq 306, 3) := by decide +kernel
theorem dL_law_854 : decode cL_law 854 = .ok (.iconst 0, 1) := by decide +kernel
theorem dL_law_855 : decode cL_law 855 = .ok (.ireturn, 1) := by decide +kernel
theorem dL_law_856 : decode cL_law 856 = .ok (.aload_n 1, 1) := by decide +kernel
theorem dL_law_857 : decode cL_law 857 = .ok (.aload_n 0, 1) := by decide +kernel
theorem dL_law_858 : decode cL_law 858 = .ok (.iload_n 3, 1) := by decide +kernel
theorem dL_law_859 : decode cL_law 859 = .ok (.iconst 1, 1) := by decide +kernel
theorem dL_law_860 : decode cL_law 860 = .ok (.iadd, 1) := by decide +kernel
theorem dL_law_861 : decode cL_law 861 = .ok (.iaload, 1) := by decide +kernel
theorem dL_law_862 : decode cL_law 862 = .ok (.aload_n 0, 1) := by decide +kernel
theorem dL_law_863 : decode cL_law 863 = .ok (.iload_n 3, 1) := by decide +kernel
theorem dL_law_864 : decode cL_law 864 = .ok (.iconst 2, 1) := by decide +kernel
theorem dL_law_865 : decode cL_law 865 = .ok (.iadd, 1) := by decide +kernel
theorem dL_law_866 : decode cL_law 866 = .ok (.iaload, 1) := by decide +kernel
theorem dL_law_867 : decode cL_law 867 = .ok (.invokevirtual 114, 3) := by decide +kernel
theorem dL_law_870 : decode cL_law 870 = .ok (.aload_n 2, 1) := by decide +kernel
theorem dL_law_871 : decode cL_law 871 = .ok (.aload_n 0, 1) := by decide +kernel
theorem dL_law_872 : decode cL_law 872 = .ok (.iload_n 3, 1) := by decide +kernel
theorem dL_law_873 : decode cL_law 873 = .ok (.iconst 1, 1) := by decide +kernel
theorem dL_law_874 : decode cL_law 874 = .ok (.iadd, 1) := by decide +kernel
theorem dL_law_875 : decode cL_law 875 = .ok (.iaload, 1) := by decide +kernel
theorem dL_law_876 : decode cL_law 876 = .ok (.aload_n 0, 1) := by decide +kernel
theorem dL_law_877 : decode cL_law 877 = .ok (.iload_n 3, 1) := by decide +kernel
theorem dL_law_878 : decode cL_law 878 = .ok (.iconst 2, 1) := by decide +kernel
theorem dL_law_879 : decode cL_law 879 = .ok (.iadd, 1) := by decide +kernel
theorem dL_law_880 : decode cL_law 880 = .ok (.iaload, 1) := by decide +kernel
theorem dL_law_881 : decode cL_law 881 = .ok (.invokevirtual 117, 3) := by decide +kernel
theorem dL_law_884 : decode cL_law 884 = .ok (.if_icmp .eq 273, 3) := by decide +kernel
theorem dL_law_887 : decode cL_law 887 = .ok (.iconst 0, 1) := by decide +kernel
theorem dL_law_888 : decode cL_law 888 = .ok (.ireturn, 1) := by decide +kernel
theorem dL_law_889 : decode cL_law 889 = .ok (.aload_n 1, 1) := by decide +kernel
theorem dL_law_890 : decode cL_law 890 = .ok (.aload_n 0, 1) := by decide +kernel
theorem dL_law_891 : decode cL_law 891 = .ok (.iload_n 3, 1) := by decide +kernel
theorem dL_law_892 : decode cL_law 892 = .ok (.iconst 1, 1) := by decide +kernel
theorem dL_law_893 : decode cL_law 893 = .ok (.iadd, 1) := by decide +kernel
theorem dL_law_894 : decode cL_law 894 = .ok (.iaload, 1) := by decide +kernel
theorem dL_law_895 : decode cL_law 895 = .ok (.invokevirtual 118, 3) := by decide +kernel
theorem dL_law_898 : decode cL_law 898 = .ok (.aload_n 2, 1) := by decide +kernel
theorem dL_law_899 : decode cL_law 899 = .ok (.aload_n 0, 1) := by decide +kernel
theorem dL_law_900 : decode cL_law 900 = .ok (.iload_n 3, 1) := by decide +kernel
theorem dL_law_901 : decode cL_law 901 = .ok (.iconst 1, 1) := by decide +kernel
theorem dL_law_902 : decode cL_law 902 = .ok (.iadd, 1) := by decide +kernel
theorem dL_law_903 : decode cL_law 903 = .ok (.iaload, 1) := by decide +kernel
theorem dL_law_904 : decode cL_law 904 = .ok (.invokevirtual 121, 3) := by decide +kernel
theorem dL_law_907 : decode cL_law 907 = .ok (.if_icmp .eq 250, 3) := by decide +kernel
theorem dL_law_910 : decode cL_law 910 = .ok (.iconst 0, 1) := by decide +kernel
theorem dL_law_911 : decode cL_law 911 = .ok (.ireturn, 1) := by decide +kernel
theorem dL_law_912 : decode cL_law 912 = .ok (.aload_n 1, 1) := by decide +kernel
theorem dL_law_913 : decode cL_law 913 = .ok (.aload_n 0, 1) := by decide +kernel
theorem dL_law_914 : decode cL_law 914 = .ok (.iload_n 3, 1) := by decide +kernel
theorem dL_law_915 : decode cL_law 915 = .ok (.iconst 1, 1) := by decide +kernel
theorem dL_law_916 : decode cL_law 916 = .ok (.iadd, 1) := by decide +kernel
theorem dL_law_917 : decode cL_law 917 = .ok (.iaload, 1) := by decide +kernel
theorem dL_law_918 : decode cL_law 918 = .ok (.aload_n 0, 1) := by decide +kernel
theorem dL_law_919 : decode cL_law 919 = .ok (.iload_n 3, 1) := by decide +kernel
theorem dL_law_920 : decode cL_law 920 = .ok (.iconst 2, 1) := by decide +kernel
theorem dL_law_921 : decode cL_law 921 = .ok (.iadd, 1) := by decide +kernel
theorem dL_law_922 : decode cL_law 922 = .ok (.iaload, 1) := by decide +kernel
theorem dL_law_923 : decode cL_law 923 = .ok (.aload_n 0, 1) := by decide +kernel
theorem dL_law_924 : decode cL_law 924 = .ok (.iload_n 3, 1) := by decide +kernel
theorem dL_law_925 : decode cL_law 925 = .ok (.iconst 3, 1) := by decide +kernel
theorem dL_law_926 : decode cL_law 926 = .ok (.iadd, 1) := by decide +kernel
theorem dL_law_927 : decode cL_law 927 = .ok (.iaload, 1) := by decide +kernel
theorem dL_law_928 : decode cL_law 928 = .ok (.aload_n 0, 1) := by decide +kernel
theorem dL_law_929 : decode cL_law 929 = .ok (.iload_n 3, 1) := by decide +kernel
theorem dL_law_930 : decode cL_law 930 = .ok (.iconst 4, 1) := by decide +kernel
theorem dL_law_931 : decode cL_law 931 = .ok (.iadd, 1) := by decide +kernel
theorem dL_law_932 : decode cL_law 932 = .ok (.iaload, 1) := by decide +kernel
theorem dL_law_933 : decode cL_law 933 = .ok (.invokevirtual 122, 3) := by decide +kernel
theorem dL_law_936 : decode cL_law 936 = .ok (.aload_n 2, 1) := by decide +kernel
theorem dL_law_937 : decode cL_law 937 = .ok (.aload_n 0, 1) := by decide +kernel
theorem dL_law_938 : decode cL_law 938 = .ok (.iload_n 3, 1) := by decide +kernel
theorem dL_law_939 : decode cL_law 939 = .ok (.iconst 1, 1) := by decide +kernel
theorem dL_law_940 : decode cL_law 940 = .ok (.iadd, 1) := by decide +kernel
theorem dL_law_941 : decode cL_law 941 = .ok (.iaload, 1) := by decide +kernel
theorem dL_law_942 : decode cL_law 942 = .ok (.aload_n 0, 1) := by decide +kernel
theorem dL_law_943 : decode cL_law 943 = .ok (.iload_n 3, 1) := by decide +kernel
theorem dL_law_944 : decode cL_law 944 = .ok (.iconst 2, 1) := by decide +kernel
theorem dL_law_945 : decode cL_law 945 = .ok (.iadd, 1) := by decide +kernel
theorem dL_law_946 : decode cL_law 946 = .ok (.iaload, 1) := by decide +kernel
theorem dL_law_947 : decode cL_law 947 = .ok (.aload_n 0, 1) := by decide +kernel
theorem dL_law_948 : decode cL_law 948 = .ok (.iload_n 3, 1) := by decide +kernel
theorem dL_law_949 : decode cL_law 949 = .ok (.iconst 3, 1) := by decide +kernel
theorem dL_law_950 : decode cL_law 950 = .ok (.iadd, 1) := by decide +kernel
theorem dL_law_951 : decode cL_law 951 = .ok (.iaload, 1) := by decide +kernel
theorem dL_law_952 : decode cL_law 952 = .ok (.aload_n 0, 1) := by decide +kernel
theorem dL_law_953 : decode cL_law 953 = .ok (.iload_n 3, 1) := by decide +kernel
theorem dL_law_954 : decode cL_law 954 = .ok (.iconst 4, 1) := by decide +kernel
theorem dL_law_955 : decode cL_law 955 = .ok (.iadd, 1) := by decide +kernel
theorem dL_law_956 : decode cL_law 956 = .ok (.iaload, 1) := by decide +kernel
theorem dL_law_957 : decode cL_law 957 = .ok (.invokevirtual 125, 3) := by decide +kernel
theorem dL_law_960 : decode cL_law 960 = .ok (.if_icmp .eq 197, 3) := by decide +kernel
theorem dL_law_963 : decode cL_law 963 = .ok (.iconst 0, 1) := by decide +kernel
theorem dL_law_964 : decode cL_law 964 = .ok (.ireturn, 1) := by decide +kernel
theorem dL_law_965 : decode cL_law 965 = .ok (.aload_n 1, 1) := by decide +kernel
theorem dL_law_966 : decode cL_law 966 = .ok (.invokevirtual 126, 3) := by decide +kernel
theorem dL_law_969 : decode cL_law 969 = .ok (.aload_n 2, 1) := by decide +kernel
theorem dL_law_970 : decode cL_law 970 = .ok (.invokevirtual 129, 3) := by decide +kernel
theorem dL_law_973 : decode cL_law 973 = .ok (.if_icmp .eq 184, 3) := by decide +kernel
theorem dL_law_976 : decode cL_law 976 = .ok (.iconst 0, 1) := by decide +kernel
theorem dL_law_977 : decode cL_law 977 = .ok (.ireturn, 1) := by decide +kernel
theorem dL_law_978 : decode cL_law 978 = .ok (.aload_n 1, 1) := by decide +kernel
theorem dL_law_979 : decode cL_law 979 = .ok (.aload_n 0, 1) := by decide +kernel
theorem dL_law_980 : decode cL_law 980 = .ok (.iload_n 3, 1) := by decide +kernel
theorem dL_law_981 : decode cL_law 981 = .ok (.iconst 1, 1) := by decide +kernel
theorem dL_law_982 : decode cL_law 982 = .ok (.iadd, 1) := by decide +kernel
theorem dL_law_983 : decode cL_law 983 = .ok (.iaload, 1) := by decide +kernel
theorem dL_law_984 : decode cL_law 984 = .ok (.invokevirtual 130, 3) := by decide +kernel
theorem dL_law_987 : decode cL_law 987 = .ok (.aload_n 2, 1) := by decide +kernel
theorem dL_law_988 : decode cL_law 988 = .ok (.aload_n 0, 1) := by decide +kernel
theorem dL_law_989 : decode cL_law 989 = .ok (.iload_n 3, 1) := by decide +kernel
theorem dL_law_990 : decode cL_law 990 = .ok (.iconst 1, 1) := by decide +kernel
theorem dL_law_991 : decode cL_law 991 = .ok (.iadd, 1) := by decide +kernel
theorem dL_law_992 : decode cL_law 992 = .ok (.iaload, 1) := by decide +kernel
theorem dL_law_993 : decode cL_law 993 = .ok (.invokevirtual 133, 3) := by decide +kernel
theorem dL_law_996 : decode cL_law 996 = .ok (.if_icmp .eq 161, 3) := by decide +kernel
theorem dL_law_999 : decode cL_law 999 = .ok (.iconst 0, 1) := by decide +kernel
theorem dL_law_1000 : decode cL_law 1000 = .ok (.ireturn, 1) := by decide +kernel
theorem dL_law_1001 : decode cL_law 1001 = .ok (.aload_n 1, 1) := by decide +kernel
theorem dL_law_1002 : decode cL_law 1002 = .ok (.aload_n 0, 1) := by decide +kernel
theorem dL_law_1003 : decode cL_law 1003 = .ok (.iload_n 3, 1) := by decide +kernel
theorem dL_law_1004 : decode cL_law 1004 = .ok (.iconst 1, 1) := by decide +kernel
theorem dL_law_1005 : decode cL_law 1005 = .ok (.iadd, 1) := by decide +kernel
theorem dL_law_1006 : decode cL_law 1006 = .ok (.iaload, 1) := by decide +kernel
theorem dL_law_1007 : decode cL_law 1007 = .ok (.aload_n 0, 1) := by decide +kernel
theorem dL_law_1008 : decode cL_law 1008 = .ok (.iload_n 3, 1) := by decide +kernel
theorem dL_law_1009 : decode cL_law 1009 = .ok (.iconst 2, 1) := by decide +kernel
theorem dL_law_1010 : decode cL_law 1010 = .ok (.iadd, 1) := by decide +kernel
theorem dL_law_1011 : decode cL_law 1011 = .ok (.iaload, 1) := by decide +kernel
theorem dL_law_1012 : decode cL_law 1012 = .ok (.aload_n 0, 1) := by decide +kernel
theorem dL_law_1013 : decode cL_law 1013 = .ok (.iload_n 3, 1) := by decide +kernel
theorem dL_law_1014 : decode cL_law 1014 = .ok (.iconst 3, 1) := by decide +kernel
theorem dL_law_1015 : decode cL_law 1015 = .ok (.iadd, 1) := by decide +kernel
theorem dL_law_1016 : decode cL_law 1016 = .ok (.iaload, 1) := by decide +kernel
theorem dL_law_1017 : decode cL_law 1017 = .ok (.aload_n 0, 1) := by decide +kernel
theorem dL_law_1018 : decode cL_law 1018 = .ok (.iload_n 3, 1) := by decide +kernel
theorem dL_law_1019 : decode cL_law 1019 = .ok (.iconst 4, 1) := by decide +kernel
theorem dL_law_1020 : decode cL_law 1020 = .ok (.iadd, 1) := by decide +kernel
theorem dL_law_1021 : decode cL_law 1021 = .ok (.iaload, 1) := by decide +kernel
theorem dL_law_1022 : decode cL_law 1022 = .ok (.aload_n 0, 1) := by decide +kernel
theorem dL_law_1023 : decode cL_law 1023 = .ok (.iload_n 3, 1) := by decide +kernel
theorem dL_law_1024 : decode cL_law 1024 = .ok (.iconst 5, 1) := by decide +kernel
theorem dL_law_1025 : decode cL_law 1025 = .ok (.iadd, 1) := by decide +kernel
theorem dL_law_1026 : decode cL_law 1026 = .ok (.iaload, 1) := by decide +kernel
theorem dL_law_1027 : decode cL_law 1027 = .ok (.invokevirtual 134, 3) := by decide +kernel
theorem dL_law_1030 : decode cL_law 1030 = .ok (.aload_n 2, 1) := by decide +kernel
theorem dL_law_1031 : decode cL_law 1031 = .ok (.aload_n 0, 1) := by decide +kernel
theorem dL_law_1032 : decode cL_law 1032 = .ok (.iload_n 3, 1) := by decide +kernel
theorem dL_law_1033 : decode cL_law 1033 = .ok (.iconst 1, 1) := by decide +kernel
theorem dL_law_1034 : decode cL_law 1034 = .ok (.iadd, 1) := by decide +kernel
theorem dL_law_1035 : decode cL_law 1035 = .ok (.iaload, 1) := by decide +kernel
theorem dL_law_1036 : decode cL_law 1036 = .ok (.aload_n 0, 1) := by decide +kernel
theorem dL_law_1037 : decode cL_law 1037 = .ok (.iload_n 3, 1) := by decide +kernel
theorem dL_law_1038 : decode cL_law 1038 = .ok (.iconst 2, 1) := by decide +kernel
theorem dL_law_1039 : decode cL_law 1039 = .ok (.iadd, 1) := by decide +kernel
theorem dL_law_1040 : decode cL_law 1040 = .ok (.iaload, 1) := by decide +kernel
theorem dL_law_1041 : decode cL_law 1041 = .ok (.aload_n 0, 1) := by decide +kernel
theorem dL_law_1042 : decode cL_law 1042 = .ok (.iload_n 3, 1) := by decide +kernel
theorem dL_law_1043 : decode cL_law 1043 = .ok (.iconst 3, 1) := by decide +kernel
theorem dL_law_1044 : decode cL_law 1044 = .ok (.iadd, 1) := by decide +kernel
theorem dL_law_1045 : decode cL_law 1045 = .ok (.iaload, 1) := by decide +kernel
theorem dL_law_1046 : decode cL_law 1046 = .ok (.aload_n 0, 1) := by decide +kernel
theorem dL_law_1047 : decode cL_law 1047 = .ok (.iload_n 3, 1) := by decide +kernel
theorem dL_law_1048 : decode cL_law 1048 = .ok (.iconst 4, 1) := by decide +kernel
theorem dL_law_1049 : decode cL_law 1049 = .ok (.iadd, 1) := by decide +kernel
theorem dL_law_1050 : decode cL_law 1050 = .ok (.iaload, 1) := by decide +kernel
theorem dL_law_1051 : decode cL_law 1051 = .ok (.aload_n 0, 1) := by decide +kernel
theorem dL_law_1052 : decode cL_law 1052 = .ok (.iload_n 3, 1) := by decide +kernel
theorem dL_law_1053 : decode cL_law 1053 = .ok (.iconst 5, 1) := by decide +kernel
theorem dL_law_1054 : decode cL_law 1054 = .ok (.iadd, 1) := by decide +kernel
theorem dL_law_1055 : decode cL_law 1055 = .ok (.iaload, 1) := by decide +kernel
theorem dL_law_1056 : decode cL_law 1056 = .ok (.invokevirtual 138, 3) := by decide +kernel
theorem dL_law_1059 : decode cL_law 1059 = .ok (.lcmp, 1) := by decide +kernel
theorem dL_law_1060 : decode cL_law 1060 = .ok (.ifCond .eq 97, 3) := by decide +kernel
theorem dL_law_1063 : decode cL_law 1063 = .ok (.iconst 0, 1) := by decide +kernel
theorem dL_law_1064 : decode cL_law 1064 = .ok (.ireturn, 1) := by decide +kernel
theorem dL_law_1065 : decode cL_law 1065 = .ok (.aload_n 1, 1) := by decide +kernel
theorem dL_law_1066 : decode cL_law 1066 = .ok (.aload_n 0, 1) := by decide +kernel
theorem dL_law_1067 : decode cL_law 1067 = .ok (.iload_n 3, 1) := by decide +kernel
theorem dL_law_1068 : decode cL_law 1068 = .ok (.iconst 1, 1) := by decide +kernel
theorem dL_law_1069 : decode cL_law 1069 = .ok (.iadd, 1) := by decide +kernel
theorem dL_law_1070 : decode cL_law 1070 = .ok (.iaload, 1) := by decide +kernel
theorem dL_law_1071 : decode cL_law 1071 = .ok (.aload_n 0, 1) := by decide +kernel
theorem dL_law_1072 : decode cL_law 1072 = .ok (.iload_n 3, 1) := by decide +kernel
theorem dL_law_1073 : decode cL_law 1073 = .ok (.iconst 2, 1) := by decide +kernel
theorem dL_law_1074 : decode cL_law 1074 = .ok (.iadd, 1) := by decide +kernel
theorem dL_law_1075 : decode cL_law 1075 = .ok (.iaload, 1) := by decide +kernel
theorem dL_law_1076 : decode cL_law 1076 = .ok (.aload_n 0, 1) := by decide +kernel
theorem dL_law_1077 : decode cL_law 1077 = .ok (.iload_n 3, 1) := by decide +kernel
theorem dL_law_1078 : decode cL_law 1078 = .ok (.iconst 3, 1) := by decide +kernel
theorem dL_law_1079 : decode cL_law 1079 = .ok (.iadd, 1) := by decide +kernel
theorem dL_law_1080 : decode cL_law 1080 = .ok (.iaload, 1) := by decide +kernel
theorem dL_law_1081 : decode cL_law 1081 = .ok (.invokevirtual 139, 3) := by decide +kernel
theorem dL_law_1084 : decode cL_law 1084 = .ok (.aload_n 2, 1) := by decide +kernel
theorem dL_law_1085 : decode cL_law 1085 = .ok (.aload_n 0, 1) := by decide +kernel
theorem dL_law_1086 : decode cL_law 1086 = .ok (.iload_n 3, 1) := by decide +kernel
theorem dL_law_1087 : decode cL_law 1087 = .ok (.iconst 1, 1) := by decide +kernel
theorem dL_law_1088 : decode cL_law 1088 = .ok (.iadd, 1) := by decide +kernel
theorem dL_law_1089 : decode cL_law 1089 = .ok (.iaload, 1) := by decide +kernel
theorem dL_law_1090 : decode cL_law 1090 = .ok (.aload_n 0, 1) := by decide +kernel
theorem dL_law_1091 : decode cL_law 1091 = .ok (.iload_n 3, 1) := by decide +kernel
theorem dL_law_1092 : decode cL_law 1092 = .ok (.iconst 2, 1) := by decide +kernel
theorem dL_law_1093 : decode cL_law 1093 = .ok (.iadd, 1) := by decide +kernel
theorem dL_law_1094 : decode cL_law 1094 = .ok (.iaload, 1) := by decide +kernel
theorem dL_law_1095 : decode cL_law 1095 = .ok (.aload_n 0, 1) := by decide +kernel
theorem dL_law_1096 : decode cL_law 1096 = .ok (.iload_n 3, 1) := by decide +kernel
theorem dL_law_1097 : decode cL_law 1097 = .ok (.iconst 3, 1) := by decide +kernel
theorem dL_law_1098 : decode cL_law 1098 = .ok (.iadd, 1) := by decide +kernel
theorem dL_law_1099 : decode cL_law 1099 = .ok (.iaload, 1) := by decide +kernel
theorem dL_law_1100 : decode cL_law 1100 = .ok (.invokevirtual 142, 3) := by decide +kernel
theorem dL_law_1103 : decode cL_law 1103 = .ok (.if_icmp .eq 54, 3) := by decide +kernel
theorem dL_law_1106 : decode cL_law 1106 = .ok (.iconst 0, 1) := by decide +kernel
theorem dL_law_1107 : decode cL_law 1107 = .ok (.ireturn, 1) := by decide +kernel
theorem dL_law_1108 : decode cL_law 1108 = .ok (.aload_n 1, 1) := by decide +kernel
theorem dL_law_1109 : decode cL_law 1109 = .ok (.invokevirtual 143, 3) := by decide +kernel
theorem dL_law_1112 : decode cL_law 1112 = .ok (.aload_n 2, 1) := by decide +kernel
theorem dL_law_1113 : decode cL_law 1113 = .ok (.invokevirtual 146, 3) := by decide +kernel
theorem dL_law_1116 : decode cL_law 1116 = .ok (.if_icmp .eq 41, 3) := by decide +kernel
theorem dL_law_1119 : decode cL_law 1119 = .ok (.iconst 0, 1) := by decide +kernel
theorem dL_law_1120 : decode cL_law 1120 = .ok (.ireturn, 1) := by decide +kernel
theorem dL_law_1121 : decode cL_law 1121 = .ok (.aload_n 1, 1) := by decide +kernel
theorem dL_law_1122 : decode cL_law 1122 = .ok (.invokevirtual 147, 3) := by decide +kernel
theorem dL_law_1125 : decode cL_law 1125 = .ok (.aload_n 2, 1) := by decide +kernel
theorem dL_law_1126 : decode cL_law 1126 = .ok (.invokevirtual 150, 3) := by decide +kernel
theorem dL_law_1129 : decode cL_law 1129 = .ok (.if_icmp .eq 28, 3) := by decide +kernel
theorem dL_law_1132 : decode cL_law 1132 = .ok (.iconst 0, 1) := by decide +kernel
theorem dL_law_1133 : decode cL_law 1133 = .ok (.ireturn, 1) := by decide +kernel
theorem dL_law_1134 : decode cL_law 1134 = .ok (.aload_n 1, 1) := by decide +kernel
theorem dL_law_1135 : decode cL_law 1135 = .ok (.aload_n 0, 1) := by decide +kernel
theorem dL_law_1136 : decode cL_law 1136 = .ok (.iload_n 3, 1) := by decide +kernel
theorem dL_law_1137 : decode cL_law 1137 = .ok (.iconst 1, 1) := by decide +kernel
theorem dL_law_1138 : decode cL_law 1138 = .ok (.iadd, 1) := by decide +kernel
theorem dL_law_1139 : decode cL_law 1139 = .ok (.iaload, 1) := by decide +kernel
theorem dL_law_1140 : decode cL_law 1140 = .ok (.invokevirtual 151, 3) := by decide +kernel
theorem dL_law_1143 : decode cL_law 1143 = .ok (.aload_n 2, 1) := by decide +kernel
theorem dL_law_1144 : decode cL_law 1144 = .ok (.aload_n 0, 1) := by decide +kernel
theorem dL_law_1145 : decode cL_law 1145 = .ok (.iload_n 3, 1) := by decide +kernel
theorem dL_law_1146 : decode cL_law 1146 = .ok (.iconst 1, 1) := by decide +kernel
theorem dL_law_1147 : decode cL_law 1147 = .ok (.iadd, 1) := by decide +kernel
theorem dL_law_1148 : decode cL_law 1148 = .ok (.iaload, 1) := by decide +kernel
theorem dL_law_1149 : decode cL_law 1149 = .ok (.invokevirtual 154, 3) := by decide +kernel
theorem dL_law_1152 : decode cL_law 1152 = .ok (.if_icmp .eq 5, 3) := by decide +kernel
theorem dL_law_1155 : decode cL_law 1155 = .ok (.iconst 0, 1) := by decide +kernel
theorem dL_law_1156 : decode cL_law 1156 = .ok (.ireturn, 1) := by decide +kernel
theorem dL_law_1157 : decode cL_law 1157 = .ok (.iinc 3 6, 3) := by decide +kernel
theorem dL_law_1160 : decode cL_law 1160 = .ok (.goto (-1142), 3) := by decide +kernel
theorem dL_law_1163 : decode cL_law 1163 = .ok (.iconst 1, 1) := by decide +kernel
theorem dL_law_1164 : decode cL_law 1164 = .ok (.ireturn, 1) := by decide +kernel
end
