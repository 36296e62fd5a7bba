section
/-- a private method of a class that the tables say can be made, by its rows of tables_1 -/
def lw_okq (q : MethodName × Nat) : Prop := (q.1.cls ≠ "java/lang/invoke/MethodHandle" ∧ q.1.cls ≠ "java/lang/invoke/VarHandle") ∧ Cond.instantiable q.1.cls q.2 ∈ tables_1 ∧ Cond.privateMethod q.1 ∈ tables_1 ∧ Cond.instanceMethod q.1 ∈ tables_1
theorem lw_p0 : lw_okq (⟨"WheatSea", "forgetAll", "()V"⟩, 13) := ⟨⟨by decide +kernel, by decide +kernel⟩, List.mem_of_getElem? (i := 20) (by decide +kernel), List.mem_of_getElem? (i := 272) (by decide +kernel), List.mem_of_getElem? (i := 273) (by decide +kernel)⟩
theorem lw_p1 : lw_okq (⟨"WheatSea", "digitAt", "(I)I"⟩, 13) := ⟨⟨by decide +kernel, by decide +kernel⟩, List.mem_of_getElem? (i := 20) (by decide +kernel), List.mem_of_getElem? (i := 276) (by decide +kernel), List.mem_of_getElem? (i := 277) (by decide +kernel)⟩
theorem lw_p2 : lw_okq (⟨"WheatSea", "isThere", "(I)Z"⟩, 13) := ⟨⟨by decide +kernel, by decide +kernel⟩, List.mem_of_getElem? (i := 20) (by decide +kernel), List.mem_of_getElem? (i := 288) (by decide +kernel), List.mem_of_getElem? (i := 289) (by decide +kernel)⟩
theorem lw_p3 : lw_okq (⟨"WheatSea", "hasPlain", "()Z"⟩, 13) := ⟨⟨by decide +kernel, by decide +kernel⟩, List.mem_of_getElem? (i := 20) (by decide +kernel), List.mem_of_getElem? (i := 292) (by decide +kernel), List.mem_of_getElem? (i := 293) (by decide +kernel)⟩
theorem lw_p4 : lw_okq (⟨"WheatSea", "hullsOn", "(I)I"⟩, 13) := ⟨⟨by decide +kernel, by decide +kernel⟩, List.mem_of_getElem? (i := 20) (by decide +kernel), List.mem_of_getElem? (i := 307) (by decide +kernel), List.mem_of_getElem? (i := 308) (by decide +kernel)⟩
theorem lw_p5 : lw_okq (⟨"WheatSea", "hullNumbered", "(I)LWheatSea$Hull;"⟩, 13) := ⟨⟨by decide +kernel, by decide +kernel⟩, List.mem_of_getElem? (i := 20) (by decide +kernel), List.mem_of_getElem? (i := 393) (by decide +kernel), List.mem_of_getElem? (i := 394) (by decide +kernel)⟩
theorem lw_p6 : lw_okq (⟨"WheatSea$Chart", "sailOnFrom", "(LWheatSea$Sea;LWheatSea$Hull;I)V"⟩, 2) := ⟨⟨by decide +kernel, by decide +kernel⟩, List.mem_of_getElem? (i := 90) (by decide +kernel), List.mem_of_getElem? (i := 518) (by decide +kernel), List.mem_of_getElem? (i := 519) (by decide +kernel)⟩
theorem lw_p7 : lw_okq (⟨"WheatSea$Chart", "arrive", "(III)V"⟩, 2) := ⟨⟨by decide +kernel, by decide +kernel⟩, List.mem_of_getElem? (i := 90) (by decide +kernel), List.mem_of_getElem? (i := 524) (by decide +kernel), List.mem_of_getElem? (i := 525) (by decide +kernel)⟩
theorem lw_p8 : lw_okq (⟨"WheatSea$Chart", "soonestOpen", "(I)I"⟩, 2) := ⟨⟨by decide +kernel, by decide +kernel⟩, List.mem_of_getElem? (i := 90) (by decide +kernel), List.mem_of_getElem? (i := 528) (by decide +kernel), List.mem_of_getElem? (i := 529) (by decide +kernel)⟩
theorem lw_p9 : lw_okq (⟨"WheatSea$Homecoming", "hullIn", "([LWheatSea$Hull;II)LWheatSea$Hull;"⟩, 3) := ⟨⟨by decide +kernel, by decide +kernel⟩, List.mem_of_getElem? (i := 103) (by decide +kernel), List.mem_of_getElem? (i := 554) (by decide +kernel), List.mem_of_getElem? (i := 555) (by decide +kernel)⟩
theorem lw_p10 : lw_okq (⟨"WheatSea$Homecoming", "numberIn", "(II)I"⟩, 3) := ⟨⟨by decide +kernel, by decide +kernel⟩, List.mem_of_getElem? (i := 103) (by decide +kernel), List.mem_of_getElem? (i := 558) (by decide +kernel), List.mem_of_getElem? (i := 559) (by decide +kernel)⟩
theorem lw_p11 : lw_okq (⟨"WheatSea$Seen", "lookUp", "(I)I"⟩, 6) := ⟨⟨by decide +kernel, by decide +kernel⟩, List.mem_of_getElem? (i := 30) (by decide +kernel), List.mem_of_getElem? (i := 592) (by decide +kernel), List.mem_of_getElem? (i := 593) (by decide +kernel)⟩
theorem lw_p12 : lw_okq (⟨"WheatSea$Seen", "goesOn", "(LWheatSea$Sea;LWheatSea$Hull;III)Z"⟩, 6) := ⟨⟨by decide +kernel, by decide +kernel⟩, List.mem_of_getElem? (i := 30) (by decide +kernel), List.mem_of_getElem? (i := 599) (by decide +kernel), List.mem_of_getElem? (i := 600) (by decide +kernel)⟩
theorem lw_p13 : lw_okq (⟨"WheatSea$Seen", "canBe", "(III)Z"⟩, 6) := ⟨⟨by decide +kernel, by decide +kernel⟩, List.mem_of_getElem? (i := 30) (by decide +kernel), List.mem_of_getElem? (i := 603) (by decide +kernel), List.mem_of_getElem? (i := 604) (by decide +kernel)⟩
theorem lw_p14 : lw_okq (⟨"WheatSea$Seen", "unseenBetween", "(II)Z"⟩, 6) := ⟨⟨by decide +kernel, by decide +kernel⟩, List.mem_of_getElem? (i := 30) (by decide +kernel), List.mem_of_getElem? (i := 609) (by decide +kernel), List.mem_of_getElem? (i := 610) (by decide +kernel)⟩
theorem lw_p15 : lw_okq (⟨"WheatSea$June", "drawn", "(I)I"⟩, 4) := ⟨⟨by decide +kernel, by decide +kernel⟩, List.mem_of_getElem? (i := 121) (by decide +kernel), List.mem_of_getElem? (i := 626) (by decide +kernel), List.mem_of_getElem? (i := 627) (by decide +kernel)⟩
def lw_privs_1 : List (MethodName × Nat) := [(⟨"WheatSea", "forgetAll", "()V"⟩, 13), (⟨"WheatSea", "digitAt", "(I)I"⟩, 13), (⟨"WheatSea", "isThere", "(I)Z"⟩, 13), (⟨"WheatSea", "hasPlain", "()Z"⟩, 13), (⟨"WheatSea", "hullsOn", "(I)I"⟩, 13), (⟨"WheatSea", "hullNumbered", "(I)LWheatSea$Hull;"⟩, 13), (⟨"WheatSea$Chart", "sailOnFrom", "(LWheatSea$Sea;LWheatSea$Hull;I)V"⟩, 2), (⟨"WheatSea$Chart", "arrive", "(III)V"⟩, 2), (⟨"WheatSea$Chart", "soonestOpen", "(I)I"⟩, 2), (⟨"WheatSea$Homecoming", "hullIn", "([LWheatSea$Hull;II)LWheatSea$Hull;"⟩, 3), (⟨"WheatSea$Homecoming", "numberIn", "(II)I"⟩, 3), (⟨"WheatSea$Seen", "lookUp", "(I)I"⟩, 6), (⟨"WheatSea$Seen", "goesOn", "(LWheatSea$Sea;LWheatSea$Hull;III)Z"⟩, 6), (⟨"WheatSea$Seen", "canBe", "(III)Z"⟩, 6), (⟨"WheatSea$Seen", "unseenBetween", "(II)Z"⟩, 6), (⟨"WheatSea$June", "drawn", "(I)I"⟩, 4)]
theorem lw_r1 : ∀ q ∈ lw_privs_1, lw_okq q := List.forall_mem_cons.mpr ⟨lw_p0, List.forall_mem_cons.mpr ⟨lw_p1, List.forall_mem_cons.mpr ⟨lw_p2, List.forall_mem_cons.mpr ⟨lw_p3, List.forall_mem_cons.mpr ⟨lw_p4, List.forall_mem_cons.mpr ⟨lw_p5, List.forall_mem_cons.mpr ⟨lw_p6, List.forall_mem_cons.mpr ⟨lw_p7, List.forall_mem_cons.mpr ⟨lw_p8, List.forall_mem_cons.mpr ⟨lw_p9, List.forall_mem_cons.mpr ⟨lw_p10, List.forall_mem_cons.mpr ⟨lw_p11, List.forall_mem_cons.mpr ⟨lw_p12, List.forall_mem_cons.mpr ⟨lw_p13, List.forall_mem_cons.mpr ⟨lw_p14, List.forall_mem_cons.mpr ⟨lw_p15, fun _ h => absurd h List.not_mem_nil⟩⟩⟩⟩⟩⟩⟩⟩⟩⟩⟩⟩⟩⟩⟩⟩
theorem lw_p16 : lw_okq (⟨"WheatSea$June", "afterSailing", "(LWheatSea$Sea;LWheatSea$Hull;II)I"⟩, 4) := ⟨⟨by decide +kernel, by decide +kernel⟩, List.mem_of_getElem? (i := 121) (by decide +kernel), List.mem_of_getElem? (i := 634) (by decide +kernel), List.mem_of_getElem? (i := 635) (by decide +kernel)⟩
theorem lw_p17 : lw_okq (⟨"WheatSea", "cutCells", "()I"⟩, 13) := ⟨⟨by decide +kernel, by decide +kernel⟩, List.mem_of_getElem? (i := 20) (by decide +kernel), List.mem_of_getElem? (i := 669) (by decide +kernel), List.mem_of_getElem? (i := 670) (by decide +kernel)⟩
theorem lw_p18 : lw_okq (⟨"WheatSea", "strandedHulls", "()I"⟩, 13) := ⟨⟨by decide +kernel, by decide +kernel⟩, List.mem_of_getElem? (i := 20) (by decide +kernel), List.mem_of_getElem? (i := 673) (by decide +kernel), List.mem_of_getElem? (i := 674) (by decide +kernel)⟩
theorem lw_p19 : lw_okq (⟨"WheatSea", "digestOfCells", "(J)J"⟩, 13) := ⟨⟨by decide +kernel, by decide +kernel⟩, List.mem_of_getElem? (i := 20) (by decide +kernel), List.mem_of_getElem? (i := 682) (by decide +kernel), List.mem_of_getElem? (i := 683) (by decide +kernel)⟩
theorem lw_p20 : lw_okq (⟨"WheatSea", "digestOfHull", "(JLWheatSea$Hull;I)J"⟩, 13) := ⟨⟨by decide +kernel, by decide +kernel⟩, List.mem_of_getElem? (i := 20) (by decide +kernel), List.mem_of_getElem? (i := 688) (by decide +kernel), List.mem_of_getElem? (i := 689) (by decide +kernel)⟩
theorem lw_p21 : lw_okq (⟨"WheatSeaModel", "faultOf", "()I"⟩, 28) := ⟨⟨by decide +kernel, by decide +kernel⟩, List.mem_of_getElem? (i := 694) (by decide +kernel), List.mem_of_getElem? (i := 801) (by decide +kernel), List.mem_of_getElem? (i := 802) (by decide +kernel)⟩
theorem lw_p22 : lw_okq (⟨"WheatSeaModel", "isCell", "(I)Z"⟩, 28) := ⟨⟨by decide +kernel, by decide +kernel⟩, List.mem_of_getElem? (i := 694) (by decide +kernel), List.mem_of_getElem? (i := 817) (by decide +kernel), List.mem_of_getElem? (i := 818) (by decide +kernel)⟩
theorem lw_p23 : lw_okq (⟨"WheatSeaModel", "lacks", "()Z"⟩, 28) := ⟨⟨by decide +kernel, by decide +kernel⟩, List.mem_of_getElem? (i := 694) (by decide +kernel), List.mem_of_getElem? (i := 822) (by decide +kernel), List.mem_of_getElem? (i := 823) (by decide +kernel)⟩
theorem lw_p24 : lw_okq (⟨"WheatSeaModel", "tellCell", "(II)I"⟩, 28) := ⟨⟨by decide +kernel, by decide +kernel⟩, List.mem_of_getElem? (i := 694) (by decide +kernel), List.mem_of_getElem? (i := 826) (by decide +kernel), List.mem_of_getElem? (i := 827) (by decide +kernel)⟩
theorem lw_p25 : lw_okq (⟨"WheatSeaModel", "highAt", "(III)I"⟩, 28) := ⟨⟨by decide +kernel, by decide +kernel⟩, List.mem_of_getElem? (i := 694) (by decide +kernel), List.mem_of_getElem? (i := 830) (by decide +kernel), List.mem_of_getElem? (i := 831) (by decide +kernel)⟩
theorem lw_p26 : lw_okq (⟨"WheatSeaModel", "hullsAt", "(I)I"⟩, 28) := ⟨⟨by decide +kernel, by decide +kernel⟩, List.mem_of_getElem? (i := 694) (by decide +kernel), List.mem_of_getElem? (i := 834) (by decide +kernel), List.mem_of_getElem? (i := 835) (by decide +kernel)⟩
theorem lw_p27 : lw_okq (⟨"WheatSeaModel", "isHull", "(I)Z"⟩, 28) := ⟨⟨by decide +kernel, by decide +kernel⟩, List.mem_of_getElem? (i := 694) (by decide +kernel), List.mem_of_getElem? (i := 856) (by decide +kernel), List.mem_of_getElem? (i := 857) (by decide +kernel)⟩
theorem lw_p28 : lw_okq (⟨"WheatSeaModel", "tell", "(II)I"⟩, 28) := ⟨⟨by decide +kernel, by decide +kernel⟩, List.mem_of_getElem? (i := 694) (by decide +kernel), List.mem_of_getElem? (i := 860) (by decide +kernel), List.mem_of_getElem? (i := 861) (by decide +kernel)⟩
theorem lw_p29 : lw_okq (⟨"WheatSeaModel", "hoursOf", "(IIIIII)I"⟩, 28) := ⟨⟨by decide +kernel, by decide +kernel⟩, List.mem_of_getElem? (i := 694) (by decide +kernel), List.mem_of_getElem? (i := 866) (by decide +kernel), List.mem_of_getElem? (i := 867) (by decide +kernel)⟩
theorem lw_p30 : lw_okq (⟨"WheatSeaModel", "floats", "(IIII)Z"⟩, 28) := ⟨⟨by decide +kernel, by decide +kernel⟩, List.mem_of_getElem? (i := 694) (by decide +kernel), List.mem_of_getElem? (i := 876) (by decide +kernel), List.mem_of_getElem? (i := 877) (by decide +kernel)⟩
theorem lw_p31 : lw_okq (⟨"WheatSeaModel", "isStranded", "(I)Z"⟩, 28) := ⟨⟨by decide +kernel, by decide +kernel⟩, List.mem_of_getElem? (i := 694) (by decide +kernel), List.mem_of_getElem? (i := 880) (by decide +kernel), List.mem_of_getElem? (i := 881) (by decide +kernel)⟩
def lw_privs_2 : List (MethodName × Nat) := [(⟨"WheatSea$June", "afterSailing", "(LWheatSea$Sea;LWheatSea$Hull;II)I"⟩, 4), (⟨"WheatSea", "cutCells", "()I"⟩, 13), (⟨"WheatSea", "strandedHulls", "()I"⟩, 13), (⟨"WheatSea", "digestOfCells", "(J)J"⟩, 13), (⟨"WheatSea", "digestOfHull", "(JLWheatSea$Hull;I)J"⟩, 13), (⟨"WheatSeaModel", "faultOf", "()I"⟩, 28), (⟨"WheatSeaModel", "isCell", "(I)Z"⟩, 28), (⟨"WheatSeaModel", "lacks", "()Z"⟩, 28), (⟨"WheatSeaModel", "tellCell", "(II)I"⟩, 28), (⟨"WheatSeaModel", "highAt", "(III)I"⟩, 28), (⟨"WheatSeaModel", "hullsAt", "(I)I"⟩, 28), (⟨"WheatSeaModel", "isHull", "(I)Z"⟩, 28), (⟨"WheatSeaModel", "tell", "(II)I"⟩, 28), (⟨"WheatSeaModel", "hoursOf", "(IIIIII)I"⟩, 28), (⟨"WheatSeaModel", "floats", "(IIII)Z"⟩, 28), (⟨"WheatSeaModel", "isStranded", "(I)Z"⟩, 28)]
theorem lw_r2 : ∀ q ∈ lw_privs_2, lw_okq q := List.forall_mem_cons.mpr ⟨lw_p16, List.forall_mem_cons.mpr ⟨lw_p17, List.forall_mem_cons.mpr ⟨lw_p18, List.forall_mem_cons.mpr ⟨lw_p19, List.forall_mem_cons.mpr ⟨lw_p20, List.forall_mem_cons.mpr ⟨lw_p21, List.forall_mem_cons.mpr ⟨lw_p22, List.forall_mem_cons.mpr ⟨lw_p23, List.forall_mem_cons.mpr ⟨lw_p24, List.forall_mem_cons.mpr ⟨lw_p25, List.forall_mem_cons.mpr ⟨lw_p26, List.forall_mem_cons.mpr ⟨lw_p27, List.forall_mem_cons.mpr ⟨lw_p28, List.forall_mem_cons.mpr ⟨lw_p29, List.forall_mem_cons.mpr ⟨lw_p30, List.forall_mem_cons.mpr ⟨lw_p31, fun _ h => absurd h List.not_mem_nil⟩⟩⟩⟩⟩⟩⟩⟩⟩⟩⟩⟩⟩⟩⟩⟩
theorem lw_p32 : lw_okq (⟨"WheatSeaModel", "hourBy", "(IIIII)I"⟩, 28) := ⟨⟨by decide +kernel, by decide +kernel⟩, List.mem_of_getElem? (i := 694) (by decide +kernel), List.mem_of_getElem? (i := 897) (by decide +kernel), List.mem_of_getElem? (i := 898) (by decide +kernel)⟩
theorem lw_p33 : lw_okq (⟨"WheatSeaModel", "layVoyage", "(IIII)V"⟩, 28) := ⟨⟨by decide +kernel, by decide +kernel⟩, List.mem_of_getElem? (i := 694) (by decide +kernel), List.mem_of_getElem? (i := 901) (by decide +kernel), List.mem_of_getElem? (i := 902) (by decide +kernel)⟩
theorem lw_p34 : lw_okq (⟨"WheatSeaModel", "layHome", "(I)V"⟩, 28) := ⟨⟨by decide +kernel, by decide +kernel⟩, List.mem_of_getElem? (i := 694) (by decide +kernel), List.mem_of_getElem? (i := 915) (by decide +kernel), List.mem_of_getElem? (i := 916) (by decide +kernel)⟩
theorem lw_p35 : lw_okq (⟨"WheatSeaModel", "isOrder", "(I)Z"⟩, 28) := ⟨⟨by decide +kernel, by decide +kernel⟩, List.mem_of_getElem? (i := 694) (by decide +kernel), List.mem_of_getElem? (i := 919) (by decide +kernel), List.mem_of_getElem? (i := 920) (by decide +kernel)⟩
theorem lw_p36 : lw_okq (⟨"WheatSeaModel", "startOf", "(I)I"⟩, 28) := ⟨⟨by decide +kernel, by decide +kernel⟩, List.mem_of_getElem? (i := 694) (by decide +kernel), List.mem_of_getElem? (i := 943) (by decide +kernel), List.mem_of_getElem? (i := 944) (by decide +kernel)⟩
theorem lw_p37 : lw_okq (⟨"WheatSeaModel", "canStart", "(II)Z"⟩, 28) := ⟨⟨by decide +kernel, by decide +kernel⟩, List.mem_of_getElem? (i := 694) (by decide +kernel), List.mem_of_getElem? (i := 947) (by decide +kernel), List.mem_of_getElem? (i := 948) (by decide +kernel)⟩
theorem lw_p38 : lw_okq (⟨"WheatSeaModel", "seenAt", "(II)I"⟩, 28) := ⟨⟨by decide +kernel, by decide +kernel⟩, List.mem_of_getElem? (i := 694) (by decide +kernel), List.mem_of_getElem? (i := 951) (by decide +kernel), List.mem_of_getElem? (i := 952) (by decide +kernel)⟩
theorem lw_p39 : lw_okq (⟨"WheatSeaModel", "isSeenBetween", "(III)Z"⟩, 28) := ⟨⟨by decide +kernel, by decide +kernel⟩, List.mem_of_getElem? (i := 694) (by decide +kernel), List.mem_of_getElem? (i := 955) (by decide +kernel), List.mem_of_getElem? (i := 956) (by decide +kernel)⟩
theorem lw_p40 : lw_okq (⟨"WheatSeaModel", "draw", "(I)I"⟩, 28) := ⟨⟨by decide +kernel, by decide +kernel⟩, List.mem_of_getElem? (i := 694) (by decide +kernel), List.mem_of_getElem? (i := 964) (by decide +kernel), List.mem_of_getElem? (i := 965) (by decide +kernel)⟩
theorem lw_p41 : lw_okq (⟨"WheatSeaModel", "strandedMany", "()I"⟩, 28) := ⟨⟨by decide +kernel, by decide +kernel⟩, List.mem_of_getElem? (i := 694) (by decide +kernel), List.mem_of_getElem? (i := 972) (by decide +kernel), List.mem_of_getElem? (i := 973) (by decide +kernel)⟩
theorem lw_p42 : lw_okq (⟨"WheatSeaModel", "countOf", "(I)I"⟩, 28) := ⟨⟨by decide +kernel, by decide +kernel⟩, List.mem_of_getElem? (i := 694) (by decide +kernel), List.mem_of_getElem? (i := 988) (by decide +kernel), List.mem_of_getElem? (i := 989) (by decide +kernel)⟩
theorem lw_p43 : lw_okq (⟨"WheatSeaModel", "cutMany", "()I"⟩, 28) := ⟨⟨by decide +kernel, by decide +kernel⟩, List.mem_of_getElem? (i := 694) (by decide +kernel), List.mem_of_getElem? (i := 992) (by decide +kernel), List.mem_of_getElem? (i := 993) (by decide +kernel)⟩
theorem lw_p44 : lw_okq (⟨"WheatSeaModel", "say", "(J)V"⟩, 28) := ⟨⟨by decide +kernel, by decide +kernel⟩, List.mem_of_getElem? (i := 694) (by decide +kernel), List.mem_of_getElem? (i := 1001) (by decide +kernel), List.mem_of_getElem? (i := 1002) (by decide +kernel)⟩
theorem lw_p45 : lw_okq (⟨"WheatSeaModel", "sayHull", "(I)V"⟩, 28) := ⟨⟨by decide +kernel, by decide +kernel⟩, List.mem_of_getElem? (i := 694) (by decide +kernel), List.mem_of_getElem? (i := 1006) (by decide +kernel), List.mem_of_getElem? (i := 1007) (by decide +kernel)⟩
def lw_privs_3 : List (MethodName × Nat) := [(⟨"WheatSeaModel", "hourBy", "(IIIII)I"⟩, 28), (⟨"WheatSeaModel", "layVoyage", "(IIII)V"⟩, 28), (⟨"WheatSeaModel", "layHome", "(I)V"⟩, 28), (⟨"WheatSeaModel", "isOrder", "(I)Z"⟩, 28), (⟨"WheatSeaModel", "startOf", "(I)I"⟩, 28), (⟨"WheatSeaModel", "canStart", "(II)Z"⟩, 28), (⟨"WheatSeaModel", "seenAt", "(II)I"⟩, 28), (⟨"WheatSeaModel", "isSeenBetween", "(III)Z"⟩, 28), (⟨"WheatSeaModel", "draw", "(I)I"⟩, 28), (⟨"WheatSeaModel", "strandedMany", "()I"⟩, 28), (⟨"WheatSeaModel", "countOf", "(I)I"⟩, 28), (⟨"WheatSeaModel", "cutMany", "()I"⟩, 28), (⟨"WheatSeaModel", "say", "(J)V"⟩, 28), (⟨"WheatSeaModel", "sayHull", "(I)V"⟩, 28)]
theorem lw_r3 : ∀ q ∈ lw_privs_3, lw_okq q := List.forall_mem_cons.mpr ⟨lw_p32, List.forall_mem_cons.mpr ⟨lw_p33, List.forall_mem_cons.mpr ⟨lw_p34, List.forall_mem_cons.mpr ⟨lw_p35, List.forall_mem_cons.mpr ⟨lw_p36, List.forall_mem_cons.mpr ⟨lw_p37, List.forall_mem_cons.mpr ⟨lw_p38, List.forall_mem_cons.mpr ⟨lw_p39, List.forall_mem_cons.mpr ⟨lw_p40, List.forall_mem_cons.mpr ⟨lw_p41, List.forall_mem_cons.mpr ⟨lw_p42, List.forall_mem_cons.mpr ⟨lw_p43, List.forall_mem_cons.mpr ⟨lw_p44, List.forall_mem_cons.mpr ⟨lw_p45, fun _ h => absurd h List.not_mem_nil⟩⟩⟩⟩⟩⟩⟩⟩⟩⟩⟩⟩⟩⟩
def lw_privs : List (MethodName × Nat) := lw_privs_1 ++ (lw_privs_2 ++ (lw_privs_3))
def lw_tbl : List Cond := k2_sels lw_privs ++ tables_1
theorem lw_privs_ok : ∀ q ∈ lw_privs, lw_okq q := by
  show ∀ q ∈ lw_privs_1 ++ (lw_privs_2 ++ (lw_privs_3)), lw_okq q
  exact List.forall_mem_append.mpr ⟨lw_r1, List.forall_mem_append.mpr ⟨lw_r2, lw_r3⟩⟩
end
section
def RX0 : String := "WheatSea$Chart"
def TX0 : u_T := fun k => match k with
  | 0 => ("WheatSea$Chart", "hours", "[I", true)
  | _ => ("WheatSea$Chart", "firstWays", "[I", true)
def tyX0 : Nat → FieldType := fun k => match k with
  | 0 => .array .int
  | _ => .array .int
theorem nmX0 : ∀ a, a < 2 → ∀ b, b < 2 → a ≠ b → (TX0 a).2.1 ≠ (TX0 b).2.1 := by decide +kernel
theorem tyX0_ok : ∀ k, k < 2 → parseFieldDescriptor (TX0 k).2.2.1 = some (tyX0 k) := by decide +kernel
abbrev cX0_init : ByteArray := prog_2_method_1_code
def yX0_init : MethodName := ⟨RX0, "<init>", "()V"⟩
abbrev cX0_plot : ByteArray := prog_2_method_2_code
def yX0_plot : MethodName := ⟨RX0, "plot", "(LWheatSea$Sea;LWheatSea$Hull;II)V"⟩
abbrev cX0_hourAt : ByteArray := prog_2_method_3_code
def yX0_hourAt : MethodName := ⟨RX0, "hourAt", "(I)I"⟩
abbrev cX0_firstWayTo : ByteArray := prog_2_method_4_code
def yX0_firstWayTo : MethodName := ⟨RX0, "firstWayTo", "(I)I"⟩
abbrev cX0_sailOnFrom : ByteArray := prog_2_method_5_code
def yX0_sailOnFrom : MethodName := ⟨RX0, "sailOnFrom", "(LWheatSea$Sea;LWheatSea$Hull;I)V"⟩
abbrev cX0_arrive : ByteArray := prog_2_method_6_code
def yX0_arrive : MethodName := ⟨RX0, "arrive", "(III)V"⟩
abbrev cX0_soonestOpen : ByteArray := prog_2_method_7_code
def yX0_soonestOpen : MethodName := ⟨RX0, "soonestOpen", "(I)I"⟩
def RX1 : String := "WheatSea$Cutter"
def TX1 : u_T := fun k => match k with
  | 0 => ("WheatSea$Hull", "draught", "I", true)
  | 1 => ("WheatSea$Hull", "cell", "I", false)
  | _ => ("WheatSea$Hull", "sailed", "I", false)
def tyX1 : Nat → FieldType := fun k => match k with
  | 0 => .int
  | 1 => .int
  | _ => .int
theorem nmX1 : ∀ a, a < 3 → ∀ b, b < 3 → a ≠ b → (TX1 a).2.1 ≠ (TX1 b).2.1 := by decide +kernel
theorem tyX1_ok : ∀ k, k < 3 → parseFieldDescriptor (TX1 k).2.2.1 = some (tyX1 k) := by decide +kernel
abbrev cX1_init : ByteArray := prog_3_method_1_code
def yX1_init : MethodName := ⟨RX1, "<init>", "(II)V"⟩
abbrev cX1_kind : ByteArray := prog_3_method_2_code
def yX1_kind : MethodName := ⟨RX1, "kind", "()I"⟩
abbrev cX1_hoursBecalmed : ByteArray := prog_3_method_3_code
def yX1_hoursBecalmed : MethodName := ⟨RX1, "hoursBecalmed", "()I"⟩
abbrev cX1_hoursAgainst : ByteArray := prog_3_method_4_code
def yX1_hoursAgainst : MethodName := ⟨RX1, "hoursAgainst", "()I"⟩
def RX2 : String := "WheatSea$Galley"
def TX2 : u_T := fun k => match k with
  | 0 => ("WheatSea$Hull", "draught", "I", true)
  | 1 => ("WheatSea$Hull", "cell", "I", false)
  | _ => ("WheatSea$Hull", "sailed", "I", false)
def tyX2 : Nat → FieldType := fun k => match k with
  | 0 => .int
  | 1 => .int
  | _ => .int
theorem nmX2 : ∀ a, a < 3 → ∀ b, b < 3 → a ≠ b → (TX2 a).2.1 ≠ (TX2 b).2.1 := by decide +kernel
theorem tyX2_ok : ∀ k, k < 3 → parseFieldDescriptor (TX2 k).2.2.1 = some (tyX2 k) := by decide +kernel
abbrev cX2_init : ByteArray := prog_4_method_1_code
def yX2_init : MethodName := ⟨RX2, "<init>", "(II)V"⟩
abbrev cX2_kind : ByteArray := prog_4_method_2_code
def yX2_kind : MethodName := ⟨RX2, "kind", "()I"⟩
abbrev cX2_hoursAgainst : ByteArray := prog_4_method_3_code
def yX2_hoursAgainst : MethodName := ⟨RX2, "hoursAgainst", "()I"⟩
def RX3 : String := "WheatSea$Homecoming"
def TX3 : u_T := fun k => match k with
  | 0 => ("WheatSea$Homecoming", "many", "I", false)
  | 1 => ("WheatSea$Homecoming", "hour", "I", false)
  | _ => ("WheatSea$Homecoming", "order", "I", false)
def tyX3 : Nat → FieldType := fun k => match k with
  | 0 => .int
  | 1 => .int
  | _ => .int
theorem nmX3 : ∀ a, a < 3 → ∀ b, b < 3 → a ≠ b → (TX3 a).2.1 ≠ (TX3 b).2.1 := by decide +kernel
theorem tyX3_ok : ∀ k, k < 3 → parseFieldDescriptor (TX3 k).2.2.1 = some (tyX3 k) := by decide +kernel
abbrev cX3_init : ByteArray := prog_5_method_1_code
def yX3_init : MethodName := ⟨RX3, "<init>", "()V"⟩
abbrev cX3_find : ByteArray := prog_5_method_2_code
def yX3_find : MethodName := ⟨RX3, "find", "(LWheatSea$Sea;LWheatSea$Chart;[LWheatSea$Hull;II)V"⟩
abbrev cX3_hullInPlace : ByteArray := prog_5_method_3_code
def yX3_hullInPlace : MethodName := ⟨RX3, "hullInPlace", "(I)I"⟩
abbrev cX3_hullIn : ByteArray := prog_5_method_4_code
def yX3_hullIn : MethodName := ⟨RX3, "hullIn", "([LWheatSea$Hull;II)LWheatSea$Hull;"⟩
abbrev cX3_numberIn : ByteArray := prog_5_method_5_code
def yX3_numberIn : MethodName := ⟨RX3, "numberIn", "(II)I"⟩
def RX4 : String := "WheatSea$Hull"
def TX4 : u_T := fun k => match k with
  | 0 => ("WheatSea$Hull", "draught", "I", true)
  | 1 => ("WheatSea$Hull", "cell", "I", false)
  | _ => ("WheatSea$Hull", "sailed", "I", false)
def tyX4 : Nat → FieldType := fun k => match k with
  | 0 => .int
  | 1 => .int
  | _ => .int
theorem nmX4 : ∀ a, a < 3 → ∀ b, b < 3 → a ≠ b → (TX4 a).2.1 ≠ (TX4 b).2.1 := by decide +kernel
theorem tyX4_ok : ∀ k, k < 3 → parseFieldDescriptor (TX4 k).2.2.1 = some (tyX4 k) := by decide +kernel
abbrev cX4_init : ByteArray := prog_6_method_1_code
def yX4_init : MethodName := ⟨RX4, "<init>", "(II)V"⟩
abbrev cX4_kind : ByteArray := prog_6_method_2_code
def yX4_kind : MethodName := ⟨RX4, "kind", "()I"⟩
abbrev cX4_cornNeeded : ByteArray := prog_6_method_3_code
def yX4_cornNeeded : MethodName := ⟨RX4, "cornNeeded", "()I"⟩
abbrev cX4_hoursWith : ByteArray := prog_6_method_4_code
def yX4_hoursWith : MethodName := ⟨RX4, "hoursWith", "()I"⟩
abbrev cX4_hoursAcross : ByteArray := prog_6_method_5_code
def yX4_hoursAcross : MethodName := ⟨RX4, "hoursAcross", "()I"⟩
abbrev cX4_hoursBecalmed : ByteArray := prog_6_method_6_code
def yX4_hoursBecalmed : MethodName := ⟨RX4, "hoursBecalmed", "()I"⟩
abbrev cX4_hoursAgainst : ByteArray := prog_6_method_7_code
def yX4_hoursAgainst : MethodName := ⟨RX4, "hoursAgainst", "()I"⟩
abbrev cX4_hoursFor : ByteArray := prog_6_method_8_code
def yX4_hoursFor : MethodName := ⟨RX4, "hoursFor", "(II)I"⟩
def RX5 : String := "WheatSea$Image"
def TX5 : u_T := fun k => match k with
  | 0 => ("WheatSea$Image", "there", "Z", false)
  | 1 => ("WheatSea$Image", "hullCount", "I", false)
  | 2 => ("WheatSea$Image", "hour", "I", false)
  | 3 => ("WheatSea$Image", "wind", "I", false)
  | 4 => ("WheatSea$Image", "seen", "LWheatSea$Seen;", true)
  | 5 => ("WheatSea$Image", "cells", "[I", true)
  | _ => ("WheatSea$Image", "sailed", "[I", true)
def tyX5 : Nat → FieldType := fun k => match k with
  | 0 => .boolean
  | 1 => .int
  | 2 => .int
  | 3 => .int
  | 4 => .object "WheatSea$Seen"
  | 5 => .array .int
  | _ => .array .int
theorem nmX5 : ∀ a, a < 7 → ∀ b, b < 7 → a ≠ b → (TX5 a).2.1 ≠ (TX5 b).2.1 := by decide +kernel
theorem tyX5_ok : ∀ k, k < 7 → parseFieldDescriptor (TX5 k).2.2.1 = some (tyX5 k) := by decide +kernel
abbrev cX5_init : ByteArray := prog_7_method_1_code
def yX5_init : MethodName := ⟨RX5, "<init>", "()V"⟩
abbrev cX5_keep : ByteArray := prog_7_method_2_code
def yX5_keep : MethodName := ⟨RX5, "keep", "([LWheatSea$Hull;I)V"⟩
abbrev cX5_giveBack : ByteArray := prog_7_method_3_code
def yX5_giveBack : MethodName := ⟨RX5, "giveBack", "([LWheatSea$Hull;)V"⟩
def RX6 : String := "WheatSea$June"
def TX6 : u_T := fun k => match k with
  | 0 => ("WheatSea$June", "cells", "[I", true)
  | 1 => ("WheatSea$June", "hour", "I", false)
  | 2 => ("WheatSea$June", "seed", "I", false)
  | _ => ("WheatSea$June", "failed", "I", false)
def tyX6 : Nat → FieldType := fun k => match k with
  | 0 => .array .int
  | 1 => .int
  | 2 => .int
  | _ => .int
theorem nmX6 : ∀ a, a < 4 → ∀ b, b < 4 → a ≠ b → (TX6 a).2.1 ≠ (TX6 b).2.1 := by decide +kernel
theorem tyX6_ok : ∀ k, k < 4 → parseFieldDescriptor (TX6 k).2.2.1 = some (tyX6 k) := by decide +kernel
abbrev cX6_init : ByteArray := prog_8_method_1_code
def yX6_init : MethodName := ⟨RX6, "<init>", "()V"⟩
abbrev cX6_begin : ByteArray := prog_8_method_2_code
def yX6_begin : MethodName := ⟨RX6, "begin", "([LWheatSea$Hull;II)V"⟩
abbrev cX6_run : ByteArray := prog_8_method_3_code
def yX6_run : MethodName := ⟨RX6, "run", "(LWheatSea$Sea;[LWheatSea$Hull;I)V"⟩
abbrev cX6_stranded : ByteArray := prog_8_method_4_code
def yX6_stranded : MethodName := ⟨RX6, "stranded", "(LWheatSea$Sea;[LWheatSea$Hull;)I"⟩
abbrev cX6_afterSailing : ByteArray := prog_8_method_5_code
def yX6_afterSailing : MethodName := ⟨RX6, "afterSailing", "(LWheatSea$Sea;LWheatSea$Hull;II)I"⟩
abbrev cX6_drawn : ByteArray := prog_8_method_6_code
def yX6_drawn : MethodName := ⟨RX6, "drawn", "(I)I"⟩
def RX7 : String := "WheatSea$Sea"
def TX7 : u_T := fun k => match k with
  | 0 => ("WheatSea$Sea", "high", "[I", true)
  | 1 => ("WheatSea$Sea", "reap", "I", false)
  | _ => ("WheatSea$Sea", "wind", "I", false)
def tyX7 : Nat → FieldType := fun k => match k with
  | 0 => .array .int
  | 1 => .int
  | _ => .int
theorem nmX7 : ∀ a, a < 3 → ∀ b, b < 3 → a ≠ b → (TX7 a).2.1 ≠ (TX7 b).2.1 := by decide +kernel
theorem tyX7_ok : ∀ k, k < 3 → parseFieldDescriptor (TX7 k).2.2.1 = some (tyX7 k) := by decide +kernel
abbrev cX7_init : ByteArray := prog_9_method_1_code
def yX7_init : MethodName := ⟨RX7, "<init>", "([I)V"⟩
abbrev cX7_sow : ByteArray := prog_9_method_2_code
def yX7_sow : MethodName := ⟨RX7, "sow", "(II)V"⟩
abbrev cX7_cutHour : ByteArray := prog_9_method_3_code
def yX7_cutHour : MethodName := ⟨RX7, "cutHour", "(I)I"⟩
abbrev cX7_highAt : ByteArray := prog_9_method_4_code
def yX7_highAt : MethodName := ⟨RX7, "highAt", "(II)I"⟩
abbrev cX7_floats : ByteArray := prog_9_method_5_code
def yX7_floats : MethodName := ⟨RX7, "floats", "(LWheatSea$Hull;II)Z"⟩
abbrev cX7_hoursToSail : ByteArray := prog_9_method_6_code
def yX7_hoursToSail : MethodName := ⟨RX7, "hoursToSail", "(LWheatSea$Hull;III)I"⟩
def RX8 : String := "WheatSea$Seen"
def TX8 : u_T := fun k => match k with
  | 0 => ("WheatSea$Seen", "many", "I", false)
  | 1 => ("WheatSea$Seen", "numbers", "[I", true)
  | 2 => ("WheatSea$Seen", "cells", "[I", true)
  | 3 => ("WheatSea$Seen", "hours", "[I", true)
  | 4 => ("WheatSea$Seen", "may", "[I", true)
  | _ => ("WheatSea$Seen", "can", "[I", true)
def tyX8 : Nat → FieldType := fun k => match k with
  | 0 => .int
  | 1 => .array .int
  | 2 => .array .int
  | 3 => .array .int
  | 4 => .array .int
  | _ => .array .int
theorem nmX8 : ∀ a, a < 6 → ∀ b, b < 6 → a ≠ b → (TX8 a).2.1 ≠ (TX8 b).2.1 := by decide +kernel
theorem tyX8_ok : ∀ k, k < 6 → parseFieldDescriptor (TX8 k).2.2.1 = some (tyX8 k) := by decide +kernel
abbrev cX8_init : ByteArray := prog_10_method_1_code
def yX8_init : MethodName := ⟨RX8, "<init>", "()V"⟩
abbrev cX8_add : ByteArray := prog_10_method_2_code
def yX8_add : MethodName := ⟨RX8, "add", "(III)Z"⟩
abbrev cX8_become : ByteArray := prog_10_method_3_code
def yX8_become : MethodName := ⟨RX8, "become", "(LWheatSea$Seen;)V"⟩
abbrev cX8_startsOf : ByteArray := prog_10_method_4_code
def yX8_startsOf : MethodName := ⟨RX8, "startsOf", "(LWheatSea$Sea;LWheatSea$Hull;I)I"⟩
abbrev cX8_lookUp : ByteArray := prog_10_method_5_code
def yX8_lookUp : MethodName := ⟨RX8, "lookUp", "(I)I"⟩
abbrev cX8_goesOn : ByteArray := prog_10_method_6_code
def yX8_goesOn : MethodName := ⟨RX8, "goesOn", "(LWheatSea$Sea;LWheatSea$Hull;III)Z"⟩
abbrev cX8_canBe : ByteArray := prog_10_method_7_code
def yX8_canBe : MethodName := ⟨RX8, "canBe", "(III)Z"⟩
abbrev cX8_unseenBetween : ByteArray := prog_10_method_8_code
def yX8_unseenBetween : MethodName := ⟨RX8, "unseenBetween", "(II)Z"⟩
def RX9 : String := "WheatSea$Sled"
def TX9 : u_T := fun k => match k with
  | 0 => ("WheatSea$Hull", "draught", "I", true)
  | 1 => ("WheatSea$Hull", "cell", "I", false)
  | _ => ("WheatSea$Hull", "sailed", "I", false)
def tyX9 : Nat → FieldType := fun k => match k with
  | 0 => .int
  | 1 => .int
  | _ => .int
theorem nmX9 : ∀ a, a < 3 → ∀ b, b < 3 → a ≠ b → (TX9 a).2.1 ≠ (TX9 b).2.1 := by decide +kernel
theorem tyX9_ok : ∀ k, k < 3 → parseFieldDescriptor (TX9 k).2.2.1 = some (tyX9 k) := by decide +kernel
abbrev cX9_init : ByteArray := prog_11_method_1_code
def yX9_init : MethodName := ⟨RX9, "<init>", "(II)V"⟩
abbrev cX9_kind : ByteArray := prog_11_method_2_code
def yX9_kind : MethodName := ⟨RX9, "kind", "()I"⟩
abbrev cX9_cornNeeded : ByteArray := prog_11_method_3_code
def yX9_cornNeeded : MethodName := ⟨RX9, "cornNeeded", "()I"⟩
abbrev cX9_hoursWith : ByteArray := prog_11_method_4_code
def yX9_hoursWith : MethodName := ⟨RX9, "hoursWith", "()I"⟩
abbrev cX9_hoursAcross : ByteArray := prog_11_method_5_code
def yX9_hoursAcross : MethodName := ⟨RX9, "hoursAcross", "()I"⟩
abbrev cX9_hoursBecalmed : ByteArray := prog_11_method_6_code
def yX9_hoursBecalmed : MethodName := ⟨RX9, "hoursBecalmed", "()I"⟩
def RX10 : String := "WheatSea$Sloop"
def TX10 : u_T := fun k => match k with
  | 0 => ("WheatSea$Hull", "draught", "I", true)
  | 1 => ("WheatSea$Hull", "cell", "I", false)
  | _ => ("WheatSea$Hull", "sailed", "I", false)
def tyX10 : Nat → FieldType := fun k => match k with
  | 0 => .int
  | 1 => .int
  | _ => .int
theorem nmX10 : ∀ a, a < 3 → ∀ b, b < 3 → a ≠ b → (TX10 a).2.1 ≠ (TX10 b).2.1 := by decide +kernel
theorem tyX10_ok : ∀ k, k < 3 → parseFieldDescriptor (TX10 k).2.2.1 = some (tyX10 k) := by decide +kernel
abbrev cX10_init : ByteArray := prog_12_method_1_code
def yX10_init : MethodName := ⟨RX10, "<init>", "(II)V"⟩
abbrev cX10_kind : ByteArray := prog_12_method_2_code
def yX10_kind : MethodName := ⟨RX10, "kind", "()I"⟩
abbrev cX10_cornNeeded : ByteArray := prog_12_method_3_code
def yX10_cornNeeded : MethodName := ⟨RX10, "cornNeeded", "()I"⟩
def RX11 : String := "WheatSea"
def TX11 : u_T := fun k => match k with
  | 0 => ("WheatSea", "page", "[I", true)
  | 1 => ("WheatSea", "letters", "I", false)
  | 2 => ("WheatSea", "plainsRead", "I", false)
  | 3 => ("WheatSea", "sea", "LWheatSea$Sea;", true)
  | 4 => ("WheatSea", "would", "LWheatSea$Sea;", true)
  | 5 => ("WheatSea", "hulls", "[LWheatSea$Hull;", true)
  | 6 => ("WheatSea", "hullCount", "I", false)
  | 7 => ("WheatSea", "hour", "I", false)
  | 8 => ("WheatSea", "seen", "LWheatSea$Seen;", true)
  | 9 => ("WheatSea", "kept", "LWheatSea$Image;", true)
  | 10 => ("WheatSea", "chart", "LWheatSea$Chart;", true)
  | 11 => ("WheatSea", "homecoming", "LWheatSea$Homecoming;", true)
  | _ => ("WheatSea", "june", "LWheatSea$June;", true)
def tyX11 : Nat → FieldType := fun k => match k with
  | 0 => .array .int
  | 1 => .int
  | 2 => .int
  | 3 => .object "WheatSea$Sea"
  | 4 => .object "WheatSea$Sea"
  | 5 => .array (.object "WheatSea$Hull")
  | 6 => .int
  | 7 => .int
  | 8 => .object "WheatSea$Seen"
  | 9 => .object "WheatSea$Image"
  | 10 => .object "WheatSea$Chart"
  | 11 => .object "WheatSea$Homecoming"
  | _ => .object "WheatSea$June"
theorem nmX11 : ∀ a, a < 13 → ∀ b, b < 13 → a ≠ b → (TX11 a).2.1 ≠ (TX11 b).2.1 := by decide +kernel
theorem tyX11_ok : ∀ k, k < 13 → parseFieldDescriptor (TX11 k).2.2.1 = some (tyX11 k) := by decide +kernel
abbrev cX11_init : ByteArray := prog_1_method_1_code
def yX11_init : MethodName := ⟨RX11, "<init>", "()V"⟩
abbrev cX11_letter : ByteArray := prog_1_method_2_code
def yX11_letter : MethodName := ⟨RX11, "letter", "(I)I"⟩
abbrev cX11_blank : ByteArray := prog_1_method_3_code
def yX11_blank : MethodName := ⟨RX11, "blank", "()I"⟩
abbrev cX11_fault : ByteArray := prog_1_method_4_code
def yX11_fault : MethodName := ⟨RX11, "fault", "()I"⟩
abbrev cX11_plain : ByteArray := prog_1_method_5_code
def yX11_plain : MethodName := ⟨RX11, "plain", "()I"⟩
abbrev cX11_cell : ByteArray := prog_1_method_6_code
def yX11_cell : MethodName := ⟨RX11, "cell", "(II)I"⟩
abbrev cX11_wind : ByteArray := prog_1_method_7_code
def yX11_wind : MethodName := ⟨RX11, "wind", "(I)I"⟩
abbrev cX11_pass : ByteArray := prog_1_method_8_code
def yX11_pass : MethodName := ⟨RX11, "pass", "(I)I"⟩
abbrev cX11_hull : ByteArray := prog_1_method_9_code
def yX11_hull : MethodName := ⟨RX11, "hull", "(III)I"⟩
abbrev cX11_about : ByteArray := prog_1_method_10_code
def yX11_about : MethodName := ⟨RX11, "about", "(II)I"⟩
abbrev cX11_as : ByteArray := prog_1_method_11_code
def yX11_as : MethodName := ⟨RX11, "as", "(II)I"⟩
abbrev cX11_sail : ByteArray := prog_1_method_12_code
def yX11_sail : MethodName := ⟨RX11, "sail", "(II)I"⟩
abbrev cX11_voyage : ByteArray := prog_1_method_13_code
def yX11_voyage : MethodName := ⟨RX11, "voyage", "(III)I"⟩
abbrev cX11_latest : ByteArray := prog_1_method_14_code
def yX11_latest : MethodName := ⟨RX11, "latest", "(II)I"⟩
abbrev cX11_home : ByteArray := prog_1_method_15_code
def yX11_home : MethodName := ⟨RX11, "home", "(II)I"⟩
abbrev cX11_bestWind : ByteArray := prog_1_method_16_code
def yX11_bestWind : MethodName := ⟨RX11, "bestWind", "(II)I"⟩
abbrev cX11_see : ByteArray := prog_1_method_17_code
def yX11_see : MethodName := ⟨RX11, "see", "(III)I"⟩
abbrev cX11_forget : ByteArray := prog_1_method_18_code
def yX11_forget : MethodName := ⟨RX11, "forget", "()I"⟩
abbrev cX11_start : ByteArray := prog_1_method_19_code
def yX11_start : MethodName := ⟨RX11, "start", "(I)I"⟩
abbrev cX11_junes : ByteArray := prog_1_method_20_code
def yX11_junes : MethodName := ⟨RX11, "junes", "(III)I"⟩
abbrev cX11_image : ByteArray := prog_1_method_21_code
def yX11_image : MethodName := ⟨RX11, "image", "()I"⟩
abbrev cX11_restore : ByteArray := prog_1_method_22_code
def yX11_restore : MethodName := ⟨RX11, "restore", "()I"⟩
abbrev cX11_count : ByteArray := prog_1_method_23_code
def yX11_count : MethodName := ⟨RX11, "count", "(I)I"⟩
abbrev cX11_digest : ByteArray := prog_1_method_24_code
def yX11_digest : MethodName := ⟨RX11, "digest", "()J"⟩
abbrev cX11_digestOfCells : ByteArray := prog_1_method_25_code
def yX11_digestOfCells : MethodName := ⟨RX11, "digestOfCells", "(J)J"⟩
abbrev cX11_digestOfHull : ByteArray := prog_1_method_26_code
def yX11_digestOfHull : MethodName := ⟨RX11, "digestOfHull", "(JLWheatSea$Hull;I)J"⟩
abbrev cX11_forgetAll : ByteArray := prog_1_method_27_code
def yX11_forgetAll : MethodName := ⟨RX11, "forgetAll", "()V"⟩
abbrev cX11_hasPlain : ByteArray := prog_1_method_28_code
def yX11_hasPlain : MethodName := ⟨RX11, "hasPlain", "()Z"⟩
abbrev cX11_isThere : ByteArray := prog_1_method_29_code
def yX11_isThere : MethodName := ⟨RX11, "isThere", "(I)Z"⟩
abbrev cX11_hullNumbered : ByteArray := prog_1_method_30_code
def yX11_hullNumbered : MethodName := ⟨RX11, "hullNumbered", "(I)LWheatSea$Hull;"⟩
abbrev cX11_digitAt : ByteArray := prog_1_method_31_code
def yX11_digitAt : MethodName := ⟨RX11, "digitAt", "(I)I"⟩
abbrev cX11_hullsOn : ByteArray := prog_1_method_32_code
def yX11_hullsOn : MethodName := ⟨RX11, "hullsOn", "(I)I"⟩
abbrev cX11_strandedHulls : ByteArray := prog_1_method_33_code
def yX11_strandedHulls : MethodName := ⟨RX11, "strandedHulls", "()I"⟩
abbrev cX11_cutCells : ByteArray := prog_1_method_34_code
def yX11_cutCells : MethodName := ⟨RX11, "cutCells", "()I"⟩
abbrev cX11_fits : ByteArray := prog_1_method_35_code
def yX11_fits : MethodName := ⟨RX11, "fits", "(II)Z"⟩
abbrev cX11_isCell : ByteArray := prog_1_method_36_code
def yX11_isCell : MethodName := ⟨RX11, "isCell", "(I)Z"⟩
abbrev cX11_beside : ByteArray := prog_1_method_37_code
def yX11_beside : MethodName := ⟨RX11, "beside", "(II)I"⟩
abbrev cX11_built : ByteArray := prog_1_method_38_code
def yX11_built : MethodName := ⟨RX11, "built", "(III)LWheatSea$Hull;"⟩
abbrev cX11_isKind : ByteArray := prog_1_method_39_code
def yX11_isKind : MethodName := ⟨RX11, "isKind", "(LWheatSea$Hull;I)Z"⟩
def RX12 : String := "WheatSeaModel"
def TX12 : u_T := fun k => match k with
  | 0 => ("WheatSeaModel", "page", "[I", true)
  | 1 => ("WheatSeaModel", "pageMany", "I", false)
  | 2 => ("WheatSeaModel", "reap", "I", false)
  | 3 => ("WheatSeaModel", "hourNow", "I", false)
  | 4 => ("WheatSeaModel", "windNow", "I", false)
  | 5 => ("WheatSeaModel", "plainsRead", "I", false)
  | 6 => ("WheatSeaModel", "highs", "[I", true)
  | 7 => ("WheatSeaModel", "hulls", "I", false)
  | 8 => ("WheatSeaModel", "rows", "[I", true)
  | 9 => ("WheatSeaModel", "hours", "[I", true)
  | 10 => ("WheatSeaModel", "firsts", "[I", true)
  | 11 => ("WheatSeaModel", "order", "[I", true)
  | 12 => ("WheatSeaModel", "bestOrder", "[I", true)
  | 13 => ("WheatSeaModel", "bestCome", "I", false)
  | 14 => ("WheatSeaModel", "bestHour", "I", false)
  | 15 => ("WheatSeaModel", "seenMany", "I", false)
  | 16 => ("WheatSeaModel", "sights", "[I", true)
  | 17 => ("WheatSeaModel", "lies", "[I", true)
  | 18 => ("WheatSeaModel", "seedNow", "I", false)
  | 19 => ("WheatSeaModel", "savedRows", "[I", true)
  | 20 => ("WheatSeaModel", "keptPlain", "I", false)
  | 21 => ("WheatSeaModel", "keptHulls", "I", false)
  | 22 => ("WheatSeaModel", "keptHour", "I", false)
  | 23 => ("WheatSeaModel", "keptWind", "I", false)
  | 24 => ("WheatSeaModel", "keptSeen", "I", false)
  | 25 => ("WheatSeaModel", "keptRows", "[I", true)
  | 26 => ("WheatSeaModel", "keptSights", "[I", true)
  | _ => ("WheatSeaModel", "hash", "J", false)
def tyX12 : Nat → FieldType := fun k => match k with
  | 0 => .array .int
  | 1 => .int
  | 2 => .int
  | 3 => .int
  | 4 => .int
  | 5 => .int
  | 6 => .array .int
  | 7 => .int
  | 8 => .array .int
  | 9 => .array .int
  | 10 => .array .int
  | 11 => .array .int
  | 12 => .array .int
  | 13 => .int
  | 14 => .int
  | 15 => .int
  | 16 => .array .int
  | 17 => .array .int
  | 18 => .int
  | 19 => .array .int
  | 20 => .int
  | 21 => .int
  | 22 => .int
  | 23 => .int
  | 24 => .int
  | 25 => .array .int
  | 26 => .array .int
  | _ => .long
theorem nmX12 : ∀ a, a < 28 → ∀ b, b < 28 → a ≠ b → (TX12 a).2.1 ≠ (TX12 b).2.1 := by decide +kernel
theorem tyX12_ok : ∀ k, k < 28 → parseFieldDescriptor (TX12 k).2.2.1 = some (tyX12 k) := by decide +kernel
abbrev cX12_init : ByteArray := prog_14_method_1_code
def yX12_init : MethodName := ⟨RX12, "<init>", "()V"⟩
abbrev cX12_in : ByteArray := prog_14_method_2_code
def yX12_in : MethodName := ⟨RX12, "in", "(JJJ)Z"⟩
abbrev cX12_letter : ByteArray := prog_14_method_3_code
def yX12_letter : MethodName := ⟨RX12, "letter", "(I)I"⟩
abbrev cX12_blank : ByteArray := prog_14_method_4_code
def yX12_blank : MethodName := ⟨RX12, "blank", "()I"⟩
abbrev cX12_isGood : ByteArray := prog_14_method_5_code
def yX12_isGood : MethodName := ⟨RX12, "isGood", "(II)Z"⟩
abbrev cX12_faultOf : ByteArray := prog_14_method_6_code
def yX12_faultOf : MethodName := ⟨RX12, "faultOf", "()I"⟩
abbrev cX12_fault : ByteArray := prog_14_method_7_code
def yX12_fault : MethodName := ⟨RX12, "fault", "()I"⟩
abbrev cX12_plain : ByteArray := prog_14_method_8_code
def yX12_plain : MethodName := ⟨RX12, "plain", "()I"⟩
abbrev cX12_lacks : ByteArray := prog_14_method_9_code
def yX12_lacks : MethodName := ⟨RX12, "lacks", "()Z"⟩
abbrev cX12_isCell : ByteArray := prog_14_method_10_code
def yX12_isCell : MethodName := ⟨RX12, "isCell", "(I)Z"⟩
abbrev cX12_highAt : ByteArray := prog_14_method_11_code
def yX12_highAt : MethodName := ⟨RX12, "highAt", "(III)I"⟩
abbrev cX12_hullsAt : ByteArray := prog_14_method_12_code
def yX12_hullsAt : MethodName := ⟨RX12, "hullsAt", "(I)I"⟩
abbrev cX12_tellCell : ByteArray := prog_14_method_13_code
def yX12_tellCell : MethodName := ⟨RX12, "tellCell", "(II)I"⟩
abbrev cX12_cell : ByteArray := prog_14_method_14_code
def yX12_cell : MethodName := ⟨RX12, "cell", "(II)I"⟩
abbrev cX12_wind : ByteArray := prog_14_method_15_code
def yX12_wind : MethodName := ⟨RX12, "wind", "(I)I"⟩
abbrev cX12_pass : ByteArray := prog_14_method_16_code
def yX12_pass : MethodName := ⟨RX12, "pass", "(I)I"⟩
abbrev cX12_isHull : ByteArray := prog_14_method_17_code
def yX12_isHull : MethodName := ⟨RX12, "isHull", "(I)Z"⟩
abbrev cX12_floats : ByteArray := prog_14_method_18_code
def yX12_floats : MethodName := ⟨RX12, "floats", "(IIII)Z"⟩
abbrev cX12_beside : ByteArray := prog_14_method_19_code
def yX12_beside : MethodName := ⟨RX12, "beside", "(II)I"⟩
abbrev cX12_needs : ByteArray := prog_14_method_20_code
def yX12_needs : MethodName := ⟨RX12, "needs", "(III)I"⟩
abbrev cX12_hoursOf : ByteArray := prog_14_method_21_code
def yX12_hoursOf : MethodName := ⟨RX12, "hoursOf", "(IIIIII)I"⟩
abbrev cX12_hull : ByteArray := prog_14_method_22_code
def yX12_hull : MethodName := ⟨RX12, "hull", "(III)I"⟩
abbrev cX12_isStranded : ByteArray := prog_14_method_23_code
def yX12_isStranded : MethodName := ⟨RX12, "isStranded", "(I)Z"⟩
abbrev cX12_tell : ByteArray := prog_14_method_24_code
def yX12_tell : MethodName := ⟨RX12, "tell", "(II)I"⟩
abbrev cX12_about : ByteArray := prog_14_method_25_code
def yX12_about : MethodName := ⟨RX12, "about", "(II)I"⟩
abbrev cX12_as : ByteArray := prog_14_method_26_code
def yX12_as : MethodName := ⟨RX12, "as", "(II)I"⟩
abbrev cX12_sail : ByteArray := prog_14_method_27_code
def yX12_sail : MethodName := ⟨RX12, "sail", "(II)I"⟩
abbrev cX12_layVoyage : ByteArray := prog_14_method_28_code
def yX12_layVoyage : MethodName := ⟨RX12, "layVoyage", "(IIII)V"⟩
abbrev cX12_hourBy : ByteArray := prog_14_method_29_code
def yX12_hourBy : MethodName := ⟨RX12, "hourBy", "(IIIII)I"⟩
abbrev cX12_voyage : ByteArray := prog_14_method_30_code
def yX12_voyage : MethodName := ⟨RX12, "voyage", "(III)I"⟩
abbrev cX12_latest : ByteArray := prog_14_method_31_code
def yX12_latest : MethodName := ⟨RX12, "latest", "(II)I"⟩
abbrev cX12_isOrder : ByteArray := prog_14_method_32_code
def yX12_isOrder : MethodName := ⟨RX12, "isOrder", "(I)Z"⟩
abbrev cX12_layHome : ByteArray := prog_14_method_33_code
def yX12_layHome : MethodName := ⟨RX12, "layHome", "(I)V"⟩
abbrev cX12_home : ByteArray := prog_14_method_34_code
def yX12_home : MethodName := ⟨RX12, "home", "(II)I"⟩
abbrev cX12_bestWind : ByteArray := prog_14_method_35_code
def yX12_bestWind : MethodName := ⟨RX12, "bestWind", "(II)I"⟩
abbrev cX12_see : ByteArray := prog_14_method_36_code
def yX12_see : MethodName := ⟨RX12, "see", "(III)I"⟩
abbrev cX12_forget : ByteArray := prog_14_method_37_code
def yX12_forget : MethodName := ⟨RX12, "forget", "()I"⟩
abbrev cX12_seenAt : ByteArray := prog_14_method_38_code
def yX12_seenAt : MethodName := ⟨RX12, "seenAt", "(II)I"⟩
abbrev cX12_isSeenBetween : ByteArray := prog_14_method_39_code
def yX12_isSeenBetween : MethodName := ⟨RX12, "isSeenBetween", "(III)Z"⟩
abbrev cX12_canStart : ByteArray := prog_14_method_40_code
def yX12_canStart : MethodName := ⟨RX12, "canStart", "(II)Z"⟩
abbrev cX12_startOf : ByteArray := prog_14_method_41_code
def yX12_startOf : MethodName := ⟨RX12, "startOf", "(I)I"⟩
abbrev cX12_start : ByteArray := prog_14_method_42_code
def yX12_start : MethodName := ⟨RX12, "start", "(I)I"⟩
abbrev cX12_draw : ByteArray := prog_14_method_43_code
def yX12_draw : MethodName := ⟨RX12, "draw", "(I)I"⟩
abbrev cX12_strandedMany : ByteArray := prog_14_method_44_code
def yX12_strandedMany : MethodName := ⟨RX12, "strandedMany", "()I"⟩
abbrev cX12_junes : ByteArray := prog_14_method_45_code
def yX12_junes : MethodName := ⟨RX12, "junes", "(III)I"⟩
abbrev cX12_copy : ByteArray := prog_14_method_46_code
def yX12_copy : MethodName := ⟨RX12, "copy", "([I[I)V"⟩
abbrev cX12_image : ByteArray := prog_14_method_47_code
def yX12_image : MethodName := ⟨RX12, "image", "()I"⟩
abbrev cX12_restore : ByteArray := prog_14_method_48_code
def yX12_restore : MethodName := ⟨RX12, "restore", "()I"⟩
abbrev cX12_cutMany : ByteArray := prog_14_method_49_code
def yX12_cutMany : MethodName := ⟨RX12, "cutMany", "()I"⟩
abbrev cX12_countOf : ByteArray := prog_14_method_50_code
def yX12_countOf : MethodName := ⟨RX12, "countOf", "(I)I"⟩
abbrev cX12_count : ByteArray := prog_14_method_51_code
def yX12_count : MethodName := ⟨RX12, "count", "(I)I"⟩
abbrev cX12_say : ByteArray := prog_14_method_52_code
def yX12_say : MethodName := ⟨RX12, "say", "(J)V"⟩
abbrev cX12_sayHull : ByteArray := prog_14_method_53_code
def yX12_sayHull : MethodName := ⟨RX12, "sayHull", "(I)V"⟩
abbrev cX12_digest : ByteArray := prog_14_method_54_code
def yX12_digest : MethodName := ⟨RX12, "digest", "()J"⟩
def RJ9 : String := "java/lang/Math"
def TJ9 : u_T := fun k => match k with
  | _ => ("", "", "", false)
def tyJ9 : Nat → FieldType := fun k => match k with
  | _ => .int
theorem nmJ9 : ∀ a, a < 0 → ∀ b, b < 0 → a ≠ b → (TJ9 a).2.1 ≠ (TJ9 b).2.1 := by decide +kernel
theorem tyJ9_ok : ∀ k, k < 0 → parseFieldDescriptor (TJ9 k).2.2.1 = some (tyJ9 k) := by decide +kernel
abbrev cJ9_max_7cf53 : ByteArray := prog_15_method_65_code
def yJ9_max_7cf53 : MethodName := ⟨RJ9, "max", "(II)I"⟩
def RJ0 : String := "java/lang/String"
def TJ0 : u_T := fun k => match k with
  | _ => ("", "", "", false)
def tyJ0 : Nat → FieldType := fun k => match k with
  | _ => .int
theorem nmJ0 : ∀ a, a < 0 → ∀ b, b < 0 → a ≠ b → (TJ0 a).2.1 ≠ (TJ0 b).2.1 := by decide +kernel
theorem tyJ0_ok : ∀ k, k < 0 → parseFieldDescriptor (TJ0 k).2.2.1 = some (tyJ0 k) := by decide +kernel
abbrev cJ0_length_8abf5 : ByteArray := prog_16_method_54_code
def yJ0_length_8abf5 : MethodName := ⟨RJ0, "length", "()I"⟩
abbrev cJ0_charAt_5068e : ByteArray := prog_16_method_56_code
def yJ0_charAt_5068e : MethodName := ⟨RJ0, "charAt", "(I)C"⟩
abbrev cJ0_coder_7d493 : ByteArray := prog_16_method_152_code
def yJ0_coder_7d493 : MethodName := ⟨RJ0, "coder", "()B"⟩
abbrev cJ0_isLatin1_aae02 : ByteArray := prog_16_method_154_code
def yJ0_isLatin1_aae02 : MethodName := ⟨RJ0, "isLatin1", "()Z"⟩
abbrev cJ0_checkIndex_df160 : ByteArray := prog_16_method_155_code
def yJ0_checkIndex_df160 : MethodName := ⟨RJ0, "checkIndex", "(II)V"⟩
def RJ1 : String := "java/lang/StringLatin1"
def TJ1 : u_T := fun k => match k with
  | _ => ("", "", "", false)
def tyJ1 : Nat → FieldType := fun k => match k with
  | _ => .int
theorem nmJ1 : ∀ a, a < 0 → ∀ b, b < 0 → a ≠ b → (TJ1 a).2.1 ≠ (TJ1 b).2.1 := by decide +kernel
theorem tyJ1_ok : ∀ k, k < 0 → parseFieldDescriptor (TJ1 k).2.2.1 = some (tyJ1 k) := by decide +kernel
abbrev cJ1_charAt_3b067 : ByteArray := prog_17_method_2_code
def yJ1_charAt_3b067 : MethodName := ⟨RJ1, "charAt", "([BI)C"⟩
def RJ2 : String := "java/lang/StringUTF16"
def TJ2 : u_T := fun k => match k with
  | _ => ("", "", "", false)
def tyJ2 : Nat → FieldType := fun k => match k with
  | _ => .int
theorem nmJ2 : ∀ a, a < 0 → ∀ b, b < 0 → a ≠ b → (TJ2 a).2.1 ≠ (TJ2 b).2.1 := by decide +kernel
theorem tyJ2_ok : ∀ k, k < 0 → parseFieldDescriptor (TJ2 k).2.2.1 = some (tyJ2 k) := by decide +kernel
abbrev cJ2_getChar_3b067 : ByteArray := prog_18_method_5_code
def yJ2_getChar_3b067 : MethodName := ⟨RJ2, "getChar", "([BI)C"⟩
abbrev cJ2_length_9d52b : ByteArray := prog_18_method_6_code
def yJ2_length_9d52b : MethodName := ⟨RJ2, "length", "([B)I"⟩
abbrev cJ2_charAt_3b067 : ByteArray := prog_18_method_83_code
def yJ2_charAt_3b067 : MethodName := ⟨RJ2, "charAt", "([BI)C"⟩
abbrev cJ2_checkIndex_2214a : ByteArray := prog_18_method_91_code
def yJ2_checkIndex_2214a : MethodName := ⟨RJ2, "checkIndex", "(I[B)V"⟩
def RJ3 : String := "jdk/internal/util/Preconditions"
def TJ3 : u_T := fun k => match k with
  | _ => ("", "", "", false)
def tyJ3 : Nat → FieldType := fun k => match k with
  | _ => .int
theorem nmJ3 : ∀ a, a < 0 → ∀ b, b < 0 → a ≠ b → (TJ3 a).2.1 ≠ (TJ3 b).2.1 := by decide +kernel
theorem tyJ3_ok : ∀ k, k < 0 → parseFieldDescriptor (TJ3 k).2.2.1 = some (tyJ3 k) := by decide +kernel
abbrev cJ3_checkIndex_8e157 : ByteArray := prog_19_method_11_code
def yJ3_checkIndex_8e157 : MethodName := ⟨RJ3, "checkIndex", "(IILjava/util/function/BiFunction;)I"⟩
def RL : String := "WheatSeaLaw"
abbrev cL_law : ByteArray := code
def yL_law : MethodName := ⟨RL, "law", "([I)Z"⟩
abbrev vwCl : List vw_C := [(RX0, TX0, 2), (RX1, TX1, 3), (RX2, TX2, 3), (RX3, TX3, 3), (RX4, TX4, 3), (RX5, TX5, 7), (RX6, TX6, 4), (RX7, TX7, 3), (RX8, TX8, 6), (RX9, TX9, 3), (RX10, TX10, 3), (RX11, TX11, 13), (RX12, TX12, 28)]
end
section
theorem dX0_init_0 : decode cX0_init 0 = .ok (.aload_n 0, 1) := by decide +kernel
theorem dX0_init_1 : decode cX0_init 1 = .ok (.invokespecial 3, 3) := by decide +kernel
theorem dX0_init_4 : decode cX0_init 4 = .ok (.aload_n 0, 1) := by decide +kernel
theorem dX0_init_5 : decode cX0_init 5 = .ok (.bipush 12, 2) := by decide +kernel
theorem dX0_init_7 : decode cX0_init 7 = .ok (.newarray .int, 2) := by decide +kernel
theorem dX0_init_9 : decode cX0_init 9 = .ok (.putfield 9, 3) := by decide +kernel
theorem dX0_init_12 : decode cX0_init 12 = .ok (.aload_n 0, 1) := by decide +kernel
theorem dX0_init_13 : decode cX0_init 13 = .ok (.bipush 12, 2) := by decide +kernel
theorem dX0_init_15 : decode cX0_init 15 = .ok (.newarray .int, 2) := by decide +kernel
theorem dX0_init_17 : decode cX0_init 17 = .ok (.putfield 15, 3) := by decide +kernel
theorem dX0_init_20 : decode cX0_init 20 = .ok (.return_, 1) := by decide +kernel
theorem dX0_plot_0 : decode cX0_plot 0 = .ok (.iconst 0, 1) := by decide +kernel
theorem dX0_plot_1 : decode cX0_plot 1 = .ok (.istore 5, 2) := by decide +kernel
theorem dX0_plot_3 : decode cX0_plot 3 = .ok (.iload 5, 2) := by decide +kernel
theorem dX0_plot_5 : decode cX0_plot 5 = .ok (.bipush 12, 2) := by decide +kernel
theorem dX0_plot_7 : decode cX0_plot 7 = .ok (.if_icmp .ge 25, 3) := by decide +kernel
theorem dX0_plot_10 : decode cX0_plot 10 = .ok (.aload_n 0, 1) := by decide +kernel
theorem dX0_plot_11 : decode cX0_plot 11 = .ok (.getfield 9, 3) := by decide +kernel
theorem dX0_plot_14 : decode cX0_plot 14 = .ok (.iload 5, 2) := by decide +kernel
theorem dX0_plot_16 : decode cX0_plot 16 = .ok (.iconst (-1), 1) := by decide +kernel
theorem dX0_plot_17 : decode cX0_plot 17 = .ok (.iastore, 1) := by decide +kernel
theorem dX0_plot_18 : decode cX0_plot 18 = .ok (.aload_n 0, 1) := by decide +kernel
theorem dX0_plot_19 : decode cX0_plot 19 = .ok (.getfield 15, 3) := by decide +kernel
theorem dX0_plot_22 : decode cX0_plot 22 = .ok (.iload 5, 2) := by decide +kernel
theorem dX0_plot_24 : decode cX0_plot 24 = .ok (.iconst (-1), 1) := by decide +kernel
theorem dX0_plot_25 : decode cX0_plot 25 = .ok (.iastore, 1) := by decide +kernel
theorem dX0_plot_26 : decode cX0_plot 26 = .ok (.iinc 5 1, 3) := by decide +kernel
theorem dX0_plot_29 : decode cX0_plot 29 = .ok (.goto (-26), 3) := by decide +kernel
theorem dX0_plot_32 : decode cX0_plot 32 = .ok (.iload_n 3, 1) := by decide +kernel
theorem dX0_plot_33 : decode cX0_plot 33 = .ok (.invokestatic 18, 3) := by decide +kernel
theorem dX0_plot_36 : decode cX0_plot 36 = .ok (.ifCond .ne 4, 3) := by decide +kernel
theorem dX0_plot_39 : decode cX0_plot 39 = .ok (.return_, 1) := by decide +kernel
theorem dX0_plot_40 : decode cX0_plot 40 = .ok (.aload_n 0, 1) := by decide +kernel
theorem dX0_plot_41 : decode cX0_plot 41 = .ok (.getfield 9, 3) := by decide +kernel
theorem dX0_plot_44 : decode cX0_plot 44 = .ok (.iload_n 3, 1) := by decide +kernel
theorem dX0_plot_45 : decode cX0_plot 45 = .ok (.iload 4, 2) := by decide +kernel
theorem dX0_plot_47 : decode cX0_plot 47 = .ok (.iastore, 1) := by decide +kernel
theorem dX0_plot_48 : decode cX0_plot 48 = .ok (.iconst 0, 1) := by decide +kernel
theorem dX0_plot_49 : decode cX0_plot 49 = .ok (.istore 5, 2) := by decide +kernel
theorem dX0_plot_51 : decode cX0_plot 51 = .ok (.iload_n 3, 1) := by decide +kernel
theorem dX0_plot_52 : decode cX0_plot 52 = .ok (.istore 6, 2) := by decide +kernel
theorem dX0_plot_54 : decode cX0_plot 54 = .ok (.iconst 0, 1) := by decide +kernel
theorem dX0_plot_55 : decode cX0_plot 55 = .ok (.istore 7, 2) := by decide +kernel
theorem dX0_plot_57 : decode cX0_plot 57 = .ok (.iload 7, 2) := by decide +kernel
theorem dX0_plot_59 : decode cX0_plot 59 = .ok (.bipush 12, 2) := by decide +kernel
theorem dX0_plot_61 : decode cX0_plot 61 = .ok (.if_icmp .ge 40, 3) := by decide +kernel
theorem dX0_plot_64 : decode cX0_plot 64 = .ok (.iload 6, 2) := by decide +kernel
theorem dX0_plot_66 : decode cX0_plot 66 = .ok (.iconst (-1), 1) := by decide +kernel
theorem dX0_plot_67 : decode cX0_plot 67 = .ok (.if_icmp .eq 34, 3) := by decide +kernel
theorem dX0_plot_70 : decode cX0_plot 70 = .ok (.iload 5, 2) := by decide +kernel
theorem dX0_plot_72 : decode cX0_plot 72 = .ok (.iconst 1, 1) := by decide +kernel
theorem dX0_plot_73 : decode cX0_plot 73 = .ok (.iload 6, 2) := by decide +kernel
theorem dX0_plot_75 : decode cX0_plot 75 = .ok (.ishl, 1) := by decide +kernel
theorem dX0_plot_76 : decode cX0_plot 76 = .ok (.ior, 1) := by decide +kernel
theorem dX0_plot_77 : decode cX0_plot 77 = .ok (.istore 5, 2) := by decide +kernel
theorem dX0_plot_79 : decode cX0_plot 79 = .ok (.aload_n 0, 1) := by decide +kernel
theorem dX0_plot_80 : decode cX0_plot 80 = .ok (.aload_n 1, 1) := by decide +kernel
theorem dX0_plot_81 : decode cX0_plot 81 = .ok (.aload_n 2, 1) := by decide +kernel
theorem dX0_plot_82 : decode cX0_plot 82 = .ok (.iload 6, 2) := by decide +kernel
theorem dX0_plot_84 : decode cX0_plot 84 = .ok (.invokevirtual 22, 3) := by decide +kernel
theorem dX0_plot_87 : decode cX0_plot 87 = .ok (.aload_n 0, 1) := by decide +kernel
theorem dX0_plot_88 : decode cX0_plot 88 = .ok (.iload 5, 2) := by decide +kernel
theorem dX0_plot_90 : decode cX0_plot 90 = .ok (.invokevirtual 26, 3) := by decide +kernel
theorem dX0_plot_93 : decode cX0_plot 93 = .ok (.istore 6, 2) := by decide +kernel
theorem dX0_plot_95 : decode cX0_plot 95 = .ok (.iinc 7 1, 3) := by decide +kernel
theorem dX0_plot_98 : decode cX0_plot 98 = .ok (.goto (-41), 3) := by decide +kernel
theorem dX0_plot_101 : decode cX0_plot 101 = .ok (.return_, 1) := by decide +kernel
theorem dX0_hourAt_0 : decode cX0_hourAt 0 = .ok (.iload_n 1, 1) := by decide +kernel
theorem dX0_hourAt_1 : decode cX0_hourAt 1 = .ok (.invokestatic 18, 3) := by decide +kernel
theorem dX0_hourAt_4 : decode cX0_hourAt 4 = .ok (.ifCond .eq 12, 3) := by decide +kernel
theorem dX0_hourAt_7 : decode cX0_hourAt 7 = .ok (.aload_n 0, 1) := by decide +kernel
theorem dX0_hourAt_8 : decode cX0_hourAt 8 = .ok (.getfield 9, 3) := by decide +kernel
theorem dX0_hourAt_11 : decode cX0_hourAt 11 = .ok (.iload_n 1, 1) := by decide +kernel
theorem dX0_hourAt_12 : decode cX0_hourAt 12 = .ok (.iaload, 1) := by decide +kernel
theorem dX0_hourAt_13 : decode cX0_hourAt 13 = .ok (.goto 4, 3) := by decide +kernel
theorem dX0_hourAt_16 : decode cX0_hourAt 16 = .ok (.iconst (-1), 1) := by decide +kernel
theorem dX0_hourAt_17 : decode cX0_hourAt 17 = .ok (.ireturn, 1) := by decide +kernel
theorem dX0_firstWayTo_0 : decode cX0_firstWayTo 0 = .ok (.iload_n 1, 1) := by decide +kernel
theorem dX0_firstWayTo_1 : decode cX0_firstWayTo 1 = .ok (.invokestatic 18, 3) := by decide +kernel
theorem dX0_firstWayTo_4 : decode cX0_firstWayTo 4 = .ok (.ifCond .eq 12, 3) := by decide +kernel
theorem dX0_firstWayTo_7 : decode cX0_firstWayTo 7 = .ok (.aload_n 0, 1) := by decide +kernel
theorem dX0_firstWayTo_8 : decode cX0_firstWayTo 8 = .ok (.getfield 15, 3) := by decide +kernel
theorem dX0_firstWayTo_11 : decode cX0_firstWayTo 11 = .ok (.iload_n 1, 1) := by decide +kernel
theorem dX0_firstWayTo_12 : decode cX0_firstWayTo 12 = .ok (.iaload, 1) := by decide +kernel
theorem dX0_firstWayTo_13 : decode cX0_firstWayTo 13 = .ok (.goto 4, 3) := by decide +kernel
theorem dX0_firstWayTo_16 : decode cX0_firstWayTo 16 = .ok (.iconst (-1), 1) := by decide +kernel
theorem dX0_firstWayTo_17 : decode cX0_firstWayTo 17 = .ok (.ireturn, 1) := by decide +kernel
theorem dX0_sailOnFrom_0 : decode cX0_sailOnFrom 0 = .ok (.iload_n 3, 1) := by decide +kernel
theorem dX0_sailOnFrom_1 : decode cX0_sailOnFrom 1 = .ok (.invokestatic 18, 3) := by decide +kernel
theorem dX0_sailOnFrom_4 : decode cX0_sailOnFrom 4 = .ok (.ifCond .ne 4, 3) := by decide +kernel
theorem dX0_sailOnFrom_7 : decode cX0_sailOnFrom 7 = .ok (.return_, 1) := by decide +kernel
theorem dX0_sailOnFrom_8 : decode cX0_sailOnFrom 8 = .ok (.iconst 0, 1) := by decide +kernel
theorem dX0_sailOnFrom_9 : decode cX0_sailOnFrom 9 = .ok (.istore 4, 2) := by decide +kernel
theorem dX0_sailOnFrom_11 : decode cX0_sailOnFrom 11 = .ok (.iload 4, 2) := by decide +kernel
theorem dX0_sailOnFrom_13 : decode cX0_sailOnFrom 13 = .ok (.iconst 4, 1) := by decide +kernel
theorem dX0_sailOnFrom_14 : decode cX0_sailOnFrom 14 = .ok (.if_icmp .ge 75, 3) := by decide +kernel
theorem dX0_sailOnFrom_17 : decode cX0_sailOnFrom 17 = .ok (.aload_n 1, 1) := by decide +kernel
theorem dX0_sailOnFrom_18 : decode cX0_sailOnFrom 18 = .ok (.aload_n 2, 1) := by decide +kernel
theorem dX0_sailOnFrom_19 : decode cX0_sailOnFrom 19 = .ok (.iload_n 3, 1) := by decide +kernel
theorem dX0_sailOnFrom_20 : decode cX0_sailOnFrom 20 = .ok (.iload 4, 2) := by decide +kernel
theorem dX0_sailOnFrom_22 : decode cX0_sailOnFrom 22 = .ok (.aload_n 0, 1) := by decide +kernel
theorem dX0_sailOnFrom_23 : decode cX0_sailOnFrom 23 = .ok (.getfield 9, 3) := by decide +kernel
theorem dX0_sailOnFrom_26 : decode cX0_sailOnFrom 26 = .ok (.iload_n 3, 1) := by decide +kernel
theorem dX0_sailOnFrom_27 : decode cX0_sailOnFrom 27 = .ok (.iaload, 1) := by decide +kernel
theorem dX0_sailOnFrom_28 : decode cX0_sailOnFrom 28 = .ok (.invokevirtual 30, 3) := by decide +kernel
theorem dX0_sailOnFrom_31 : decode cX0_sailOnFrom 31 = .ok (.istore 5, 2) := by decide +kernel
theorem dX0_sailOnFrom_33 : decode cX0_sailOnFrom 33 = .ok (.iload 5, 2) := by decide +kernel
theorem dX0_sailOnFrom_35 : decode cX0_sailOnFrom 35 = .ok (.iconst (-1), 1) := by decide +kernel
theorem dX0_sailOnFrom_36 : decode cX0_sailOnFrom 36 = .ok (.if_icmp .eq 47, 3) := by decide +kernel
theorem dX0_sailOnFrom_39 : decode cX0_sailOnFrom 39 = .ok (.aload_n 0, 1) := by decide +kernel
theorem dX0_sailOnFrom_40 : decode cX0_sailOnFrom 40 = .ok (.getfield 15, 3) := by decide +kernel
theorem dX0_sailOnFrom_43 : decode cX0_sailOnFrom 43 = .ok (.iload_n 3, 1) := by decide +kernel
theorem dX0_sailOnFrom_44 : decode cX0_sailOnFrom 44 = .ok (.iaload, 1) := by decide +kernel
theorem dX0_sailOnFrom_45 : decode cX0_sailOnFrom 45 = .ok (.iconst (-1), 1) := by decide +kernel
theorem dX0_sailOnFrom_46 : decode cX0_sailOnFrom 46 = .ok (.if_icmp .ne 8, 3) := by decide +kernel
theorem dX0_sailOnFrom_49 : decode cX0_sailOnFrom 49 = .ok (.iload 4, 2) := by decide +kernel
theorem dX0_sailOnFrom_51 : decode cX0_sailOnFrom 51 = .ok (.goto 9, 3) := by decide +kernel
theorem dX0_sailOnFrom_54 : decode cX0_sailOnFrom 54 = .ok (.aload_n 0, 1) := by decide +kernel
theorem dX0_sailOnFrom_55 : decode cX0_sailOnFrom 55 = .ok (.getfield 15, 3) := by decide +kernel
theorem dX0_sailOnFrom_58 : decode cX0_sailOnFrom 58 = .ok (.iload_n 3, 1) := by decide +kernel
theorem dX0_sailOnFrom_59 : decode cX0_sailOnFrom 59 = .ok (.iaload, 1) := by decide +kernel
theorem dX0_sailOnFrom_60 : decode cX0_sailOnFrom 60 = .ok (.istore 6, 2) := by decide +kernel
theorem dX0_sailOnFrom_62 : decode cX0_sailOnFrom 62 = .ok (.aload_n 0, 1) := by decide +kernel
theorem dX0_sailOnFrom_63 : decode cX0_sailOnFrom 63 = .ok (.iload_n 3, 1) := by decide +kernel
theorem dX0_sailOnFrom_64 : decode cX0_sailOnFrom 64 = .ok (.iload 4, 2) := by decide +kernel
theorem dX0_sailOnFrom_66 : decode cX0_sailOnFrom 66 = .ok (.invokestatic 36, 3) := by decide +kernel
theorem dX0_sailOnFrom_69 : decode cX0_sailOnFrom 69 = .ok (.aload_n 0, 1) := by decide +kernel
theorem dX0_sailOnFrom_70 : decode cX0_sailOnFrom 70 = .ok (.getfield 9, 3) := by decide +kernel
theorem dX0_sailOnFrom_73 : decode cX0_sailOnFrom 73 = .ok (.iload_n 3, 1) := by decide +kernel
theorem dX0_sailOnFrom_74 : decode cX0_sailOnFrom 74 = .ok (.iaload, 1) := by decide +kernel
theorem dX0_sailOnFrom_75 : decode cX0_sailOnFrom 75 = .ok (.iload 5, 2) := by decide +kernel
theorem dX0_sailOnFrom_77 : decode cX0_sailOnFrom 77 = .ok (.iadd, 1) := by decide +kernel
theorem dX0_sailOnFrom_78 : decode cX0_sailOnFrom 78 = .ok (.iload 6, 2) := by decide +kernel
theorem dX0_sailOnFrom_80 : decode cX0_sailOnFrom 80 = .ok (.invokevirtual 40, 3) := by decide +kernel
theorem dX0_sailOnFrom_83 : decode cX0_sailOnFrom 83 = .ok (.iinc 4 1, 3) := by decide +kernel
theorem dX0_sailOnFrom_86 : decode cX0_sailOnFrom 86 = .ok (.goto (-75), 3) := by decide +kernel
theorem dX0_sailOnFrom_89 : decode cX0_sailOnFrom 89 = .ok (.return_, 1) := by decide +kernel
theorem dX0_arrive_0 : decode cX0_arrive 0 = .ok (.iload_n 1, 1) := by decide +kernel
theorem dX0_arrive_1 : decode cX0_arrive 1 = .ok (.invokestatic 18, 3) := by decide +kernel
theorem dX0_arrive_4 : decode cX0_arrive 4 = .ok (.ifCond .ne 4, 3) := by decide +kernel
theorem dX0_arrive_7 : decode cX0_arrive 7 = .ok (.return_, 1) := by decide +kernel
theorem dX0_arrive_8 : decode cX0_arrive 8 = .ok (.aload_n 0, 1) := by decide +kernel
theorem dX0_arrive_9 : decode cX0_arrive 9 = .ok (.getfield 9, 3) := by decide +kernel
theorem dX0_arrive_12 : decode cX0_arrive 12 = .ok (.iload_n 1, 1) := by decide +kernel
theorem dX0_arrive_13 : decode cX0_arrive 13 = .ok (.iaload, 1) := by decide +kernel
theorem dX0_arrive_14 : decode cX0_arrive 14 = .ok (.iconst (-1), 1) := by decide +kernel
theorem dX0_arrive_15 : decode cX0_arrive 15 = .ok (.if_icmp .eq 13, 3) := by decide +kernel
theorem dX0_arrive_18 : decode cX0_arrive 18 = .ok (.iload_n 2, 1) := by decide +kernel
theorem dX0_arrive_19 : decode cX0_arrive 19 = .ok (.aload_n 0, 1) := by decide +kernel
theorem dX0_arrive_20 : decode cX0_arrive 20 = .ok (.getfield 9, 3) := by decide +kernel
theorem dX0_arrive_23 : decode cX0_arrive 23 = .ok (.iload_n 1, 1) := by decide +kernel
theorem dX0_arrive_24 : decode cX0_arrive 24 = .ok (.iaload, 1) := by decide +kernel
theorem dX0_arrive_25 : decode cX0_arrive 25 = .ok (.if_icmp .ge 7, 3) := by decide +kernel
theorem dX0_arrive_28 : decode cX0_arrive 28 = .ok (.iconst 1, 1) := by decide +kernel
theorem dX0_arrive_29 : decode cX0_arrive 29 = .ok (.goto 4, 3) := by decide +kernel
theorem dX0_arrive_32 : decode cX0_arrive 32 = .ok (.iconst 0, 1) := by decide +kernel
theorem dX0_arrive_33 : decode cX0_arrive 33 = .ok (.istore 4, 2) := by decide +kernel
theorem dX0_arrive_35 : decode cX0_arrive 35 = .ok (.iload 4, 2) := by decide +kernel
theorem dX0_arrive_37 : decode cX0_arrive 37 = .ok (.ifCond .ne 23, 3) := by decide +kernel
theorem dX0_arrive_40 : decode cX0_arrive 40 = .ok (.iload_n 2, 1) := by decide +kernel
theorem dX0_arrive_41 : decode cX0_arrive 41 = .ok (.aload_n 0, 1) := by decide +kernel
theorem dX0_arrive_42 : decode cX0_arrive 42 = .ok (.getfield 9, 3) := by decide +kernel
theorem dX0_arrive_45 : decode cX0_arrive 45 = .ok (.iload_n 1, 1) := by decide +kernel
theorem dX0_arrive_46 : decode cX0_arrive 46 = .ok (.iaload, 1) := by decide +kernel
theorem dX0_arrive_47 : decode cX0_arrive 47 = .ok (.if_icmp .ne 27, 3) := by decide +kernel
theorem dX0_arrive_50 : decode cX0_arrive 50 = .ok (.iload_n 3, 1) := by decide +kernel
theorem dX0_arrive_51 : decode cX0_arrive 51 = .ok (.aload_n 0, 1) := by decide +kernel
theorem dX0_arrive_52 : decode cX0_arrive 52 = .ok (.getfield 15, 3) := by decide +kernel
theorem dX0_arrive_55 : decode cX0_arrive 55 = .ok (.iload_n 1, 1) := by decide +kernel
theorem dX0_arrive_56 : decode cX0_arrive 56 = .ok (.iaload, 1) := by decide +kernel
theorem dX0_arrive_57 : decode cX0_arrive 57 = .ok (.if_icmp .ge 17, 3) := by decide +kernel
theorem dX0_arrive_60 : decode cX0_arrive 60 = .ok (.aload_n 0, 1) := by decide +kernel
theorem dX0_arrive_61 : decode cX0_arrive 61 = .ok (.getfield 9, 3) := by decide +kernel
theorem dX0_arrive_64 : decode cX0_arrive 64 = .ok (.iload_n 1, 1) := by decide +kernel
theorem dX0_arrive_65 : decode cX0_arrive 65 = .ok (.iload_n 2, 1) := by decide +kernel
theorem dX0_arrive_66 : decode cX0_arrive 66 = .ok (.iastore, 1) := by decide +kernel
theorem dX0_arrive_67 : decode cX0_arrive 67 = .ok (.aload_n 0, 1) := by decide +kernel
theorem dX0_arrive_68 : decode cX0_arrive 68 = .ok (.getfield 15, 3) := by decide +kernel
theorem dX0_arrive_71 : decode cX0_arrive 71 = .ok (.iload_n 1, 1) := by decide +kernel
theorem dX0_arrive_72 : decode cX0_arrive 72 = .ok (.iload_n 3, 1) := by decide +kernel
theorem dX0_arrive_73 : decode cX0_arrive 73 = .ok (.iastore, 1) := by decide +kernel
theorem dX0_arrive_74 : decode cX0_arrive 74 = .ok (.return_, 1) := by decide +kernel
theorem dX0_soonestOpen_0 : decode cX0_soonestOpen 0 = .ok (.iconst (-1), 1) := by decide +kernel
theorem dX0_soonestOpen_1 : decode cX0_soonestOpen 1 = .ok (.istore_n 2, 1) := by decide +kernel
theorem dX0_soonestOpen_2 : decode cX0_soonestOpen 2 = .ok (.iconst 0, 1) := by decide +kernel
theorem dX0_soonestOpen_3 : decode cX0_soonestOpen 3 = .ok (.istore_n 3, 1) := by decide +kernel
theorem dX0_soonestOpen_4 : decode cX0_soonestOpen 4 = .ok (.iload_n 3, 1) := by decide +kernel
theorem dX0_soonestOpen_5 : decode cX0_soonestOpen 5 = .ok (.bipush 12, 2) := by decide +kernel
theorem dX0_soonestOpen_7 : decode cX0_soonestOpen 7 = .ok (.if_icmp .ge 61, 3) := by decide +kernel
theorem dX0_soonestOpen_10 : decode cX0_soonestOpen 10 = .ok (.iload_n 1, 1) := by decide +kernel
theorem dX0_soonestOpen_11 : decode cX0_soonestOpen 11 = .ok (.iload_n 3, 1) := by decide +kernel
theorem dX0_soonestOpen_12 : decode cX0_soonestOpen 12 = .ok (.ishr, 1) := by decide +kernel
theorem dX0_soonestOpen_13 : decode cX0_soonestOpen 13 = .ok (.iconst 1, 1) := by decide +kernel
theorem dX0_soonestOpen_14 : decode cX0_soonestOpen 14 = .ok (.iand, 1) := by decide +kernel
theorem dX0_soonestOpen_15 : decode cX0_soonestOpen 15 = .ok (.ifCond .ne 17, 3) := by decide +kernel
theorem dX0_soonestOpen_18 : decode cX0_soonestOpen 18 = .ok (.aload_n 0, 1) := by decide +kernel
theorem dX0_soonestOpen_19 : decode cX0_soonestOpen 19 = .ok (.getfield 9, 3) := by decide +kernel
theorem dX0_soonestOpen_22 : decode cX0_soonestOpen 22 = .ok (.iload_n 3, 1) := by decide +kernel
theorem dX0_soonestOpen_23 : decode cX0_soonestOpen 23 = .ok (.iaload, 1) := by decide +kernel
theorem dX0_soonestOpen_24 : decode cX0_soonestOpen 24 = .ok (.iconst (-1), 1) := by decide +kernel
theorem dX0_soonestOpen_25 : decode cX0_soonestOpen 25 = .ok (.if_icmp .eq 7, 3) := by decide +kernel
theorem dX0_soonestOpen_28 : decode cX0_soonestOpen 28 = .ok (.iconst 1, 1) := by decide +kernel
theorem dX0_soonestOpen_29 : decode cX0_soonestOpen 29 = .ok (.goto 4, 3) := by decide +kernel
theorem dX0_soonestOpen_32 : decode cX0_soonestOpen 32 = .ok (.iconst 0, 1) := by decide +kernel
theorem dX0_soonestOpen_33 : decode cX0_soonestOpen 33 = .ok (.istore 4, 2) := by decide +kernel
theorem dX0_soonestOpen_35 : decode cX0_soonestOpen 35 = .ok (.iload 4, 2) := by decide +kernel
theorem dX0_soonestOpen_37 : decode cX0_soonestOpen 37 = .ok (.ifCond .eq 25, 3) := by decide +kernel
theorem dX0_soonestOpen_40 : decode cX0_soonestOpen 40 = .ok (.iload_n 2, 1) := by decide +kernel
theorem dX0_soonestOpen_41 : decode cX0_soonestOpen 41 = .ok (.iconst (-1), 1) := by decide +kernel
theorem dX0_soonestOpen_42 : decode cX0_soonestOpen 42 = .ok (.if_icmp .eq 18, 3) := by decide +kernel
theorem dX0_soonestOpen_45 : decode cX0_soonestOpen 45 = .ok (.aload_n 0, 1) := by decide +kernel
theorem dX0_soonestOpen_46 : decode cX0_soonestOpen 46 = .ok (.getfield 9, 3) := by decide +kernel
theorem dX0_soonestOpen_49 : decode cX0_soonestOpen 49 = .ok (.iload_n 3, 1) := by decide +kernel
theorem dX0_soonestOpen_50 : decode cX0_soonestOpen 50 = .ok (.iaload, 1) := by decide +kernel
theorem dX0_soonestOpen_51 : decode cX0_soonestOpen 51 = .ok (.aload_n 0, 1) := by decide +kernel
theorem dX0_soonestOpen_52 : decode cX0_soonestOpen 52 = .ok (.getfield 9, 3) := by decide +kernel
theorem dX0_soonestOpen_55 : decode cX0_soonestOpen 55 = .ok (.iload_n 2, 1) := by decide +kernel
theorem dX0_soonestOpen_56 : decode cX0_soonestOpen 56 = .ok (.iaload, 1) := by decide +kernel
theorem dX0_soonestOpen_57 : decode cX0_soonestOpen 57 = .ok (.if_icmp .ge 5, 3) := by decide +kernel
theorem dX0_soonestOpen_60 : decode cX0_soonestOpen 60 = .ok (.iload_n 3, 1) := by decide +kernel
theorem dX0_soonestOpen_61 : decode cX0_soonestOpen 61 = .ok (.istore_n 2, 1) := by decide +kernel
theorem dX0_soonestOpen_62 : decode cX0_soonestOpen 62 = .ok (.iinc 3 1, 3) := by decide +kernel
theorem dX0_soonestOpen_65 : decode cX0_soonestOpen 65 = .ok (.goto (-61), 3) := by decide +kernel
theorem dX0_soonestOpen_68 : decode cX0_soonestOpen 68 = .ok (.iload_n 2, 1) := by decide +kernel
theorem dX0_soonestOpen_69 : decode cX0_soonestOpen 69 = .ok (.ireturn, 1) := by decide +kernel
theorem dX1_init_0 : decode cX1_init 0 = .ok (.aload_n 0, 1) := by decide +kernel
theorem dX1_init_1 : decode cX1_init 1 = .ok (.iload_n 1, 1) := by decide +kernel
theorem dX1_init_2 : decode cX1_init 2 = .ok (.iload_n 2, 1) := by decide +kernel
theorem dX1_init_3 : decode cX1_init 3 = .ok (.invokespecial 1, 3) := by decide +kernel
theorem dX1_init_6 : decode cX1_init 6 = .ok (.return_, 1) := by decide +kernel
theorem dX1_kind_0 : decode cX1_kind 0 = .ok (.iconst 4, 1) := by decide +kernel
theorem dX1_kind_1 : decode cX1_kind 1 = .ok (.ireturn, 1) := by decide +kernel
theorem dX1_hoursBecalmed_0 : decode cX1_hoursBecalmed 0 = .ok (.iconst 2, 1) := by decide +kernel
theorem dX1_hoursBecalmed_1 : decode cX1_hoursBecalmed 1 = .ok (.ireturn, 1) := by decide +kernel
theorem dX1_hoursAgainst_0 : decode cX1_hoursAgainst 0 = .ok (.iconst 3, 1) := by decide +kernel
theorem dX1_hoursAgainst_1 : decode cX1_hoursAgainst 1 = .ok (.ireturn, 1) := by decide +kernel
theorem dX2_init_0 : decode cX2_init 0 = .ok (.aload_n 0, 1) := by decide +kernel
theorem dX2_init_1 : decode cX2_init 1 = .ok (.iload_n 1, 1) := by decide +kernel
theorem dX2_init_2 : decode cX2_init 2 = .ok (.iload_n 2, 1) := by decide +kernel
theorem dX2_init_3 : decode cX2_init 3 = .ok (.invokespecial 1, 3) := by decide +kernel
theorem dX2_init_6 : decode cX2_init 6 = .ok (.return_, 1) := by decide +kernel
theorem dX2_kind_0 : decode cX2_kind 0 = .ok (.iconst 2, 1) := by decide +kernel
theorem dX2_kind_1 : decode cX2_kind 1 = .ok (.ireturn, 1) := by decide +kernel
theorem dX2_hoursAgainst_0 : decode cX2_hoursAgainst 0 = .ok (.iconst 4, 1) := by decide +kernel
theorem dX2_hoursAgainst_1 : decode cX2_hoursAgainst 1 = .ok (.ireturn, 1) := by decide +kernel
theorem dX3_init_0 : decode cX3_init 0 = .ok (.aload_n 0, 1) := by decide +kernel
theorem dX3_init_1 : decode cX3_init 1 = .ok (.invokespecial 3, 3) := by decide +kernel
theorem dX3_init_4 : decode cX3_init 4 = .ok (.return_, 1) := by decide +kernel
theorem dX3_find_0 : decode cX3_find 0 = .ok (.aload_n 0, 1) := by decide +kernel
theorem dX3_find_1 : decode cX3_find 1 = .ok (.iconst (-1), 1) := by decide +kernel
theorem dX3_find_2 : decode cX3_find 2 = .ok (.putfield 9, 3) := by decide +kernel
theorem dX3_find_5 : decode cX3_find 5 = .ok (.aload_n 0, 1) := by decide +kernel
theorem dX3_find_6 : decode cX3_find 6 = .ok (.iload 5, 2) := by decide +kernel
theorem dX3_find_8 : decode cX3_find 8 = .ok (.putfield 15, 3) := by decide +kernel
theorem dX3_find_11 : decode cX3_find 11 = .ok (.aload_n 0, 1) := by decide +kernel
theorem dX3_find_12 : decode cX3_find 12 = .ok (.iconst 0, 1) := by decide +kernel
theorem dX3_find_13 : decode cX3_find 13 = .ok (.putfield 18, 3) := by decide +kernel
theorem dX3_find_16 : decode cX3_find 16 = .ok (.iconst 0, 1) := by decide +kernel
theorem dX3_find_17 : decode cX3_find 17 = .ok (.istore 6, 2) := by decide +kernel
theorem dX3_find_19 : decode cX3_find 19 = .ok (.iload 6, 2) := by decide +kernel
theorem dX3_find_21 : decode cX3_find 21 = .ok (.getstatic 21, 3) := by decide +kernel
theorem dX3_find_24 : decode cX3_find 24 = .ok (.arraylength, 1) := by decide +kernel
theorem dX3_find_25 : decode cX3_find 25 = .ok (.iconst 3, 1) := by decide +kernel
theorem dX3_find_26 : decode cX3_find 26 = .ok (.idiv, 1) := by decide +kernel
theorem dX3_find_27 : decode cX3_find 27 = .ok (.if_icmp .ge 145, 3) := by decide +kernel
theorem dX3_find_30 : decode cX3_find 30 = .ok (.iconst 0, 1) := by decide +kernel
theorem dX3_find_31 : decode cX3_find 31 = .ok (.istore 7, 2) := by decide +kernel
theorem dX3_find_33 : decode cX3_find 33 = .ok (.iload 5, 2) := by decide +kernel
theorem dX3_find_35 : decode cX3_find 35 = .ok (.istore 8, 2) := by decide +kernel
theorem dX3_find_37 : decode cX3_find 37 = .ok (.iconst 0, 1) := by decide +kernel
theorem dX3_find_38 : decode cX3_find 38 = .ok (.istore 9, 2) := by decide +kernel
theorem dX3_find_40 : decode cX3_find 40 = .ok (.iload 9, 2) := by decide +kernel
theorem dX3_find_42 : decode cX3_find 42 = .ok (.iconst 3, 1) := by decide +kernel
theorem dX3_find_43 : decode cX3_find 43 = .ok (.if_icmp .ge 78, 3) := by decide +kernel
theorem dX3_find_46 : decode cX3_find 46 = .ok (.aload_n 0, 1) := by decide +kernel
theorem dX3_find_47 : decode cX3_find 47 = .ok (.aload_n 3, 1) := by decide +kernel
theorem dX3_find_48 : decode cX3_find 48 = .ok (.iload 6, 2) := by decide +kernel
theorem dX3_find_50 : decode cX3_find 50 = .ok (.iload 9, 2) := by decide +kernel
theorem dX3_find_52 : decode cX3_find 52 = .ok (.invokevirtual 25, 3) := by decide +kernel
theorem dX3_find_55 : decode cX3_find 55 = .ok (.astore 10, 2) := by decide +kernel
theorem dX3_find_57 : decode cX3_find 57 = .ok (.aload 10, 2) := by decide +kernel
theorem dX3_find_59 : decode cX3_find 59 = .ok (.ifnull 56, 3) := by decide +kernel
theorem dX3_find_62 : decode cX3_find 62 = .ok (.aload_n 2, 1) := by decide +kernel
theorem dX3_find_63 : decode cX3_find 63 = .ok (.aload_n 1, 1) := by decide +kernel
theorem dX3_find_64 : decode cX3_find 64 = .ok (.aload 10, 2) := by decide +kernel
theorem dX3_find_66 : decode cX3_find 66 = .ok (.aload 10, 2) := by decide +kernel
theorem dX3_find_68 : decode cX3_find 68 = .ok (.getfield 29, 3) := by decide +kernel
theorem dX3_find_71 : decode cX3_find 71 = .ok (.iload 8, 2) := by decide +kernel
theorem dX3_find_73 : decode cX3_find 73 = .ok (.invokevirtual 34, 3) := by decide +kernel
theorem dX3_find_76 : decode cX3_find 76 = .ok (.aload_n 2, 1) := by decide +kernel
theorem dX3_find_77 : decode cX3_find 77 = .ok (.iload 4, 2) := by decide +kernel
theorem dX3_find_79 : decode cX3_find 79 = .ok (.invokevirtual 40, 3) := by decide +kernel
theorem dX3_find_82 : decode cX3_find 82 = .ok (.istore 11, 2) := by decide +kernel
theorem dX3_find_84 : decode cX3_find 84 = .ok (.iload 7, 2) := by decide +kernel
theorem dX3_find_86 : decode cX3_find 86 = .ok (.iload 11, 2) := by decide +kernel
theorem dX3_find_88 : decode cX3_find 88 = .ok (.iconst (-1), 1) := by decide +kernel
theorem dX3_find_89 : decode cX3_find 89 = .ok (.if_icmp .ne 7, 3) := by decide +kernel
theorem dX3_find_92 : decode cX3_find 92 = .ok (.iconst 0, 1) := by decide +kernel
theorem dX3_find_93 : decode cX3_find 93 = .ok (.goto 4, 3) := by decide +kernel
theorem dX3_find_96 : decode cX3_find 96 = .ok (.iconst 1, 1) := by decide +kernel
theorem dX3_find_97 : decode cX3_find 97 = .ok (.iadd, 1) := by decide +kernel
theorem dX3_find_98 : decode cX3_find 98 = .ok (.istore 7, 2) := by decide +kernel
theorem dX3_find_100 : decode cX3_find 100 = .ok (.iload 11, 2) := by decide +kernel
theorem dX3_find_102 : decode cX3_find 102 = .ok (.iconst (-1), 1) := by decide +kernel
theorem dX3_find_103 : decode cX3_find 103 = .ok (.if_icmp .ne 8, 3) := by decide +kernel
theorem dX3_find_106 : decode cX3_find 106 = .ok (.iload 8, 2) := by decide +kernel
theorem dX3_find_108 : decode cX3_find 108 = .ok (.goto 5, 3) := by decide +kernel
theorem dX3_find_111 : decode cX3_find 111 = .ok (.iload 11, 2) := by decide +kernel
theorem dX3_find_113 : decode cX3_find 113 = .ok (.istore 8, 2) := by decide +kernel
theorem dX3_find_115 : decode cX3_find 115 = .ok (.iinc 9 1, 3) := by decide +kernel
theorem dX3_find_118 : decode cX3_find 118 = .ok (.goto (-78), 3) := by decide +kernel
theorem dX3_find_121 : decode cX3_find 121 = .ok (.iload 7, 2) := by decide +kernel
theorem dX3_find_123 : decode cX3_find 123 = .ok (.aload_n 0, 1) := by decide +kernel
theorem dX3_find_124 : decode cX3_find 124 = .ok (.getfield 9, 3) := by decide +kernel
theorem dX3_find_127 : decode cX3_find 127 = .ok (.if_icmp .gt 21, 3) := by decide +kernel
theorem dX3_find_130 : decode cX3_find 130 = .ok (.iload 7, 2) := by decide +kernel
theorem dX3_find_132 : decode cX3_find 132 = .ok (.aload_n 0, 1) := by decide +kernel
theorem dX3_find_133 : decode cX3_find 133 = .ok (.getfield 9, 3) := by decide +kernel
theorem dX3_find_136 : decode cX3_find 136 = .ok (.if_icmp .ne 30, 3) := by decide +kernel
theorem dX3_find_139 : decode cX3_find 139 = .ok (.iload 8, 2) := by decide +kernel
theorem dX3_find_141 : decode cX3_find 141 = .ok (.aload_n 0, 1) := by decide +kernel
theorem dX3_find_142 : decode cX3_find 142 = .ok (.getfield 15, 3) := by decide +kernel
theorem dX3_find_145 : decode cX3_find 145 = .ok (.if_icmp .ge 21, 3) := by decide +kernel
theorem dX3_find_148 : decode cX3_find 148 = .ok (.aload_n 0, 1) := by decide +kernel
theorem dX3_find_149 : decode cX3_find 149 = .ok (.iload 7, 2) := by decide +kernel
theorem dX3_find_151 : decode cX3_find 151 = .ok (.putfield 9, 3) := by decide +kernel
theorem dX3_find_154 : decode cX3_find 154 = .ok (.aload_n 0, 1) := by decide +kernel
theorem dX3_find_155 : decode cX3_find 155 = .ok (.iload 8, 2) := by decide +kernel
theorem dX3_find_157 : decode cX3_find 157 = .ok (.putfield 15, 3) := by decide +kernel
theorem dX3_find_160 : decode cX3_find 160 = .ok (.aload_n 0, 1) := by decide +kernel
theorem dX3_find_161 : decode cX3_find 161 = .ok (.iload 6, 2) := by decide +kernel
theorem dX3_find_163 : decode cX3_find 163 = .ok (.putfield 18, 3) := by decide +kernel
theorem dX3_find_166 : decode cX3_find 166 = .ok (.iinc 6 1, 3) := by decide +kernel
theorem dX3_find_169 : decode cX3_find 169 = .ok (.goto (-150), 3) := by decide +kernel
theorem dX3_find_172 : decode cX3_find 172 = .ok (.return_, 1) := by decide +kernel
theorem dX3_hullInPlace_0 : decode cX3_hullInPlace 0 = .ok (.aload_n 0, 1) := by decide +kernel
theorem dX3_hullInPlace_1 : decode cX3_hullInPlace 1 = .ok (.aload_n 0, 1) := by decide +kernel
theorem dX3_hullInPlace_2 : decode cX3_hullInPlace 2 = .ok (.getfield 18, 3) := by decide +kernel
theorem dX3_hullInPlace_5 : decode cX3_hullInPlace 5 = .ok (.iload_n 1, 1) := by decide +kernel
theorem dX3_hullInPlace_6 : decode cX3_hullInPlace 6 = .ok (.invokevirtual 44, 3) := by decide +kernel
theorem dX3_hullInPlace_9 : decode cX3_hullInPlace 9 = .ok (.ireturn, 1) := by decide +kernel
theorem dX3_hullIn_0 : decode cX3_hullIn 0 = .ok (.aload_n 0, 1) := by decide +kernel
theorem dX3_hullIn_1 : decode cX3_hullIn 1 = .ok (.iload_n 2, 1) := by decide +kernel
theorem dX3_hullIn_2 : decode cX3_hullIn 2 = .ok (.iload_n 3, 1) := by decide +kernel
theorem dX3_hullIn_3 : decode cX3_hullIn 3 = .ok (.invokevirtual 44, 3) := by decide +kernel
theorem dX3_hullIn_6 : decode cX3_hullIn 6 = .ok (.istore 4, 2) := by decide +kernel
theorem dX3_hullIn_8 : decode cX3_hullIn 8 = .ok (.iload 4, 2) := by decide +kernel
theorem dX3_hullIn_10 : decode cX3_hullIn 10 = .ok (.ifCond .lt 17, 3) := by decide +kernel
theorem dX3_hullIn_13 : decode cX3_hullIn 13 = .ok (.iload 4, 2) := by decide +kernel
theorem dX3_hullIn_15 : decode cX3_hullIn 15 = .ok (.aload_n 1, 1) := by decide +kernel
theorem dX3_hullIn_16 : decode cX3_hullIn 16 = .ok (.arraylength, 1) := by decide +kernel
theorem dX3_hullIn_17 : decode cX3_hullIn 17 = .ok (.if_icmp .ge 10, 3) := by decide +kernel
theorem dX3_hullIn_20 : decode cX3_hullIn 20 = .ok (.aload_n 1, 1) := by decide +kernel
theorem dX3_hullIn_21 : decode cX3_hullIn 21 = .ok (.iload 4, 2) := by decide +kernel
theorem dX3_hullIn_23 : decode cX3_hullIn 23 = .ok (.aaload, 1) := by decide +kernel
theorem dX3_hullIn_24 : decode cX3_hullIn 24 = .ok (.goto 4, 3) := by decide +kernel
theorem dX3_hullIn_27 : decode cX3_hullIn 27 = .ok (.aconst_null, 1) := by decide +kernel
theorem dX3_hullIn_28 : decode cX3_hullIn 28 = .ok (.areturn, 1) := by decide +kernel
theorem dX3_numberIn_0 : decode cX3_numberIn 0 = .ok (.iload_n 1, 1) := by decide +kernel
theorem dX3_numberIn_1 : decode cX3_numberIn 1 = .ok (.iconst 3, 1) := by decide +kernel
theorem dX3_numberIn_2 : decode cX3_numberIn 2 = .ok (.imul, 1) := by decide +kernel
theorem dX3_numberIn_3 : decode cX3_numberIn 3 = .ok (.iload_n 2, 1) := by decide +kernel
theorem dX3_numberIn_4 : decode cX3_numberIn 4 = .ok (.iadd, 1) := by decide +kernel
theorem dX3_numberIn_5 : decode cX3_numberIn 5 = .ok (.istore_n 3, 1) := by decide +kernel
theorem dX3_numberIn_6 : decode cX3_numberIn 6 = .ok (.iload_n 3, 1) := by decide +kernel
theorem dX3_numberIn_7 : decode cX3_numberIn 7 = .ok (.ifCond .lt 19, 3) := by decide +kernel
theorem dX3_numberIn_10 : decode cX3_numberIn 10 = .ok (.iload_n 3, 1) := by decide +kernel
theorem dX3_numberIn_11 : decode cX3_numberIn 11 = .ok (.getstatic 21, 3) := by decide +kernel
theorem dX3_numberIn_14 : decode cX3_numberIn 14 = .ok (.arraylength, 1) := by decide +kernel
theorem dX3_numberIn_15 : decode cX3_numberIn 15 = .ok (.if_icmp .ge 11, 3) := by decide +kernel
theorem dX3_numberIn_18 : decode cX3_numberIn 18 = .ok (.getstatic 21, 3) := by decide +kernel
theorem dX3_numberIn_21 : decode cX3_numberIn 21 = .ok (.iload_n 3, 1) := by decide +kernel
theorem dX3_numberIn_22 : decode cX3_numberIn 22 = .ok (.iaload, 1) := by decide +kernel
theorem dX3_numberIn_23 : decode cX3_numberIn 23 = .ok (.goto 4, 3) := by decide +kernel
theorem dX3_numberIn_26 : decode cX3_numberIn 26 = .ok (.iconst (-1), 1) := by decide +kernel
theorem dX3_numberIn_27 : decode cX3_numberIn 27 = .ok (.ireturn, 1) := by decide +kernel
theorem dX4_init_0 : decode cX4_init 0 = .ok (.aload_n 0, 1) := by decide +kernel
theorem dX4_init_1 : decode cX4_init 1 = .ok (.invokespecial 3, 3) := by decide +kernel
theorem dX4_init_4 : decode cX4_init 4 = .ok (.aload_n 0, 1) := by decide +kernel
theorem dX4_init_5 : decode cX4_init 5 = .ok (.iload_n 1, 1) := by decide +kernel
theorem dX4_init_6 : decode cX4_init 6 = .ok (.putfield 9, 3) := by decide +kernel
theorem dX4_init_9 : decode cX4_init 9 = .ok (.aload_n 0, 1) := by decide +kernel
theorem dX4_init_10 : decode cX4_init 10 = .ok (.iload_n 2, 1) := by decide +kernel
theorem dX4_init_11 : decode cX4_init 11 = .ok (.putfield 15, 3) := by decide +kernel
theorem dX4_init_14 : decode cX4_init 14 = .ok (.return_, 1) := by decide +kernel
theorem dX4_kind_0 : decode cX4_kind 0 = .ok (.iconst 0, 1) := by decide +kernel
theorem dX4_kind_1 : decode cX4_kind 1 = .ok (.ireturn, 1) := by decide +kernel
theorem dX4_cornNeeded_0 : decode cX4_cornNeeded 0 = .ok (.aload_n 0, 1) := by decide +kernel
theorem dX4_cornNeeded_1 : decode cX4_cornNeeded 1 = .ok (.getfield 9, 3) := by decide +kernel
theorem dX4_cornNeeded_4 : decode cX4_cornNeeded 4 = .ok (.ireturn, 1) := by decide +kernel
theorem dX4_hoursWith_0 : decode cX4_hoursWith 0 = .ok (.iconst 1, 1) := by decide +kernel
theorem dX4_hoursWith_1 : decode cX4_hoursWith 1 = .ok (.ireturn, 1) := by decide +kernel
theorem dX4_hoursAcross_0 : decode cX4_hoursAcross 0 = .ok (.iconst 2, 1) := by decide +kernel
theorem dX4_hoursAcross_1 : decode cX4_hoursAcross 1 = .ok (.ireturn, 1) := by decide +kernel
theorem dX4_hoursBecalmed_0 : decode cX4_hoursBecalmed 0 = .ok (.iconst 3, 1) := by decide +kernel
theorem dX4_hoursBecalmed_1 : decode cX4_hoursBecalmed 1 = .ok (.ireturn, 1) := by decide +kernel
theorem dX4_hoursAgainst_0 : decode cX4_hoursAgainst 0 = .ok (.iconst (-1), 1) := by decide +kernel
theorem dX4_hoursAgainst_1 : decode cX4_hoursAgainst 1 = .ok (.ireturn, 1) := by decide +kernel
theorem dX4_hoursFor_0 : decode cX4_hoursFor 0 = .ok (.iload_n 2, 1) := by decide +kernel
theorem dX4_hoursFor_1 : decode cX4_hoursFor 1 = .ok (.iconst 4, 1) := by decide +kernel
theorem dX4_hoursFor_2 : decode cX4_hoursFor 2 = .ok (.if_icmp .ne 8, 3) := by decide +kernel
theorem dX4_hoursFor_5 : decode cX4_hoursFor 5 = .ok (.aload_n 0, 1) := by decide +kernel
theorem dX4_hoursFor_6 : decode cX4_hoursFor 6 = .ok (.invokevirtual 18, 3) := by decide +kernel
theorem dX4_hoursFor_9 : decode cX4_hoursFor 9 = .ok (.ireturn, 1) := by decide +kernel
theorem dX4_hoursFor_10 : decode cX4_hoursFor 10 = .ok (.iload_n 1, 1) := by decide +kernel
theorem dX4_hoursFor_11 : decode cX4_hoursFor 11 = .ok (.iload_n 2, 1) := by decide +kernel
theorem dX4_hoursFor_12 : decode cX4_hoursFor 12 = .ok (.if_icmp .ne 8, 3) := by decide +kernel
theorem dX4_hoursFor_15 : decode cX4_hoursFor 15 = .ok (.aload_n 0, 1) := by decide +kernel
theorem dX4_hoursFor_16 : decode cX4_hoursFor 16 = .ok (.invokevirtual 22, 3) := by decide +kernel
theorem dX4_hoursFor_19 : decode cX4_hoursFor 19 = .ok (.ireturn, 1) := by decide +kernel
theorem dX4_hoursFor_20 : decode cX4_hoursFor 20 = .ok (.iload_n 1, 1) := by decide +kernel
theorem dX4_hoursFor_21 : decode cX4_hoursFor 21 = .ok (.iload_n 2, 1) := by decide +kernel
theorem dX4_hoursFor_22 : decode cX4_hoursFor 22 = .ok (.iconst 2, 1) := by decide +kernel
theorem dX4_hoursFor_23 : decode cX4_hoursFor 23 = .ok (.iadd, 1) := by decide +kernel
theorem dX4_hoursFor_24 : decode cX4_hoursFor 24 = .ok (.if_icmp .eq 10, 3) := by decide +kernel
theorem dX4_hoursFor_27 : decode cX4_hoursFor 27 = .ok (.iload_n 1, 1) := by decide +kernel
theorem dX4_hoursFor_28 : decode cX4_hoursFor 28 = .ok (.iload_n 2, 1) := by decide +kernel
theorem dX4_hoursFor_29 : decode cX4_hoursFor 29 = .ok (.iconst 2, 1) := by decide +kernel
theorem dX4_hoursFor_30 : decode cX4_hoursFor 30 = .ok (.isub, 1) := by decide +kernel
theorem dX4_hoursFor_31 : decode cX4_hoursFor 31 = .ok (.if_icmp .ne 8, 3) := by decide +kernel
theorem dX4_hoursFor_34 : decode cX4_hoursFor 34 = .ok (.aload_n 0, 1) := by decide +kernel
theorem dX4_hoursFor_35 : decode cX4_hoursFor 35 = .ok (.invokevirtual 25, 3) := by decide +kernel
theorem dX4_hoursFor_38 : decode cX4_hoursFor 38 = .ok (.ireturn, 1) := by decide +kernel
theorem dX4_hoursFor_39 : decode cX4_hoursFor 39 = .ok (.aload_n 0, 1) := by decide +kernel
theorem dX4_hoursFor_40 : decode cX4_hoursFor 40 = .ok (.invokevirtual 28, 3) := by decide +kernel
theorem dX4_hoursFor_43 : decode cX4_hoursFor 43 = .ok (.ireturn, 1) := by decide +kernel
theorem dX5_init_0 : decode cX5_init 0 = .ok (.aload_n 0, 1) := by decide +kernel
theorem dX5_init_1 : decode cX5_init 1 = .ok (.invokespecial 3, 3) := by decide +kernel
theorem dX5_init_4 : decode cX5_init 4 = .ok (.aload_n 0, 1) := by decide +kernel
theorem dX5_init_5 : decode cX5_init 5 = .ok (.new 9, 3) := by decide +kernel
theorem dX5_init_8 : decode cX5_init 8 = .ok (.dup, 1) := by decide +kernel
theorem dX5_init_9 : decode cX5_init 9 = .ok (.invokespecial 11, 3) := by decide +kernel
theorem dX5_init_12 : decode cX5_init 12 = .ok (.putfield 12, 3) := by decide +kernel
theorem dX5_init_15 : decode cX5_init 15 = .ok (.aload_n 0, 1) := by decide +kernel
theorem dX5_init_16 : decode cX5_init 16 = .ok (.iconst 3, 1) := by decide +kernel
theorem dX5_init_17 : decode cX5_init 17 = .ok (.newarray .int, 2) := by decide +kernel
theorem dX5_init_19 : decode cX5_init 19 = .ok (.putfield 18, 3) := by decide +kernel
theorem dX5_init_22 : decode cX5_init 22 = .ok (.aload_n 0, 1) := by decide +kernel
theorem dX5_init_23 : decode cX5_init 23 = .ok (.iconst 3, 1) := by decide +kernel
theorem dX5_init_24 : decode cX5_init 24 = .ok (.newarray .int, 2) := by decide +kernel
theorem dX5_init_26 : decode cX5_init 26 = .ok (.putfield 22, 3) := by decide +kernel
theorem dX5_init_29 : decode cX5_init 29 = .ok (.return_, 1) := by decide +kernel
theorem dX5_keep_0 : decode cX5_keep 0 = .ok (.aload_n 0, 1) := by decide +kernel
theorem dX5_keep_1 : decode cX5_keep 1 = .ok (.iconst 1, 1) := by decide +kernel
theorem dX5_keep_2 : decode cX5_keep 2 = .ok (.putfield 25, 3) := by decide +kernel
theorem dX5_keep_5 : decode cX5_keep 5 = .ok (.aload_n 0, 1) := by decide +kernel
theorem dX5_keep_6 : decode cX5_keep 6 = .ok (.iload_n 2, 1) := by decide +kernel
theorem dX5_keep_7 : decode cX5_keep 7 = .ok (.putfield 29, 3) := by decide +kernel
theorem dX5_keep_10 : decode cX5_keep 10 = .ok (.iconst 0, 1) := by decide +kernel
theorem dX5_keep_11 : decode cX5_keep 11 = .ok (.istore_n 3, 1) := by decide +kernel
theorem dX5_keep_12 : decode cX5_keep 12 = .ok (.iload_n 3, 1) := by decide +kernel
theorem dX5_keep_13 : decode cX5_keep 13 = .ok (.iconst 3, 1) := by decide +kernel
theorem dX5_keep_14 : decode cX5_keep 14 = .ok (.if_icmp .ge 47, 3) := by decide +kernel
theorem dX5_keep_17 : decode cX5_keep 17 = .ok (.iload_n 3, 1) := by decide +kernel
theorem dX5_keep_18 : decode cX5_keep 18 = .ok (.aload_n 1, 1) := by decide +kernel
theorem dX5_keep_19 : decode cX5_keep 19 = .ok (.arraylength, 1) := by decide +kernel
theorem dX5_keep_20 : decode cX5_keep 20 = .ok (.if_icmp .ge 41, 3) := by decide +kernel
theorem dX5_keep_23 : decode cX5_keep 23 = .ok (.aload_n 1, 1) := by decide +kernel
theorem dX5_keep_24 : decode cX5_keep 24 = .ok (.iload_n 3, 1) := by decide +kernel
theorem dX5_keep_25 : decode cX5_keep 25 = .ok (.aaload, 1) := by decide +kernel
theorem dX5_keep_26 : decode cX5_keep 26 = .ok (.astore 4, 2) := by decide +kernel
theorem dX5_keep_28 : decode cX5_keep 28 = .ok (.aload 4, 2) := by decide +kernel
theorem dX5_keep_30 : decode cX5_keep 30 = .ok (.ifnull 25, 3) := by decide +kernel
theorem dX5_keep_33 : decode cX5_keep 33 = .ok (.aload_n 0, 1) := by decide +kernel
theorem dX5_keep_34 : decode cX5_keep 34 = .ok (.getfield 18, 3) := by decide +kernel
theorem dX5_keep_37 : decode cX5_keep 37 = .ok (.iload_n 3, 1) := by decide +kernel
theorem dX5_keep_38 : decode cX5_keep 38 = .ok (.aload 4, 2) := by decide +kernel
theorem dX5_keep_40 : decode cX5_keep 40 = .ok (.getfield 33, 3) := by decide +kernel
theorem dX5_keep_43 : decode cX5_keep 43 = .ok (.iastore, 1) := by decide +kernel
theorem dX5_keep_44 : decode cX5_keep 44 = .ok (.aload_n 0, 1) := by decide +kernel
theorem dX5_keep_45 : decode cX5_keep 45 = .ok (.getfield 22, 3) := by decide +kernel
theorem dX5_keep_48 : decode cX5_keep 48 = .ok (.iload_n 3, 1) := by decide +kernel
theorem dX5_keep_49 : decode cX5_keep 49 = .ok (.aload 4, 2) := by decide +kernel
theorem dX5_keep_51 : decode cX5_keep 51 = .ok (.getfield 38, 3) := by decide +kernel
theorem dX5_keep_54 : decode cX5_keep 54 = .ok (.iastore, 1) := by decide +kernel
theorem dX5_keep_55 : decode cX5_keep 55 = .ok (.iinc 3 1, 3) := by decide +kernel
theorem dX5_keep_58 : decode cX5_keep 58 = .ok (.goto (-46), 3) := by decide +kernel
theorem dX5_keep_61 : decode cX5_keep 61 = .ok (.return_, 1) := by decide +kernel
theorem dX5_giveBack_0 : decode cX5_giveBack 0 = .ok (.iconst 0, 1) := by decide +kernel
theorem dX5_giveBack_1 : decode cX5_giveBack 1 = .ok (.istore_n 2, 1) := by decide +kernel
theorem dX5_giveBack_2 : decode cX5_giveBack 2 = .ok (.iload_n 2, 1) := by decide +kernel
theorem dX5_giveBack_3 : decode cX5_giveBack 3 = .ok (.iconst 3, 1) := by decide +kernel
theorem dX5_giveBack_4 : decode cX5_giveBack 4 = .ok (.if_icmp .ge 58, 3) := by decide +kernel
theorem dX5_giveBack_7 : decode cX5_giveBack 7 = .ok (.iload_n 2, 1) := by decide +kernel
theorem dX5_giveBack_8 : decode cX5_giveBack 8 = .ok (.aload_n 1, 1) := by decide +kernel
theorem dX5_giveBack_9 : decode cX5_giveBack 9 = .ok (.arraylength, 1) := by decide +kernel
theorem dX5_giveBack_10 : decode cX5_giveBack 10 = .ok (.if_icmp .ge 52, 3) := by decide +kernel
theorem dX5_giveBack_13 : decode cX5_giveBack 13 = .ok (.aload_n 1, 1) := by decide +kernel
theorem dX5_giveBack_14 : decode cX5_giveBack 14 = .ok (.iload_n 2, 1) := by decide +kernel
theorem dX5_giveBack_15 : decode cX5_giveBack 15 = .ok (.aaload, 1) := by decide +kernel
theorem dX5_giveBack_16 : decode cX5_giveBack 16 = .ok (.astore_n 3, 1) := by decide +kernel
theorem dX5_giveBack_17 : decode cX5_giveBack 17 = .ok (.iload_n 2, 1) := by decide +kernel
theorem dX5_giveBack_18 : decode cX5_giveBack 18 = .ok (.aload_n 0, 1) := by decide +kernel
theorem dX5_giveBack_19 : decode cX5_giveBack 19 = .ok (.getfield 29, 3) := by decide +kernel
theorem dX5_giveBack_22 : decode cX5_giveBack 22 = .ok (.if_icmp .lt 10, 3) := by decide +kernel
theorem dX5_giveBack_25 : decode cX5_giveBack 25 = .ok (.aload_n 1, 1) := by decide +kernel
theorem dX5_giveBack_26 : decode cX5_giveBack 26 = .ok (.iload_n 2, 1) := by decide +kernel
theorem dX5_giveBack_27 : decode cX5_giveBack 27 = .ok (.aconst_null, 1) := by decide +kernel
theorem dX5_giveBack_28 : decode cX5_giveBack 28 = .ok (.aastore, 1) := by decide +kernel
theorem dX5_giveBack_29 : decode cX5_giveBack 29 = .ok (.goto 27, 3) := by decide +kernel
theorem dX5_giveBack_32 : decode cX5_giveBack 32 = .ok (.aload_n 3, 1) := by decide +kernel
theorem dX5_giveBack_33 : decode cX5_giveBack 33 = .ok (.ifnull 23, 3) := by decide +kernel
theorem dX5_giveBack_36 : decode cX5_giveBack 36 = .ok (.aload_n 3, 1) := by decide +kernel
theorem dX5_giveBack_37 : decode cX5_giveBack 37 = .ok (.aload_n 0, 1) := by decide +kernel
theorem dX5_giveBack_38 : decode cX5_giveBack 38 = .ok (.getfield 18, 3) := by decide +kernel
theorem dX5_giveBack_41 : decode cX5_giveBack 41 = .ok (.iload_n 2, 1) := by decide +kernel
theorem dX5_giveBack_42 : decode cX5_giveBack 42 = .ok (.iaload, 1) := by decide +kernel
theorem dX5_giveBack_43 : decode cX5_giveBack 43 = .ok (.putfield 33, 3) := by decide +kernel
theorem dX5_giveBack_46 : decode cX5_giveBack 46 = .ok (.aload_n 3, 1) := by decide +kernel
theorem dX5_giveBack_47 : decode cX5_giveBack 47 = .ok (.aload_n 0, 1) := by decide +kernel
theorem dX5_giveBack_48 : decode cX5_giveBack 48 = .ok (.getfield 22, 3) := by decide +kernel
theorem dX5_giveBack_51 : decode cX5_giveBack 51 = .ok (.iload_n 2, 1) := by decide +kernel
theorem dX5_giveBack_52 : decode cX5_giveBack 52 = .ok (.iaload, 1) := by decide +kernel
theorem dX5_giveBack_53 : decode cX5_giveBack 53 = .ok (.putfield 38, 3) := by decide +kernel
theorem dX5_giveBack_56 : decode cX5_giveBack 56 = .ok (.iinc 2 1, 3) := by decide +kernel
theorem dX5_giveBack_59 : decode cX5_giveBack 59 = .ok (.goto (-57), 3) := by decide +kernel
theorem dX5_giveBack_62 : decode cX5_giveBack 62 = .ok (.return_, 1) := by decide +kernel
theorem dX6_init_0 : decode cX6_init 0 = .ok (.aload_n 0, 1) := by decide +kernel
theorem dX6_init_1 : decode cX6_init 1 = .ok (.invokespecial 3, 3) := by decide +kernel
theorem dX6_init_4 : decode cX6_init 4 = .ok (.aload_n 0, 1) := by decide +kernel
theorem dX6_init_5 : decode cX6_init 5 = .ok (.iconst 3, 1) := by decide +kernel
theorem dX6_init_6 : decode cX6_init 6 = .ok (.newarray .int, 2) := by decide +kernel
theorem dX6_init_8 : decode cX6_init 8 = .ok (.putfield 9, 3) := by decide +kernel
theorem dX6_init_11 : decode cX6_init 11 = .ok (.return_, 1) := by decide +kernel
theorem dX6_begin_0 : decode cX6_begin 0 = .ok (.aload_n 0, 1) := by decide +kernel
theorem dX6_begin_1 : decode cX6_begin 1 = .ok (.iload_n 2, 1) := by decide +kernel
theorem dX6_begin_2 : decode cX6_begin 2 = .ok (.putfield 15, 3) := by decide +kernel
theorem dX6_begin_5 : decode cX6_begin 5 = .ok (.aload_n 0, 1) := by decide +kernel
theorem dX6_begin_6 : decode cX6_begin 6 = .ok (.iload_n 3, 1) := by decide +kernel
theorem dX6_begin_7 : decode cX6_begin 7 = .ok (.putfield 19, 3) := by decide +kernel
theorem dX6_begin_10 : decode cX6_begin 10 = .ok (.aload_n 0, 1) := by decide +kernel
theorem dX6_begin_11 : decode cX6_begin 11 = .ok (.iconst 0, 1) := by decide +kernel
theorem dX6_begin_12 : decode cX6_begin 12 = .ok (.putfield 22, 3) := by decide +kernel
theorem dX6_begin_15 : decode cX6_begin 15 = .ok (.iconst 0, 1) := by decide +kernel
theorem dX6_begin_16 : decode cX6_begin 16 = .ok (.istore 4, 2) := by decide +kernel
theorem dX6_begin_18 : decode cX6_begin 18 = .ok (.iload 4, 2) := by decide +kernel
theorem dX6_begin_20 : decode cX6_begin 20 = .ok (.iconst 3, 1) := by decide +kernel
theorem dX6_begin_21 : decode cX6_begin 21 = .ok (.if_icmp .ge 43, 3) := by decide +kernel
theorem dX6_begin_24 : decode cX6_begin 24 = .ok (.iload 4, 2) := by decide +kernel
theorem dX6_begin_26 : decode cX6_begin 26 = .ok (.aload_n 1, 1) := by decide +kernel
theorem dX6_begin_27 : decode cX6_begin 27 = .ok (.arraylength, 1) := by decide +kernel
theorem dX6_begin_28 : decode cX6_begin 28 = .ok (.if_icmp .ge 36, 3) := by decide +kernel
theorem dX6_begin_31 : decode cX6_begin 31 = .ok (.aload_n 1, 1) := by decide +kernel
theorem dX6_begin_32 : decode cX6_begin 32 = .ok (.iload 4, 2) := by decide +kernel
theorem dX6_begin_34 : decode cX6_begin 34 = .ok (.aaload, 1) := by decide +kernel
theorem dX6_begin_35 : decode cX6_begin 35 = .ok (.astore 5, 2) := by decide +kernel
theorem dX6_begin_37 : decode cX6_begin 37 = .ok (.aload_n 0, 1) := by decide +kernel
theorem dX6_begin_38 : decode cX6_begin 38 = .ok (.getfield 9, 3) := by decide +kernel
theorem dX6_begin_41 : decode cX6_begin 41 = .ok (.iload 4, 2) := by decide +kernel
theorem dX6_begin_43 : decode cX6_begin 43 = .ok (.aload 5, 2) := by decide +kernel
theorem dX6_begin_45 : decode cX6_begin 45 = .ok (.ifnonnull 7, 3) := by decide +kernel
theorem dX6_begin_48 : decode cX6_begin 48 = .ok (.iconst (-1), 1) := by decide +kernel
theorem dX6_begin_49 : decode cX6_begin 49 = .ok (.goto 8, 3) := by decide +kernel
theorem dX6_begin_52 : decode cX6_begin 52 = .ok (.aload 5, 2) := by decide +kernel
theorem dX6_begin_54 : decode cX6_begin 54 = .ok (.getfield 25, 3) := by decide +kernel
theorem dX6_begin_57 : decode cX6_begin 57 = .ok (.iastore, 1) := by decide +kernel
theorem dX6_begin_58 : decode cX6_begin 58 = .ok (.iinc 4 1, 3) := by decide +kernel
theorem dX6_begin_61 : decode cX6_begin 61 = .ok (.goto (-43), 3) := by decide +kernel
theorem dX6_begin_64 : decode cX6_begin 64 = .ok (.return_, 1) := by decide +kernel
theorem dX6_run_0 : decode cX6_run 0 = .ok (.iconst 0, 1) := by decide +kernel
theorem dX6_run_1 : decode cX6_run 1 = .ok (.istore 4, 2) := by decide +kernel
theorem dX6_run_3 : decode cX6_run 3 = .ok (.iload 4, 2) := by decide +kernel
theorem dX6_run_5 : decode cX6_run 5 = .ok (.iload_n 3, 1) := by decide +kernel
theorem dX6_run_6 : decode cX6_run 6 = .ok (.if_icmp .ge 77, 3) := by decide +kernel
theorem dX6_run_9 : decode cX6_run 9 = .ok (.iconst 0, 1) := by decide +kernel
theorem dX6_run_10 : decode cX6_run 10 = .ok (.istore 5, 2) := by decide +kernel
theorem dX6_run_12 : decode cX6_run 12 = .ok (.iload 5, 2) := by decide +kernel
theorem dX6_run_14 : decode cX6_run 14 = .ok (.iconst 3, 1) := by decide +kernel
theorem dX6_run_15 : decode cX6_run 15 = .ok (.if_icmp .ge 62, 3) := by decide +kernel
theorem dX6_run_18 : decode cX6_run 18 = .ok (.iload 5, 2) := by decide +kernel
theorem dX6_run_20 : decode cX6_run 20 = .ok (.aload_n 2, 1) := by decide +kernel
theorem dX6_run_21 : decode cX6_run 21 = .ok (.arraylength, 1) := by decide +kernel
theorem dX6_run_22 : decode cX6_run 22 = .ok (.if_icmp .ge 55, 3) := by decide +kernel
theorem dX6_run_25 : decode cX6_run 25 = .ok (.aload_n 2, 1) := by decide +kernel
theorem dX6_run_26 : decode cX6_run 26 = .ok (.iload 5, 2) := by decide +kernel
theorem dX6_run_28 : decode cX6_run 28 = .ok (.aaload, 1) := by decide +kernel
theorem dX6_run_29 : decode cX6_run 29 = .ok (.astore 6, 2) := by decide +kernel
theorem dX6_run_31 : decode cX6_run 31 = .ok (.aload 6, 2) := by decide +kernel
theorem dX6_run_33 : decode cX6_run 33 = .ok (.ifnull 38, 3) := by decide +kernel
theorem dX6_run_36 : decode cX6_run 36 = .ok (.aload_n 1, 1) := by decide +kernel
theorem dX6_run_37 : decode cX6_run 37 = .ok (.aload_n 0, 1) := by decide +kernel
theorem dX6_run_38 : decode cX6_run 38 = .ok (.iconst 5, 1) := by decide +kernel
theorem dX6_run_39 : decode cX6_run 39 = .ok (.invokevirtual 30, 3) := by decide +kernel
theorem dX6_run_42 : decode cX6_run 42 = .ok (.putfield 34, 3) := by decide +kernel
theorem dX6_run_45 : decode cX6_run 45 = .ok (.aload_n 0, 1) := by decide +kernel
theorem dX6_run_46 : decode cX6_run 46 = .ok (.getfield 9, 3) := by decide +kernel
theorem dX6_run_49 : decode cX6_run 49 = .ok (.iload 5, 2) := by decide +kernel
theorem dX6_run_51 : decode cX6_run 51 = .ok (.aload_n 0, 1) := by decide +kernel
theorem dX6_run_52 : decode cX6_run 52 = .ok (.aload_n 1, 1) := by decide +kernel
theorem dX6_run_53 : decode cX6_run 53 = .ok (.aload 6, 2) := by decide +kernel
theorem dX6_run_55 : decode cX6_run 55 = .ok (.aload_n 0, 1) := by decide +kernel
theorem dX6_run_56 : decode cX6_run 56 = .ok (.getfield 9, 3) := by decide +kernel
theorem dX6_run_59 : decode cX6_run 59 = .ok (.iload 5, 2) := by decide +kernel
theorem dX6_run_61 : decode cX6_run 61 = .ok (.iaload, 1) := by decide +kernel
theorem dX6_run_62 : decode cX6_run 62 = .ok (.aload_n 0, 1) := by decide +kernel
theorem dX6_run_63 : decode cX6_run 63 = .ok (.iconst 4, 1) := by decide +kernel
theorem dX6_run_64 : decode cX6_run 64 = .ok (.invokevirtual 30, 3) := by decide +kernel
theorem dX6_run_67 : decode cX6_run 67 = .ok (.invokevirtual 39, 3) := by decide +kernel
theorem dX6_run_70 : decode cX6_run 70 = .ok (.iastore, 1) := by decide +kernel
theorem dX6_run_71 : decode cX6_run 71 = .ok (.iinc 5 1, 3) := by decide +kernel
theorem dX6_run_74 : decode cX6_run 74 = .ok (.goto (-62), 3) := by decide +kernel
theorem dX6_run_77 : decode cX6_run 77 = .ok (.iinc 4 1, 3) := by decide +kernel
theorem dX6_run_80 : decode cX6_run 80 = .ok (.goto (-77), 3) := by decide +kernel
theorem dX6_run_83 : decode cX6_run 83 = .ok (.return_, 1) := by decide +kernel
theorem dX6_stranded_0 : decode cX6_stranded 0 = .ok (.iconst 0, 1) := by decide +kernel
theorem dX6_stranded_1 : decode cX6_stranded 1 = .ok (.istore_n 3, 1) := by decide +kernel
theorem dX6_stranded_2 : decode cX6_stranded 2 = .ok (.iconst 0, 1) := by decide +kernel
theorem dX6_stranded_3 : decode cX6_stranded 3 = .ok (.istore 4, 2) := by decide +kernel
theorem dX6_stranded_5 : decode cX6_stranded 5 = .ok (.iload 4, 2) := by decide +kernel
theorem dX6_stranded_7 : decode cX6_stranded 7 = .ok (.iconst 3, 1) := by decide +kernel
theorem dX6_stranded_8 : decode cX6_stranded 8 = .ok (.if_icmp .ge 50, 3) := by decide +kernel
theorem dX6_stranded_11 : decode cX6_stranded 11 = .ok (.iload 4, 2) := by decide +kernel
theorem dX6_stranded_13 : decode cX6_stranded 13 = .ok (.aload_n 2, 1) := by decide +kernel
theorem dX6_stranded_14 : decode cX6_stranded 14 = .ok (.arraylength, 1) := by decide +kernel
theorem dX6_stranded_15 : decode cX6_stranded 15 = .ok (.if_icmp .ge 43, 3) := by decide +kernel
theorem dX6_stranded_18 : decode cX6_stranded 18 = .ok (.aload_n 2, 1) := by decide +kernel
theorem dX6_stranded_19 : decode cX6_stranded 19 = .ok (.iload 4, 2) := by decide +kernel
theorem dX6_stranded_21 : decode cX6_stranded 21 = .ok (.aaload, 1) := by decide +kernel
theorem dX6_stranded_22 : decode cX6_stranded 22 = .ok (.astore 5, 2) := by decide +kernel
theorem dX6_stranded_24 : decode cX6_stranded 24 = .ok (.aload 5, 2) := by decide +kernel
theorem dX6_stranded_26 : decode cX6_stranded 26 = .ok (.ifnull 26, 3) := by decide +kernel
theorem dX6_stranded_29 : decode cX6_stranded 29 = .ok (.aload_n 1, 1) := by decide +kernel
theorem dX6_stranded_30 : decode cX6_stranded 30 = .ok (.aload 5, 2) := by decide +kernel
theorem dX6_stranded_32 : decode cX6_stranded 32 = .ok (.aload_n 0, 1) := by decide +kernel
theorem dX6_stranded_33 : decode cX6_stranded 33 = .ok (.getfield 9, 3) := by decide +kernel
theorem dX6_stranded_36 : decode cX6_stranded 36 = .ok (.iload 4, 2) := by decide +kernel
theorem dX6_stranded_38 : decode cX6_stranded 38 = .ok (.iaload, 1) := by decide +kernel
theorem dX6_stranded_39 : decode cX6_stranded 39 = .ok (.aload_n 0, 1) := by decide +kernel
theorem dX6_stranded_40 : decode cX6_stranded 40 = .ok (.getfield 15, 3) := by decide +kernel
theorem dX6_stranded_43 : decode cX6_stranded 43 = .ok (.invokevirtual 43, 3) := by decide +kernel
theorem dX6_stranded_46 : decode cX6_stranded 46 = .ok (.ifCond .ne 6, 3) := by decide +kernel
theorem dX6_stranded_49 : decode cX6_stranded 49 = .ok (.iinc 3 1, 3) := by decide +kernel
theorem dX6_stranded_52 : decode cX6_stranded 52 = .ok (.iinc 4 1, 3) := by decide +kernel
theorem dX6_stranded_55 : decode cX6_stranded 55 = .ok (.goto (-50), 3) := by decide +kernel
theorem dX6_stranded_58 : decode cX6_stranded 58 = .ok (.iload_n 3, 1) := by decide +kernel
theorem dX6_stranded_59 : decode cX6_stranded 59 = .ok (.ireturn, 1) := by decide +kernel
theorem dX6_afterSailing_0 : decode cX6_afterSailing 0 = .ok (.aload_n 1, 1) := by decide +kernel
theorem dX6_afterSailing_1 : decode cX6_afterSailing 1 = .ok (.aload_n 2, 1) := by decide +kernel
theorem dX6_afterSailing_2 : decode cX6_afterSailing 2 = .ok (.iload_n 3, 1) := by decide +kernel
theorem dX6_afterSailing_3 : decode cX6_afterSailing 3 = .ok (.iload 4, 2) := by decide +kernel
theorem dX6_afterSailing_5 : decode cX6_afterSailing 5 = .ok (.aload_n 0, 1) := by decide +kernel
theorem dX6_afterSailing_6 : decode cX6_afterSailing 6 = .ok (.getfield 15, 3) := by decide +kernel
theorem dX6_afterSailing_9 : decode cX6_afterSailing 9 = .ok (.invokevirtual 47, 3) := by decide +kernel
theorem dX6_afterSailing_12 : decode cX6_afterSailing 12 = .ok (.istore 5, 2) := by decide +kernel
theorem dX6_afterSailing_14 : decode cX6_afterSailing 14 = .ok (.iload 5, 2) := by decide +kernel
theorem dX6_afterSailing_16 : decode cX6_afterSailing 16 = .ok (.iconst (-1), 1) := by decide +kernel
theorem dX6_afterSailing_17 : decode cX6_afterSailing 17 = .ok (.if_icmp .ne 15, 3) := by decide +kernel
theorem dX6_afterSailing_20 : decode cX6_afterSailing 20 = .ok (.aload_n 0, 1) := by decide +kernel
theorem dX6_afterSailing_21 : decode cX6_afterSailing 21 = .ok (.dup, 1) := by decide +kernel
theorem dX6_afterSailing_22 : decode cX6_afterSailing 22 = .ok (.getfield 22, 3) := by decide +kernel
theorem dX6_afterSailing_25 : decode cX6_afterSailing 25 = .ok (.iconst 1, 1) := by decide +kernel
theorem dX6_afterSailing_26 : decode cX6_afterSailing 26 = .ok (.iadd, 1) := by decide +kernel
theorem dX6_afterSailing_27 : decode cX6_afterSailing 27 = .ok (.putfield 22, 3) := by decide +kernel
theorem dX6_afterSailing_30 : decode cX6_afterSailing 30 = .ok (.iload_n 3, 1) := by decide +kernel
theorem dX6_afterSailing_31 : decode cX6_afterSailing 31 = .ok (.ireturn, 1) := by decide +kernel
theorem dX6_afterSailing_32 : decode cX6_afterSailing 32 = .ok (.aload_n 0, 1) := by decide +kernel
theorem dX6_afterSailing_33 : decode cX6_afterSailing 33 = .ok (.dup, 1) := by decide +kernel
theorem dX6_afterSailing_34 : decode cX6_afterSailing 34 = .ok (.getfield 15, 3) := by decide +kernel
theorem dX6_afterSailing_37 : decode cX6_afterSailing 37 = .ok (.iload 5, 2) := by decide +kernel
theorem dX6_afterSailing_39 : decode cX6_afterSailing 39 = .ok (.iadd, 1) := by decide +kernel
theorem dX6_afterSailing_40 : decode cX6_afterSailing 40 = .ok (.putfield 15, 3) := by decide +kernel
theorem dX6_afterSailing_43 : decode cX6_afterSailing 43 = .ok (.iload_n 3, 1) := by decide +kernel
theorem dX6_afterSailing_44 : decode cX6_afterSailing 44 = .ok (.iload 4, 2) := by decide +kernel
theorem dX6_afterSailing_46 : decode cX6_afterSailing 46 = .ok (.invokestatic 51, 3) := by decide +kernel
theorem dX6_afterSailing_49 : decode cX6_afterSailing 49 = .ok (.ireturn, 1) := by decide +kernel
theorem dX6_drawn_0 : decode cX6_drawn 0 = .ok (.aload_n 0, 1) := by decide +kernel
theorem dX6_drawn_1 : decode cX6_drawn 1 = .ok (.ldc2_w 55, 3) := by decide +kernel
theorem dX6_drawn_4 : decode cX6_drawn 4 = .ok (.aload_n 0, 1) := by decide +kernel
theorem dX6_drawn_5 : decode cX6_drawn 5 = .ok (.getfield 19, 3) := by decide +kernel
theorem dX6_drawn_8 : decode cX6_drawn 8 = .ok (.i2l, 1) := by decide +kernel
theorem dX6_drawn_9 : decode cX6_drawn 9 = .ok (.lmul, 1) := by decide +kernel
theorem dX6_drawn_10 : decode cX6_drawn 10 = .ok (.ldc2_w 57, 3) := by decide +kernel
theorem dX6_drawn_13 : decode cX6_drawn 13 = .ok (.ladd, 1) := by decide +kernel
theorem dX6_drawn_14 : decode cX6_drawn 14 = .ok (.ldc2_w 59, 3) := by decide +kernel
theorem dX6_drawn_17 : decode cX6_drawn 17 = .ok (.land, 1) := by decide +kernel
theorem dX6_drawn_18 : decode cX6_drawn 18 = .ok (.l2i, 1) := by decide +kernel
theorem dX6_drawn_19 : decode cX6_drawn 19 = .ok (.putfield 19, 3) := by decide +kernel
theorem dX6_drawn_22 : decode cX6_drawn 22 = .ok (.iload_n 1, 1) := by decide +kernel
theorem dX6_drawn_23 : decode cX6_drawn 23 = .ok (.ifCond .le 15, 3) := by decide +kernel
theorem dX6_drawn_26 : decode cX6_drawn 26 = .ok (.aload_n 0, 1) := by decide +kernel
theorem dX6_drawn_27 : decode cX6_drawn 27 = .ok (.getfield 19, 3) := by decide +kernel
theorem dX6_drawn_30 : decode cX6_drawn 30 = .ok (.ldc 61, 2) := by decide +kernel
theorem dX6_drawn_32 : decode cX6_drawn 32 = .ok (.idiv, 1) := by decide +kernel
theorem dX6_drawn_33 : decode cX6_drawn 33 = .ok (.iload_n 1, 1) := by decide +kernel
theorem dX6_drawn_34 : decode cX6_drawn 34 = .ok (.irem, 1) := by decide +kernel
theorem dX6_drawn_35 : decode cX6_drawn 35 = .ok (.goto 4, 3) := by decide +kernel
theorem dX6_drawn_38 : decode cX6_drawn 38 = .ok (.iconst 0, 1) := by decide +kernel
theorem dX6_drawn_39 : decode cX6_drawn 39 = .ok (.ireturn, 1) := by decide +kernel
theorem dX7_init_0 : decode cX7_init 0 = .ok (.aload_n 0, 1) := by decide +kernel
theorem dX7_init_1 : decode cX7_init 1 = .ok (.invokespecial 3, 3) := by decide +kernel
theorem dX7_init_4 : decode cX7_init 4 = .ok (.aload_n 0, 1) := by decide +kernel
theorem dX7_init_5 : decode cX7_init 5 = .ok (.iconst 4, 1) := by decide +kernel
theorem dX7_init_6 : decode cX7_init 6 = .ok (.putfield 9, 3) := by decide +kernel
theorem dX7_init_9 : decode cX7_init 9 = .ok (.aload_n 0, 1) := by decide +kernel
theorem dX7_init_10 : decode cX7_init 10 = .ok (.aload_n 1, 1) := by decide +kernel
theorem dX7_init_11 : decode cX7_init 11 = .ok (.putfield 15, 3) := by decide +kernel
theorem dX7_init_14 : decode cX7_init 14 = .ok (.return_, 1) := by decide +kernel
theorem dX7_sow_0 : decode cX7_sow 0 = .ok (.iload_n 1, 1) := by decide +kernel
theorem dX7_sow_1 : decode cX7_sow 1 = .ok (.ifCond .lt 19, 3) := by decide +kernel
theorem dX7_sow_4 : decode cX7_sow 4 = .ok (.iload_n 1, 1) := by decide +kernel
theorem dX7_sow_5 : decode cX7_sow 5 = .ok (.aload_n 0, 1) := by decide +kernel
theorem dX7_sow_6 : decode cX7_sow 6 = .ok (.getfield 15, 3) := by decide +kernel
theorem dX7_sow_9 : decode cX7_sow 9 = .ok (.arraylength, 1) := by decide +kernel
theorem dX7_sow_10 : decode cX7_sow 10 = .ok (.if_icmp .ge 10, 3) := by decide +kernel
theorem dX7_sow_13 : decode cX7_sow 13 = .ok (.aload_n 0, 1) := by decide +kernel
theorem dX7_sow_14 : decode cX7_sow 14 = .ok (.getfield 15, 3) := by decide +kernel
theorem dX7_sow_17 : decode cX7_sow 17 = .ok (.iload_n 1, 1) := by decide +kernel
theorem dX7_sow_18 : decode cX7_sow 18 = .ok (.iload_n 2, 1) := by decide +kernel
theorem dX7_sow_19 : decode cX7_sow 19 = .ok (.iastore, 1) := by decide +kernel
theorem dX7_sow_20 : decode cX7_sow 20 = .ok (.return_, 1) := by decide +kernel
theorem dX7_cutHour_0 : decode cX7_cutHour 0 = .ok (.aload_n 0, 1) := by decide +kernel
theorem dX7_cutHour_1 : decode cX7_cutHour 1 = .ok (.getfield 19, 3) := by decide +kernel
theorem dX7_cutHour_4 : decode cX7_cutHour 4 = .ok (.iload_n 1, 1) := by decide +kernel
theorem dX7_cutHour_5 : decode cX7_cutHour 5 = .ok (.iconst 1, 1) := by decide +kernel
theorem dX7_cutHour_6 : decode cX7_cutHour 6 = .ok (.iadd, 1) := by decide +kernel
theorem dX7_cutHour_7 : decode cX7_cutHour 7 = .ok (.imul, 1) := by decide +kernel
theorem dX7_cutHour_8 : decode cX7_cutHour 8 = .ok (.ireturn, 1) := by decide +kernel
theorem dX7_highAt_0 : decode cX7_highAt 0 = .ok (.iload_n 1, 1) := by decide +kernel
theorem dX7_highAt_1 : decode cX7_highAt 1 = .ok (.ifCond .lt 24, 3) := by decide +kernel
theorem dX7_highAt_4 : decode cX7_highAt 4 = .ok (.iload_n 1, 1) := by decide +kernel
theorem dX7_highAt_5 : decode cX7_highAt 5 = .ok (.aload_n 0, 1) := by decide +kernel
theorem dX7_highAt_6 : decode cX7_highAt 6 = .ok (.getfield 15, 3) := by decide +kernel
theorem dX7_highAt_9 : decode cX7_highAt 9 = .ok (.arraylength, 1) := by decide +kernel
theorem dX7_highAt_10 : decode cX7_highAt 10 = .ok (.if_icmp .ge 15, 3) := by decide +kernel
theorem dX7_highAt_13 : decode cX7_highAt 13 = .ok (.iload_n 2, 1) := by decide +kernel
theorem dX7_highAt_14 : decode cX7_highAt 14 = .ok (.aload_n 0, 1) := by decide +kernel
theorem dX7_highAt_15 : decode cX7_highAt 15 = .ok (.getfield 19, 3) := by decide +kernel
theorem dX7_highAt_18 : decode cX7_highAt 18 = .ok (.iload_n 1, 1) := by decide +kernel
theorem dX7_highAt_19 : decode cX7_highAt 19 = .ok (.iconst 1, 1) := by decide +kernel
theorem dX7_highAt_20 : decode cX7_highAt 20 = .ok (.iadd, 1) := by decide +kernel
theorem dX7_highAt_21 : decode cX7_highAt 21 = .ok (.imul, 1) := by decide +kernel
theorem dX7_highAt_22 : decode cX7_highAt 22 = .ok (.if_icmp .lt 5, 3) := by decide +kernel
theorem dX7_highAt_25 : decode cX7_highAt 25 = .ok (.iconst 0, 1) := by decide +kernel
theorem dX7_highAt_26 : decode cX7_highAt 26 = .ok (.ireturn, 1) := by decide +kernel
theorem dX7_highAt_27 : decode cX7_highAt 27 = .ok (.aload_n 0, 1) := by decide +kernel
theorem dX7_highAt_28 : decode cX7_highAt 28 = .ok (.getfield 15, 3) := by decide +kernel
theorem dX7_highAt_31 : decode cX7_highAt 31 = .ok (.iload_n 1, 1) := by decide +kernel
theorem dX7_highAt_32 : decode cX7_highAt 32 = .ok (.iaload, 1) := by decide +kernel
theorem dX7_highAt_33 : decode cX7_highAt 33 = .ok (.ireturn, 1) := by decide +kernel
theorem dX7_floats_0 : decode cX7_floats 0 = .ok (.aload_n 1, 1) := by decide +kernel
theorem dX7_floats_1 : decode cX7_floats 1 = .ok (.ifnull 20, 3) := by decide +kernel
theorem dX7_floats_4 : decode cX7_floats 4 = .ok (.aload_n 0, 1) := by decide +kernel
theorem dX7_floats_5 : decode cX7_floats 5 = .ok (.iload_n 2, 1) := by decide +kernel
theorem dX7_floats_6 : decode cX7_floats 6 = .ok (.iload_n 3, 1) := by decide +kernel
theorem dX7_floats_7 : decode cX7_floats 7 = .ok (.invokevirtual 22, 3) := by decide +kernel
theorem dX7_floats_10 : decode cX7_floats 10 = .ok (.aload_n 1, 1) := by decide +kernel
theorem dX7_floats_11 : decode cX7_floats 11 = .ok (.invokevirtual 26, 3) := by decide +kernel
theorem dX7_floats_14 : decode cX7_floats 14 = .ok (.if_icmp .lt 7, 3) := by decide +kernel
theorem dX7_floats_17 : decode cX7_floats 17 = .ok (.iconst 1, 1) := by decide +kernel
theorem dX7_floats_18 : decode cX7_floats 18 = .ok (.goto 4, 3) := by decide +kernel
theorem dX7_floats_21 : decode cX7_floats 21 = .ok (.iconst 0, 1) := by decide +kernel
theorem dX7_floats_22 : decode cX7_floats 22 = .ok (.ireturn, 1) := by decide +kernel
theorem dX7_hoursToSail_0 : decode cX7_hoursToSail 0 = .ok (.iload_n 2, 1) := by decide +kernel
theorem dX7_hoursToSail_1 : decode cX7_hoursToSail 1 = .ok (.iload_n 3, 1) := by decide +kernel
theorem dX7_hoursToSail_2 : decode cX7_hoursToSail 2 = .ok (.invokestatic 32, 3) := by decide +kernel
theorem dX7_hoursToSail_5 : decode cX7_hoursToSail 5 = .ok (.istore 5, 2) := by decide +kernel
theorem dX7_hoursToSail_7 : decode cX7_hoursToSail 7 = .ok (.aload_n 1, 1) := by decide +kernel
theorem dX7_hoursToSail_8 : decode cX7_hoursToSail 8 = .ok (.ifnull 20, 3) := by decide +kernel
theorem dX7_hoursToSail_11 : decode cX7_hoursToSail 11 = .ok (.iload 5, 2) := by decide +kernel
theorem dX7_hoursToSail_13 : decode cX7_hoursToSail 13 = .ok (.iconst (-1), 1) := by decide +kernel
theorem dX7_hoursToSail_14 : decode cX7_hoursToSail 14 = .ok (.if_icmp .eq 14, 3) := by decide +kernel
theorem dX7_hoursToSail_17 : decode cX7_hoursToSail 17 = .ok (.aload_n 0, 1) := by decide +kernel
theorem dX7_hoursToSail_18 : decode cX7_hoursToSail 18 = .ok (.aload_n 1, 1) := by decide +kernel
theorem dX7_hoursToSail_19 : decode cX7_hoursToSail 19 = .ok (.iload_n 2, 1) := by decide +kernel
theorem dX7_hoursToSail_20 : decode cX7_hoursToSail 20 = .ok (.iload 4, 2) := by decide +kernel
theorem dX7_hoursToSail_22 : decode cX7_hoursToSail 22 = .ok (.invokevirtual 35, 3) := by decide +kernel
theorem dX7_hoursToSail_25 : decode cX7_hoursToSail 25 = .ok (.ifCond .ne 5, 3) := by decide +kernel
theorem dX7_hoursToSail_28 : decode cX7_hoursToSail 28 = .ok (.iconst (-1), 1) := by decide +kernel
theorem dX7_hoursToSail_29 : decode cX7_hoursToSail 29 = .ok (.ireturn, 1) := by decide +kernel
theorem dX7_hoursToSail_30 : decode cX7_hoursToSail 30 = .ok (.aload_n 1, 1) := by decide +kernel
theorem dX7_hoursToSail_31 : decode cX7_hoursToSail 31 = .ok (.iload_n 3, 1) := by decide +kernel
theorem dX7_hoursToSail_32 : decode cX7_hoursToSail 32 = .ok (.aload_n 0, 1) := by decide +kernel
theorem dX7_hoursToSail_33 : decode cX7_hoursToSail 33 = .ok (.getfield 9, 3) := by decide +kernel
theorem dX7_hoursToSail_36 : decode cX7_hoursToSail 36 = .ok (.invokevirtual 39, 3) := by decide +kernel
theorem dX7_hoursToSail_39 : decode cX7_hoursToSail 39 = .ok (.istore 6, 2) := by decide +kernel
theorem dX7_hoursToSail_41 : decode cX7_hoursToSail 41 = .ok (.iload 6, 2) := by decide +kernel
theorem dX7_hoursToSail_43 : decode cX7_hoursToSail 43 = .ok (.iconst (-1), 1) := by decide +kernel
theorem dX7_hoursToSail_44 : decode cX7_hoursToSail 44 = .ok (.if_icmp .eq 18, 3) := by decide +kernel
theorem dX7_hoursToSail_47 : decode cX7_hoursToSail 47 = .ok (.aload_n 0, 1) := by decide +kernel
theorem dX7_hoursToSail_48 : decode cX7_hoursToSail 48 = .ok (.aload_n 1, 1) := by decide +kernel
theorem dX7_hoursToSail_49 : decode cX7_hoursToSail 49 = .ok (.iload 5, 2) := by decide +kernel
theorem dX7_hoursToSail_51 : decode cX7_hoursToSail 51 = .ok (.iload 4, 2) := by decide +kernel
theorem dX7_hoursToSail_53 : decode cX7_hoursToSail 53 = .ok (.iload 6, 2) := by decide +kernel
theorem dX7_hoursToSail_55 : decode cX7_hoursToSail 55 = .ok (.iadd, 1) := by decide +kernel
theorem dX7_hoursToSail_56 : decode cX7_hoursToSail 56 = .ok (.invokevirtual 35, 3) := by decide +kernel
theorem dX7_hoursToSail_59 : decode cX7_hoursToSail 59 = .ok (.ifCond .ne 5, 3) := by decide +kernel
theorem dX7_hoursToSail_62 : decode cX7_hoursToSail 62 = .ok (.iconst (-1), 1) := by decide +kernel
theorem dX7_hoursToSail_63 : decode cX7_hoursToSail 63 = .ok (.ireturn, 1) := by decide +kernel
theorem dX7_hoursToSail_64 : decode cX7_hoursToSail 64 = .ok (.iload 6, 2) := by decide +kernel
theorem dX7_hoursToSail_66 : decode cX7_hoursToSail 66 = .ok (.ireturn, 1) := by decide +kernel
theorem dX8_init_0 : decode cX8_init 0 = .ok (.aload_n 0, 1) := by decide +kernel
theorem dX8_init_1 : decode cX8_init 1 = .ok (.invokespecial 3, 3) := by decide +kernel
theorem dX8_init_4 : decode cX8_init 4 = .ok (.aload_n 0, 1) := by decide +kernel
theorem dX8_init_5 : decode cX8_init 5 = .ok (.bipush 6, 2) := by decide +kernel
theorem dX8_init_7 : decode cX8_init 7 = .ok (.newarray .int, 2) := by decide +kernel
theorem dX8_init_9 : decode cX8_init 9 = .ok (.putfield 9, 3) := by decide +kernel
theorem dX8_init_12 : decode cX8_init 12 = .ok (.aload_n 0, 1) := by decide +kernel
theorem dX8_init_13 : decode cX8_init 13 = .ok (.bipush 6, 2) := by decide +kernel
theorem dX8_init_15 : decode cX8_init 15 = .ok (.newarray .int, 2) := by decide +kernel
theorem dX8_init_17 : decode cX8_init 17 = .ok (.putfield 15, 3) := by decide +kernel
theorem dX8_init_20 : decode cX8_init 20 = .ok (.aload_n 0, 1) := by decide +kernel
theorem dX8_init_21 : decode cX8_init 21 = .ok (.bipush 6, 2) := by decide +kernel
theorem dX8_init_23 : decode cX8_init 23 = .ok (.newarray .int, 2) := by decide +kernel
theorem dX8_init_25 : decode cX8_init 25 = .ok (.putfield 18, 3) := by decide +kernel
theorem dX8_init_28 : decode cX8_init 28 = .ok (.aload_n 0, 1) := by decide +kernel
theorem dX8_init_29 : decode cX8_init 29 = .ok (.bipush 41, 2) := by decide +kernel
theorem dX8_init_31 : decode cX8_init 31 = .ok (.newarray .int, 2) := by decide +kernel
theorem dX8_init_33 : decode cX8_init 33 = .ok (.putfield 21, 3) := by decide +kernel
theorem dX8_init_36 : decode cX8_init 36 = .ok (.aload_n 0, 1) := by decide +kernel
theorem dX8_init_37 : decode cX8_init 37 = .ok (.bipush 41, 2) := by decide +kernel
theorem dX8_init_39 : decode cX8_init 39 = .ok (.newarray .int, 2) := by decide +kernel
theorem dX8_init_41 : decode cX8_init 41 = .ok (.putfield 24, 3) := by decide +kernel
theorem dX8_init_44 : decode cX8_init 44 = .ok (.return_, 1) := by decide +kernel
theorem dX8_add_0 : decode cX8_add 0 = .ok (.aload_n 0, 1) := by decide +kernel
theorem dX8_add_1 : decode cX8_add 1 = .ok (.getfield 27, 3) := by decide +kernel
theorem dX8_add_4 : decode cX8_add 4 = .ok (.ifCond .lt 12, 3) := by decide +kernel
theorem dX8_add_7 : decode cX8_add 7 = .ok (.aload_n 0, 1) := by decide +kernel
theorem dX8_add_8 : decode cX8_add 8 = .ok (.getfield 27, 3) := by decide +kernel
theorem dX8_add_11 : decode cX8_add 11 = .ok (.bipush 6, 2) := by decide +kernel
theorem dX8_add_13 : decode cX8_add 13 = .ok (.if_icmp .lt 5, 3) := by decide +kernel
theorem dX8_add_16 : decode cX8_add 16 = .ok (.iconst 0, 1) := by decide +kernel
theorem dX8_add_17 : decode cX8_add 17 = .ok (.ireturn, 1) := by decide +kernel
theorem dX8_add_18 : decode cX8_add 18 = .ok (.aload_n 0, 1) := by decide +kernel
theorem dX8_add_19 : decode cX8_add 19 = .ok (.getfield 9, 3) := by decide +kernel
theorem dX8_add_22 : decode cX8_add 22 = .ok (.aload_n 0, 1) := by decide +kernel
theorem dX8_add_23 : decode cX8_add 23 = .ok (.getfield 27, 3) := by decide +kernel
theorem dX8_add_26 : decode cX8_add 26 = .ok (.iload_n 1, 1) := by decide +kernel
theorem dX8_add_27 : decode cX8_add 27 = .ok (.iastore, 1) := by decide +kernel
theorem dX8_add_28 : decode cX8_add 28 = .ok (.aload_n 0, 1) := by decide +kernel
theorem dX8_add_29 : decode cX8_add 29 = .ok (.getfield 15, 3) := by decide +kernel
theorem dX8_add_32 : decode cX8_add 32 = .ok (.aload_n 0, 1) := by decide +kernel
theorem dX8_add_33 : decode cX8_add 33 = .ok (.getfield 27, 3) := by decide +kernel
theorem dX8_add_36 : decode cX8_add 36 = .ok (.iload_n 2, 1) := by decide +kernel
theorem dX8_add_37 : decode cX8_add 37 = .ok (.iastore, 1) := by decide +kernel
theorem dX8_add_38 : decode cX8_add 38 = .ok (.aload_n 0, 1) := by decide +kernel
theorem dX8_add_39 : decode cX8_add 39 = .ok (.getfield 18, 3) := by decide +kernel
theorem dX8_add_42 : decode cX8_add 42 = .ok (.aload_n 0, 1) := by decide +kernel
theorem dX8_add_43 : decode cX8_add 43 = .ok (.getfield 27, 3) := by decide +kernel
theorem dX8_add_46 : decode cX8_add 46 = .ok (.iload_n 3, 1) := by decide +kernel
theorem dX8_add_47 : decode cX8_add 47 = .ok (.iastore, 1) := by decide +kernel
theorem dX8_add_48 : decode cX8_add 48 = .ok (.aload_n 0, 1) := by decide +kernel
theorem dX8_add_49 : decode cX8_add 49 = .ok (.dup, 1) := by decide +kernel
theorem dX8_add_50 : decode cX8_add 50 = .ok (.getfield 27, 3) := by decide +kernel
theorem dX8_add_53 : decode cX8_add 53 = .ok (.iconst 1, 1) := by decide +kernel
theorem dX8_add_54 : decode cX8_add 54 = .ok (.iadd, 1) := by decide +kernel
theorem dX8_add_55 : decode cX8_add 55 = .ok (.putfield 27, 3) := by decide +kernel
theorem dX8_add_58 : decode cX8_add 58 = .ok (.iconst 1, 1) := by decide +kernel
theorem dX8_add_59 : decode cX8_add 59 = .ok (.ireturn, 1) := by decide +kernel
theorem dX8_become_0 : decode cX8_become 0 = .ok (.aload_n 0, 1) := by decide +kernel
theorem dX8_become_1 : decode cX8_become 1 = .ok (.aload_n 1, 1) := by decide +kernel
theorem dX8_become_2 : decode cX8_become 2 = .ok (.getfield 27, 3) := by decide +kernel
theorem dX8_become_5 : decode cX8_become 5 = .ok (.putfield 27, 3) := by decide +kernel
theorem dX8_become_8 : decode cX8_become 8 = .ok (.iconst 0, 1) := by decide +kernel
theorem dX8_become_9 : decode cX8_become 9 = .ok (.istore_n 2, 1) := by decide +kernel
theorem dX8_become_10 : decode cX8_become 10 = .ok (.iload_n 2, 1) := by decide +kernel
theorem dX8_become_11 : decode cX8_become 11 = .ok (.bipush 6, 2) := by decide +kernel
theorem dX8_become_13 : decode cX8_become 13 = .ok (.if_icmp .ge 45, 3) := by decide +kernel
theorem dX8_become_16 : decode cX8_become 16 = .ok (.aload_n 0, 1) := by decide +kernel
theorem dX8_become_17 : decode cX8_become 17 = .ok (.getfield 9, 3) := by decide +kernel
theorem dX8_become_20 : decode cX8_become 20 = .ok (.iload_n 2, 1) := by decide +kernel
theorem dX8_become_21 : decode cX8_become 21 = .ok (.aload_n 1, 1) := by decide +kernel
theorem dX8_become_22 : decode cX8_become 22 = .ok (.getfield 9, 3) := by decide +kernel
theorem dX8_become_25 : decode cX8_become 25 = .ok (.iload_n 2, 1) := by decide +kernel
theorem dX8_become_26 : decode cX8_become 26 = .ok (.iaload, 1) := by decide +kernel
theorem dX8_become_27 : decode cX8_become 27 = .ok (.iastore, 1) := by decide +kernel
theorem dX8_become_28 : decode cX8_become 28 = .ok (.aload_n 0, 1) := by decide +kernel
theorem dX8_become_29 : decode cX8_become 29 = .ok (.getfield 15, 3) := by decide +kernel
theorem dX8_become_32 : decode cX8_become 32 = .ok (.iload_n 2, 1) := by decide +kernel
theorem dX8_become_33 : decode cX8_become 33 = .ok (.aload_n 1, 1) := by decide +kernel
theorem dX8_become_34 : decode cX8_become 34 = .ok (.getfield 15, 3) := by decide +kernel
theorem dX8_become_37 : decode cX8_become 37 = .ok (.iload_n 2, 1) := by decide +kernel
theorem dX8_become_38 : decode cX8_become 38 = .ok (.iaload, 1) := by decide +kernel
theorem dX8_become_39 : decode cX8_become 39 = .ok (.iastore, 1) := by decide +kernel
theorem dX8_become_40 : decode cX8_become 40 = .ok (.aload_n 0, 1) := by decide +kernel
theorem dX8_become_41 : decode cX8_become 41 = .ok (.getfield 18, 3) := by decide +kernel
theorem dX8_become_44 : decode cX8_become 44 = .ok (.iload_n 2, 1) := by decide +kernel
theorem dX8_become_45 : decode cX8_become 45 = .ok (.aload_n 1, 1) := by decide +kernel
theorem dX8_become_46 : decode cX8_become 46 = .ok (.getfield 18, 3) := by decide +kernel
theorem dX8_become_49 : decode cX8_become 49 = .ok (.iload_n 2, 1) := by decide +kernel
theorem dX8_become_50 : decode cX8_become 50 = .ok (.iaload, 1) := by decide +kernel
theorem dX8_become_51 : decode cX8_become 51 = .ok (.iastore, 1) := by decide +kernel
theorem dX8_become_52 : decode cX8_become 52 = .ok (.iinc 2 1, 3) := by decide +kernel
theorem dX8_become_55 : decode cX8_become 55 = .ok (.goto (-45), 3) := by decide +kernel
theorem dX8_become_58 : decode cX8_become 58 = .ok (.return_, 1) := by decide +kernel
theorem dX8_startsOf_0 : decode cX8_startsOf 0 = .ok (.aload_n 0, 1) := by decide +kernel
theorem dX8_startsOf_1 : decode cX8_startsOf 1 = .ok (.iload_n 3, 1) := by decide +kernel
theorem dX8_startsOf_2 : decode cX8_startsOf 2 = .ok (.invokevirtual 31, 3) := by decide +kernel
theorem dX8_startsOf_5 : decode cX8_startsOf 5 = .ok (.istore 4, 2) := by decide +kernel
theorem dX8_startsOf_7 : decode cX8_startsOf 7 = .ok (.iload 4, 2) := by decide +kernel
theorem dX8_startsOf_9 : decode cX8_startsOf 9 = .ok (.istore 5, 2) := by decide +kernel
theorem dX8_startsOf_11 : decode cX8_startsOf 11 = .ok (.iload 5, 2) := by decide +kernel
theorem dX8_startsOf_13 : decode cX8_startsOf 13 = .ok (.ifCond .lt 97, 3) := by decide +kernel
theorem dX8_startsOf_16 : decode cX8_startsOf 16 = .ok (.aload_n 0, 1) := by decide +kernel
theorem dX8_startsOf_17 : decode cX8_startsOf 17 = .ok (.getfield 24, 3) := by decide +kernel
theorem dX8_startsOf_20 : decode cX8_startsOf 20 = .ok (.iload 5, 2) := by decide +kernel
theorem dX8_startsOf_22 : decode cX8_startsOf 22 = .ok (.iconst 0, 1) := by decide +kernel
theorem dX8_startsOf_23 : decode cX8_startsOf 23 = .ok (.iastore, 1) := by decide +kernel
theorem dX8_startsOf_24 : decode cX8_startsOf 24 = .ok (.iconst 0, 1) := by decide +kernel
theorem dX8_startsOf_25 : decode cX8_startsOf 25 = .ok (.istore 6, 2) := by decide +kernel
theorem dX8_startsOf_27 : decode cX8_startsOf 27 = .ok (.iload 6, 2) := by decide +kernel
end
section
theorem dX8_startsOf_29 : decode cX8_startsOf 29 = .ok (.bipush 12, 2) := by decide +kernel
theorem dX8_startsOf_31 : decode cX8_startsOf 31 = .ok (.if_icmp .ge 73, 3) := by decide +kernel
theorem dX8_startsOf_34 : decode cX8_startsOf 34 = .ok (.aload_n 0, 1) := by decide +kernel
theorem dX8_startsOf_35 : decode cX8_startsOf 35 = .ok (.getfield 21, 3) := by decide +kernel
theorem dX8_startsOf_38 : decode cX8_startsOf 38 = .ok (.iload 5, 2) := by decide +kernel
theorem dX8_startsOf_40 : decode cX8_startsOf 40 = .ok (.iaload, 1) := by decide +kernel
theorem dX8_startsOf_41 : decode cX8_startsOf 41 = .ok (.iload 6, 2) := by decide +kernel
theorem dX8_startsOf_43 : decode cX8_startsOf 43 = .ok (.ishr, 1) := by decide +kernel
theorem dX8_startsOf_44 : decode cX8_startsOf 44 = .ok (.iconst 1, 1) := by decide +kernel
theorem dX8_startsOf_45 : decode cX8_startsOf 45 = .ok (.iand, 1) := by decide +kernel
theorem dX8_startsOf_46 : decode cX8_startsOf 46 = .ok (.iconst 1, 1) := by decide +kernel
theorem dX8_startsOf_47 : decode cX8_startsOf 47 = .ok (.if_icmp .ne 7, 3) := by decide +kernel
theorem dX8_startsOf_50 : decode cX8_startsOf 50 = .ok (.iconst 1, 1) := by decide +kernel
theorem dX8_startsOf_51 : decode cX8_startsOf 51 = .ok (.goto 4, 3) := by decide +kernel
theorem dX8_startsOf_54 : decode cX8_startsOf 54 = .ok (.iconst 0, 1) := by decide +kernel
theorem dX8_startsOf_55 : decode cX8_startsOf 55 = .ok (.istore 7, 2) := by decide +kernel
theorem dX8_startsOf_57 : decode cX8_startsOf 57 = .ok (.iload 7, 2) := by decide +kernel
theorem dX8_startsOf_59 : decode cX8_startsOf 59 = .ok (.ifCond .eq 39, 3) := by decide +kernel
theorem dX8_startsOf_62 : decode cX8_startsOf 62 = .ok (.iload 5, 2) := by decide +kernel
theorem dX8_startsOf_64 : decode cX8_startsOf 64 = .ok (.iload 4, 2) := by decide +kernel
theorem dX8_startsOf_66 : decode cX8_startsOf 66 = .ok (.if_icmp .eq 18, 3) := by decide +kernel
theorem dX8_startsOf_69 : decode cX8_startsOf 69 = .ok (.aload_n 0, 1) := by decide +kernel
theorem dX8_startsOf_70 : decode cX8_startsOf 70 = .ok (.aload_n 1, 1) := by decide +kernel
theorem dX8_startsOf_71 : decode cX8_startsOf 71 = .ok (.aload_n 2, 1) := by decide +kernel
theorem dX8_startsOf_72 : decode cX8_startsOf 72 = .ok (.iload 6, 2) := by decide +kernel
theorem dX8_startsOf_74 : decode cX8_startsOf 74 = .ok (.iload 5, 2) := by decide +kernel
theorem dX8_startsOf_76 : decode cX8_startsOf 76 = .ok (.iload 4, 2) := by decide +kernel
theorem dX8_startsOf_78 : decode cX8_startsOf 78 = .ok (.invokevirtual 35, 3) := by decide +kernel
theorem dX8_startsOf_81 : decode cX8_startsOf 81 = .ok (.ifCond .eq 17, 3) := by decide +kernel
theorem dX8_startsOf_84 : decode cX8_startsOf 84 = .ok (.aload_n 0, 1) := by decide +kernel
theorem dX8_startsOf_85 : decode cX8_startsOf 85 = .ok (.getfield 24, 3) := by decide +kernel
theorem dX8_startsOf_88 : decode cX8_startsOf 88 = .ok (.iload 5, 2) := by decide +kernel
theorem dX8_startsOf_90 : decode cX8_startsOf 90 = .ok (.dup2, 1) := by decide +kernel
theorem dX8_startsOf_91 : decode cX8_startsOf 91 = .ok (.iaload, 1) := by decide +kernel
theorem dX8_startsOf_92 : decode cX8_startsOf 92 = .ok (.iconst 1, 1) := by decide +kernel
theorem dX8_startsOf_93 : decode cX8_startsOf 93 = .ok (.iload 6, 2) := by decide +kernel
theorem dX8_startsOf_95 : decode cX8_startsOf 95 = .ok (.ishl, 1) := by decide +kernel
theorem dX8_startsOf_96 : decode cX8_startsOf 96 = .ok (.ior, 1) := by decide +kernel
theorem dX8_startsOf_97 : decode cX8_startsOf 97 = .ok (.iastore, 1) := by decide +kernel
theorem dX8_startsOf_98 : decode cX8_startsOf 98 = .ok (.iinc 6 1, 3) := by decide +kernel
theorem dX8_startsOf_101 : decode cX8_startsOf 101 = .ok (.goto (-74), 3) := by decide +kernel
theorem dX8_startsOf_104 : decode cX8_startsOf 104 = .ok (.iinc 5 (-1), 3) := by decide +kernel
theorem dX8_startsOf_107 : decode cX8_startsOf 107 = .ok (.goto (-96), 3) := by decide +kernel
theorem dX8_startsOf_110 : decode cX8_startsOf 110 = .ok (.aload_n 0, 1) := by decide +kernel
theorem dX8_startsOf_111 : decode cX8_startsOf 111 = .ok (.getfield 24, 3) := by decide +kernel
theorem dX8_startsOf_114 : decode cX8_startsOf 114 = .ok (.iconst 0, 1) := by decide +kernel
theorem dX8_startsOf_115 : decode cX8_startsOf 115 = .ok (.iaload, 1) := by decide +kernel
theorem dX8_startsOf_116 : decode cX8_startsOf 116 = .ok (.ireturn, 1) := by decide +kernel
theorem dX8_lookUp_0 : decode cX8_lookUp 0 = .ok (.iconst 0, 1) := by decide +kernel
theorem dX8_lookUp_1 : decode cX8_lookUp 1 = .ok (.istore_n 2, 1) := by decide +kernel
theorem dX8_lookUp_2 : decode cX8_lookUp 2 = .ok (.iload_n 2, 1) := by decide +kernel
theorem dX8_lookUp_3 : decode cX8_lookUp 3 = .ok (.aload_n 0, 1) := by decide +kernel
theorem dX8_lookUp_4 : decode cX8_lookUp 4 = .ok (.getfield 21, 3) := by decide +kernel
theorem dX8_lookUp_7 : decode cX8_lookUp 7 = .ok (.arraylength, 1) := by decide +kernel
theorem dX8_lookUp_8 : decode cX8_lookUp 8 = .ok (.if_icmp .ge 18, 3) := by decide +kernel
theorem dX8_lookUp_11 : decode cX8_lookUp 11 = .ok (.aload_n 0, 1) := by decide +kernel
theorem dX8_lookUp_12 : decode cX8_lookUp 12 = .ok (.getfield 21, 3) := by decide +kernel
theorem dX8_lookUp_15 : decode cX8_lookUp 15 = .ok (.iload_n 2, 1) := by decide +kernel
theorem dX8_lookUp_16 : decode cX8_lookUp 16 = .ok (.sipush 4095, 3) := by decide +kernel
theorem dX8_lookUp_19 : decode cX8_lookUp 19 = .ok (.iastore, 1) := by decide +kernel
theorem dX8_lookUp_20 : decode cX8_lookUp 20 = .ok (.iinc 2 1, 3) := by decide +kernel
theorem dX8_lookUp_23 : decode cX8_lookUp 23 = .ok (.goto (-21), 3) := by decide +kernel
theorem dX8_lookUp_26 : decode cX8_lookUp 26 = .ok (.iconst 0, 1) := by decide +kernel
theorem dX8_lookUp_27 : decode cX8_lookUp 27 = .ok (.istore_n 2, 1) := by decide +kernel
theorem dX8_lookUp_28 : decode cX8_lookUp 28 = .ok (.iconst 0, 1) := by decide +kernel
theorem dX8_lookUp_29 : decode cX8_lookUp 29 = .ok (.istore_n 3, 1) := by decide +kernel
theorem dX8_lookUp_30 : decode cX8_lookUp 30 = .ok (.iload_n 3, 1) := by decide +kernel
theorem dX8_lookUp_31 : decode cX8_lookUp 31 = .ok (.aload_n 0, 1) := by decide +kernel
theorem dX8_lookUp_32 : decode cX8_lookUp 32 = .ok (.getfield 27, 3) := by decide +kernel
theorem dX8_lookUp_35 : decode cX8_lookUp 35 = .ok (.if_icmp .ge 73, 3) := by decide +kernel
theorem dX8_lookUp_38 : decode cX8_lookUp 38 = .ok (.iload_n 3, 1) := by decide +kernel
theorem dX8_lookUp_39 : decode cX8_lookUp 39 = .ok (.bipush 6, 2) := by decide +kernel
theorem dX8_lookUp_41 : decode cX8_lookUp 41 = .ok (.if_icmp .ge 67, 3) := by decide +kernel
theorem dX8_lookUp_44 : decode cX8_lookUp 44 = .ok (.aload_n 0, 1) := by decide +kernel
theorem dX8_lookUp_45 : decode cX8_lookUp 45 = .ok (.getfield 18, 3) := by decide +kernel
theorem dX8_lookUp_48 : decode cX8_lookUp 48 = .ok (.iload_n 3, 1) := by decide +kernel
theorem dX8_lookUp_49 : decode cX8_lookUp 49 = .ok (.iaload, 1) := by decide +kernel
theorem dX8_lookUp_50 : decode cX8_lookUp 50 = .ok (.istore 4, 2) := by decide +kernel
theorem dX8_lookUp_52 : decode cX8_lookUp 52 = .ok (.aload_n 0, 1) := by decide +kernel
theorem dX8_lookUp_53 : decode cX8_lookUp 53 = .ok (.getfield 9, 3) := by decide +kernel
theorem dX8_lookUp_56 : decode cX8_lookUp 56 = .ok (.iload_n 3, 1) := by decide +kernel
theorem dX8_lookUp_57 : decode cX8_lookUp 57 = .ok (.iaload, 1) := by decide +kernel
theorem dX8_lookUp_58 : decode cX8_lookUp 58 = .ok (.iload_n 1, 1) := by decide +kernel
theorem dX8_lookUp_59 : decode cX8_lookUp 59 = .ok (.if_icmp .ne 43, 3) := by decide +kernel
theorem dX8_lookUp_62 : decode cX8_lookUp 62 = .ok (.iload 4, 2) := by decide +kernel
theorem dX8_lookUp_64 : decode cX8_lookUp 64 = .ok (.ifCond .lt 38, 3) := by decide +kernel
theorem dX8_lookUp_67 : decode cX8_lookUp 67 = .ok (.iload 4, 2) := by decide +kernel
theorem dX8_lookUp_69 : decode cX8_lookUp 69 = .ok (.aload_n 0, 1) := by decide +kernel
theorem dX8_lookUp_70 : decode cX8_lookUp 70 = .ok (.getfield 21, 3) := by decide +kernel
theorem dX8_lookUp_73 : decode cX8_lookUp 73 = .ok (.arraylength, 1) := by decide +kernel
theorem dX8_lookUp_74 : decode cX8_lookUp 74 = .ok (.if_icmp .ge 28, 3) := by decide +kernel
theorem dX8_lookUp_77 : decode cX8_lookUp 77 = .ok (.aload_n 0, 1) := by decide +kernel
theorem dX8_lookUp_78 : decode cX8_lookUp 78 = .ok (.getfield 21, 3) := by decide +kernel
theorem dX8_lookUp_81 : decode cX8_lookUp 81 = .ok (.iload 4, 2) := by decide +kernel
theorem dX8_lookUp_83 : decode cX8_lookUp 83 = .ok (.dup2, 1) := by decide +kernel
theorem dX8_lookUp_84 : decode cX8_lookUp 84 = .ok (.iaload, 1) := by decide +kernel
theorem dX8_lookUp_85 : decode cX8_lookUp 85 = .ok (.iconst 1, 1) := by decide +kernel
theorem dX8_lookUp_86 : decode cX8_lookUp 86 = .ok (.aload_n 0, 1) := by decide +kernel
theorem dX8_lookUp_87 : decode cX8_lookUp 87 = .ok (.getfield 15, 3) := by decide +kernel
theorem dX8_lookUp_90 : decode cX8_lookUp 90 = .ok (.iload_n 3, 1) := by decide +kernel
theorem dX8_lookUp_91 : decode cX8_lookUp 91 = .ok (.iaload, 1) := by decide +kernel
theorem dX8_lookUp_92 : decode cX8_lookUp 92 = .ok (.ishl, 1) := by decide +kernel
theorem dX8_lookUp_93 : decode cX8_lookUp 93 = .ok (.iand, 1) := by decide +kernel
theorem dX8_lookUp_94 : decode cX8_lookUp 94 = .ok (.iastore, 1) := by decide +kernel
theorem dX8_lookUp_95 : decode cX8_lookUp 95 = .ok (.iload_n 2, 1) := by decide +kernel
theorem dX8_lookUp_96 : decode cX8_lookUp 96 = .ok (.iload 4, 2) := by decide +kernel
theorem dX8_lookUp_98 : decode cX8_lookUp 98 = .ok (.invokestatic 39, 3) := by decide +kernel
theorem dX8_lookUp_101 : decode cX8_lookUp 101 = .ok (.istore_n 2, 1) := by decide +kernel
theorem dX8_lookUp_102 : decode cX8_lookUp 102 = .ok (.iinc 3 1, 3) := by decide +kernel
theorem dX8_lookUp_105 : decode cX8_lookUp 105 = .ok (.goto (-75), 3) := by decide +kernel
theorem dX8_lookUp_108 : decode cX8_lookUp 108 = .ok (.iload_n 2, 1) := by decide +kernel
theorem dX8_lookUp_109 : decode cX8_lookUp 109 = .ok (.ireturn, 1) := by decide +kernel
theorem dX8_goesOn_0 : decode cX8_goesOn 0 = .ok (.aload_n 0, 1) := by decide +kernel
theorem dX8_goesOn_1 : decode cX8_goesOn 1 = .ok (.iload_n 3, 1) := by decide +kernel
theorem dX8_goesOn_2 : decode cX8_goesOn 2 = .ok (.iload 4, 2) := by decide +kernel
theorem dX8_goesOn_4 : decode cX8_goesOn 4 = .ok (.iconst 1, 1) := by decide +kernel
theorem dX8_goesOn_5 : decode cX8_goesOn 5 = .ok (.iadd, 1) := by decide +kernel
theorem dX8_goesOn_6 : decode cX8_goesOn 6 = .ok (.iload 5, 2) := by decide +kernel
theorem dX8_goesOn_8 : decode cX8_goesOn 8 = .ok (.invokevirtual 45, 3) := by decide +kernel
theorem dX8_goesOn_11 : decode cX8_goesOn 11 = .ok (.ifCond .eq 5, 3) := by decide +kernel
theorem dX8_goesOn_14 : decode cX8_goesOn 14 = .ok (.iconst 1, 1) := by decide +kernel
theorem dX8_goesOn_15 : decode cX8_goesOn 15 = .ok (.ireturn, 1) := by decide +kernel
theorem dX8_goesOn_16 : decode cX8_goesOn 16 = .ok (.iconst 0, 1) := by decide +kernel
theorem dX8_goesOn_17 : decode cX8_goesOn 17 = .ok (.istore 6, 2) := by decide +kernel
theorem dX8_goesOn_19 : decode cX8_goesOn 19 = .ok (.iload 6, 2) := by decide +kernel
theorem dX8_goesOn_21 : decode cX8_goesOn 21 = .ok (.iconst 4, 1) := by decide +kernel
theorem dX8_goesOn_22 : decode cX8_goesOn 22 = .ok (.if_icmp .ge 63, 3) := by decide +kernel
theorem dX8_goesOn_25 : decode cX8_goesOn 25 = .ok (.aload_n 1, 1) := by decide +kernel
theorem dX8_goesOn_26 : decode cX8_goesOn 26 = .ok (.aload_n 2, 1) := by decide +kernel
theorem dX8_goesOn_27 : decode cX8_goesOn 27 = .ok (.iload_n 3, 1) := by decide +kernel
theorem dX8_goesOn_28 : decode cX8_goesOn 28 = .ok (.iload 6, 2) := by decide +kernel
theorem dX8_goesOn_30 : decode cX8_goesOn 30 = .ok (.iload 4, 2) := by decide +kernel
theorem dX8_goesOn_32 : decode cX8_goesOn 32 = .ok (.invokevirtual 49, 3) := by decide +kernel
theorem dX8_goesOn_35 : decode cX8_goesOn 35 = .ok (.istore 7, 2) := by decide +kernel
theorem dX8_goesOn_37 : decode cX8_goesOn 37 = .ok (.iload 7, 2) := by decide +kernel
theorem dX8_goesOn_39 : decode cX8_goesOn 39 = .ok (.iconst (-1), 1) := by decide +kernel
theorem dX8_goesOn_40 : decode cX8_goesOn 40 = .ok (.if_icmp .eq 39, 3) := by decide +kernel
theorem dX8_goesOn_43 : decode cX8_goesOn 43 = .ok (.aload_n 0, 1) := by decide +kernel
theorem dX8_goesOn_44 : decode cX8_goesOn 44 = .ok (.iload 4, 2) := by decide +kernel
theorem dX8_goesOn_46 : decode cX8_goesOn 46 = .ok (.iload 4, 2) := by decide +kernel
theorem dX8_goesOn_48 : decode cX8_goesOn 48 = .ok (.iload 7, 2) := by decide +kernel
theorem dX8_goesOn_50 : decode cX8_goesOn 50 = .ok (.iadd, 1) := by decide +kernel
theorem dX8_goesOn_51 : decode cX8_goesOn 51 = .ok (.invokevirtual 55, 3) := by decide +kernel
theorem dX8_goesOn_54 : decode cX8_goesOn 54 = .ok (.ifCond .eq 25, 3) := by decide +kernel
theorem dX8_goesOn_57 : decode cX8_goesOn 57 = .ok (.aload_n 0, 1) := by decide +kernel
theorem dX8_goesOn_58 : decode cX8_goesOn 58 = .ok (.iload_n 3, 1) := by decide +kernel
theorem dX8_goesOn_59 : decode cX8_goesOn 59 = .ok (.iload 6, 2) := by decide +kernel
theorem dX8_goesOn_61 : decode cX8_goesOn 61 = .ok (.invokestatic 59, 3) := by decide +kernel
theorem dX8_goesOn_64 : decode cX8_goesOn 64 = .ok (.iload 4, 2) := by decide +kernel
theorem dX8_goesOn_66 : decode cX8_goesOn 66 = .ok (.iload 7, 2) := by decide +kernel
theorem dX8_goesOn_68 : decode cX8_goesOn 68 = .ok (.iadd, 1) := by decide +kernel
theorem dX8_goesOn_69 : decode cX8_goesOn 69 = .ok (.iload 5, 2) := by decide +kernel
theorem dX8_goesOn_71 : decode cX8_goesOn 71 = .ok (.invokevirtual 45, 3) := by decide +kernel
theorem dX8_goesOn_74 : decode cX8_goesOn 74 = .ok (.ifCond .eq 5, 3) := by decide +kernel
theorem dX8_goesOn_77 : decode cX8_goesOn 77 = .ok (.iconst 1, 1) := by decide +kernel
theorem dX8_goesOn_78 : decode cX8_goesOn 78 = .ok (.ireturn, 1) := by decide +kernel
theorem dX8_goesOn_79 : decode cX8_goesOn 79 = .ok (.iinc 6 1, 3) := by decide +kernel
theorem dX8_goesOn_82 : decode cX8_goesOn 82 = .ok (.goto (-63), 3) := by decide +kernel
theorem dX8_goesOn_85 : decode cX8_goesOn 85 = .ok (.iconst 0, 1) := by decide +kernel
theorem dX8_goesOn_86 : decode cX8_goesOn 86 = .ok (.ireturn, 1) := by decide +kernel
theorem dX8_canBe_0 : decode cX8_canBe 0 = .ok (.iload_n 1, 1) := by decide +kernel
theorem dX8_canBe_1 : decode cX8_canBe 1 = .ok (.invokestatic 62, 3) := by decide +kernel
theorem dX8_canBe_4 : decode cX8_canBe 4 = .ok (.ifCond .eq 39, 3) := by decide +kernel
theorem dX8_canBe_7 : decode cX8_canBe 7 = .ok (.iload_n 2, 1) := by decide +kernel
theorem dX8_canBe_8 : decode cX8_canBe 8 = .ok (.ifCond .lt 35, 3) := by decide +kernel
theorem dX8_canBe_11 : decode cX8_canBe 11 = .ok (.iload_n 2, 1) := by decide +kernel
theorem dX8_canBe_12 : decode cX8_canBe 12 = .ok (.iload_n 3, 1) := by decide +kernel
theorem dX8_canBe_13 : decode cX8_canBe 13 = .ok (.if_icmp .gt 30, 3) := by decide +kernel
theorem dX8_canBe_16 : decode cX8_canBe 16 = .ok (.iload_n 2, 1) := by decide +kernel
theorem dX8_canBe_17 : decode cX8_canBe 17 = .ok (.aload_n 0, 1) := by decide +kernel
theorem dX8_canBe_18 : decode cX8_canBe 18 = .ok (.getfield 24, 3) := by decide +kernel
theorem dX8_canBe_21 : decode cX8_canBe 21 = .ok (.arraylength, 1) := by decide +kernel
theorem dX8_canBe_22 : decode cX8_canBe 22 = .ok (.if_icmp .ge 21, 3) := by decide +kernel
theorem dX8_canBe_25 : decode cX8_canBe 25 = .ok (.aload_n 0, 1) := by decide +kernel
theorem dX8_canBe_26 : decode cX8_canBe 26 = .ok (.getfield 24, 3) := by decide +kernel
theorem dX8_canBe_29 : decode cX8_canBe 29 = .ok (.iload_n 2, 1) := by decide +kernel
theorem dX8_canBe_30 : decode cX8_canBe 30 = .ok (.iaload, 1) := by decide +kernel
theorem dX8_canBe_31 : decode cX8_canBe 31 = .ok (.iload_n 1, 1) := by decide +kernel
theorem dX8_canBe_32 : decode cX8_canBe 32 = .ok (.ishr, 1) := by decide +kernel
theorem dX8_canBe_33 : decode cX8_canBe 33 = .ok (.iconst 1, 1) := by decide +kernel
theorem dX8_canBe_34 : decode cX8_canBe 34 = .ok (.iand, 1) := by decide +kernel
theorem dX8_canBe_35 : decode cX8_canBe 35 = .ok (.iconst 1, 1) := by decide +kernel
theorem dX8_canBe_36 : decode cX8_canBe 36 = .ok (.if_icmp .ne 7, 3) := by decide +kernel
theorem dX8_canBe_39 : decode cX8_canBe 39 = .ok (.iconst 1, 1) := by decide +kernel
theorem dX8_canBe_40 : decode cX8_canBe 40 = .ok (.goto 4, 3) := by decide +kernel
theorem dX8_canBe_43 : decode cX8_canBe 43 = .ok (.iconst 0, 1) := by decide +kernel
theorem dX8_canBe_44 : decode cX8_canBe 44 = .ok (.ireturn, 1) := by decide +kernel
theorem dX8_unseenBetween_0 : decode cX8_unseenBetween 0 = .ok (.iload_n 1, 1) := by decide +kernel
theorem dX8_unseenBetween_1 : decode cX8_unseenBetween 1 = .ok (.iconst 1, 1) := by decide +kernel
theorem dX8_unseenBetween_2 : decode cX8_unseenBetween 2 = .ok (.iadd, 1) := by decide +kernel
theorem dX8_unseenBetween_3 : decode cX8_unseenBetween 3 = .ok (.istore_n 3, 1) := by decide +kernel
theorem dX8_unseenBetween_4 : decode cX8_unseenBetween 4 = .ok (.iload_n 3, 1) := by decide +kernel
theorem dX8_unseenBetween_5 : decode cX8_unseenBetween 5 = .ok (.iload_n 2, 1) := by decide +kernel
theorem dX8_unseenBetween_6 : decode cX8_unseenBetween 6 = .ok (.if_icmp .ge 36, 3) := by decide +kernel
theorem dX8_unseenBetween_9 : decode cX8_unseenBetween 9 = .ok (.iload_n 3, 1) := by decide +kernel
theorem dX8_unseenBetween_10 : decode cX8_unseenBetween 10 = .ok (.aload_n 0, 1) := by decide +kernel
theorem dX8_unseenBetween_11 : decode cX8_unseenBetween 11 = .ok (.getfield 21, 3) := by decide +kernel
theorem dX8_unseenBetween_14 : decode cX8_unseenBetween 14 = .ok (.arraylength, 1) := by decide +kernel
theorem dX8_unseenBetween_15 : decode cX8_unseenBetween 15 = .ok (.if_icmp .ge 27, 3) := by decide +kernel
theorem dX8_unseenBetween_18 : decode cX8_unseenBetween 18 = .ok (.iload_n 3, 1) := by decide +kernel
theorem dX8_unseenBetween_19 : decode cX8_unseenBetween 19 = .ok (.ifCond .lt 17, 3) := by decide +kernel
theorem dX8_unseenBetween_22 : decode cX8_unseenBetween 22 = .ok (.aload_n 0, 1) := by decide +kernel
theorem dX8_unseenBetween_23 : decode cX8_unseenBetween 23 = .ok (.getfield 21, 3) := by decide +kernel
theorem dX8_unseenBetween_26 : decode cX8_unseenBetween 26 = .ok (.iload_n 3, 1) := by decide +kernel
theorem dX8_unseenBetween_27 : decode cX8_unseenBetween 27 = .ok (.iaload, 1) := by decide +kernel
theorem dX8_unseenBetween_28 : decode cX8_unseenBetween 28 = .ok (.sipush 4095, 3) := by decide +kernel
theorem dX8_unseenBetween_31 : decode cX8_unseenBetween 31 = .ok (.if_icmp .eq 5, 3) := by decide +kernel
theorem dX8_unseenBetween_34 : decode cX8_unseenBetween 34 = .ok (.iconst 0, 1) := by decide +kernel
theorem dX8_unseenBetween_35 : decode cX8_unseenBetween 35 = .ok (.ireturn, 1) := by decide +kernel
theorem dX8_unseenBetween_36 : decode cX8_unseenBetween 36 = .ok (.iinc 3 1, 3) := by decide +kernel
theorem dX8_unseenBetween_39 : decode cX8_unseenBetween 39 = .ok (.goto (-35), 3) := by decide +kernel
theorem dX8_unseenBetween_42 : decode cX8_unseenBetween 42 = .ok (.iconst 1, 1) := by decide +kernel
theorem dX8_unseenBetween_43 : decode cX8_unseenBetween 43 = .ok (.ireturn, 1) := by decide +kernel
theorem dX9_init_0 : decode cX9_init 0 = .ok (.aload_n 0, 1) := by decide +kernel
theorem dX9_init_1 : decode cX9_init 1 = .ok (.iload_n 1, 1) := by decide +kernel
theorem dX9_init_2 : decode cX9_init 2 = .ok (.iload_n 2, 1) := by decide +kernel
theorem dX9_init_3 : decode cX9_init 3 = .ok (.invokespecial 1, 3) := by decide +kernel
theorem dX9_init_6 : decode cX9_init 6 = .ok (.return_, 1) := by decide +kernel
theorem dX9_kind_0 : decode cX9_kind 0 = .ok (.iconst 3, 1) := by decide +kernel
theorem dX9_kind_1 : decode cX9_kind 1 = .ok (.ireturn, 1) := by decide +kernel
theorem dX9_cornNeeded_0 : decode cX9_cornNeeded 0 = .ok (.iconst 0, 1) := by decide +kernel
theorem dX9_cornNeeded_1 : decode cX9_cornNeeded 1 = .ok (.ireturn, 1) := by decide +kernel
theorem dX9_hoursWith_0 : decode cX9_hoursWith 0 = .ok (.iconst 2, 1) := by decide +kernel
theorem dX9_hoursWith_1 : decode cX9_hoursWith 1 = .ok (.ireturn, 1) := by decide +kernel
theorem dX9_hoursAcross_0 : decode cX9_hoursAcross 0 = .ok (.iconst 3, 1) := by decide +kernel
theorem dX9_hoursAcross_1 : decode cX9_hoursAcross 1 = .ok (.ireturn, 1) := by decide +kernel
theorem dX9_hoursBecalmed_0 : decode cX9_hoursBecalmed 0 = .ok (.iconst 4, 1) := by decide +kernel
theorem dX9_hoursBecalmed_1 : decode cX9_hoursBecalmed 1 = .ok (.ireturn, 1) := by decide +kernel
theorem dX10_init_0 : decode cX10_init 0 = .ok (.aload_n 0, 1) := by decide +kernel
theorem dX10_init_1 : decode cX10_init 1 = .ok (.iload_n 1, 1) := by decide +kernel
theorem dX10_init_2 : decode cX10_init 2 = .ok (.iload_n 2, 1) := by decide +kernel
theorem dX10_init_3 : decode cX10_init 3 = .ok (.invokespecial 1, 3) := by decide +kernel
theorem dX10_init_6 : decode cX10_init 6 = .ok (.return_, 1) := by decide +kernel
theorem dX10_kind_0 : decode cX10_kind 0 = .ok (.iconst 1, 1) := by decide +kernel
theorem dX10_kind_1 : decode cX10_kind 1 = .ok (.ireturn, 1) := by decide +kernel
theorem dX10_cornNeeded_0 : decode cX10_cornNeeded 0 = .ok (.aload_n 0, 1) := by decide +kernel
theorem dX10_cornNeeded_1 : decode cX10_cornNeeded 1 = .ok (.getfield 7, 3) := by decide +kernel
theorem dX10_cornNeeded_4 : decode cX10_cornNeeded 4 = .ok (.iconst 1, 1) := by decide +kernel
theorem dX10_cornNeeded_5 : decode cX10_cornNeeded 5 = .ok (.isub, 1) := by decide +kernel
theorem dX10_cornNeeded_6 : decode cX10_cornNeeded 6 = .ok (.ireturn, 1) := by decide +kernel
theorem dX11_init_0 : decode cX11_init 0 = .ok (.aload_n 0, 1) := by decide +kernel
theorem dX11_init_1 : decode cX11_init 1 = .ok (.invokespecial 3, 3) := by decide +kernel
theorem dX11_init_4 : decode cX11_init 4 = .ok (.aload_n 0, 1) := by decide +kernel
theorem dX11_init_5 : decode cX11_init 5 = .ok (.bipush 18, 2) := by decide +kernel
theorem dX11_init_7 : decode cX11_init 7 = .ok (.newarray .int, 2) := by decide +kernel
theorem dX11_init_9 : decode cX11_init 9 = .ok (.putfield 9, 3) := by decide +kernel
theorem dX11_init_12 : decode cX11_init 12 = .ok (.aload_n 0, 1) := by decide +kernel
theorem dX11_init_13 : decode cX11_init 13 = .ok (.iconst 3, 1) := by decide +kernel
theorem dX11_init_14 : decode cX11_init 14 = .ok (.anewarray 13, 3) := by decide +kernel
theorem dX11_init_17 : decode cX11_init 17 = .ok (.putfield 15, 3) := by decide +kernel
theorem dX11_init_20 : decode cX11_init 20 = .ok (.aload_n 0, 1) := by decide +kernel
theorem dX11_init_21 : decode cX11_init 21 = .ok (.new 19, 3) := by decide +kernel
theorem dX11_init_24 : decode cX11_init 24 = .ok (.dup, 1) := by decide +kernel
theorem dX11_init_25 : decode cX11_init 25 = .ok (.invokespecial 21, 3) := by decide +kernel
theorem dX11_init_28 : decode cX11_init 28 = .ok (.putfield 22, 3) := by decide +kernel
theorem dX11_init_31 : decode cX11_init 31 = .ok (.aload_n 0, 1) := by decide +kernel
theorem dX11_init_32 : decode cX11_init 32 = .ok (.new 26, 3) := by decide +kernel
theorem dX11_init_35 : decode cX11_init 35 = .ok (.dup, 1) := by decide +kernel
theorem dX11_init_36 : decode cX11_init 36 = .ok (.invokespecial 28, 3) := by decide +kernel
theorem dX11_init_39 : decode cX11_init 39 = .ok (.putfield 29, 3) := by decide +kernel
theorem dX11_init_42 : decode cX11_init 42 = .ok (.aload_n 0, 1) := by decide +kernel
theorem dX11_init_43 : decode cX11_init 43 = .ok (.new 33, 3) := by decide +kernel
theorem dX11_init_46 : decode cX11_init 46 = .ok (.dup, 1) := by decide +kernel
theorem dX11_init_47 : decode cX11_init 47 = .ok (.invokespecial 35, 3) := by decide +kernel
theorem dX11_init_50 : decode cX11_init 50 = .ok (.putfield 36, 3) := by decide +kernel
theorem dX11_init_53 : decode cX11_init 53 = .ok (.aload_n 0, 1) := by decide +kernel
theorem dX11_init_54 : decode cX11_init 54 = .ok (.new 40, 3) := by decide +kernel
theorem dX11_init_57 : decode cX11_init 57 = .ok (.dup, 1) := by decide +kernel
theorem dX11_init_58 : decode cX11_init 58 = .ok (.invokespecial 42, 3) := by decide +kernel
theorem dX11_init_61 : decode cX11_init 61 = .ok (.putfield 43, 3) := by decide +kernel
theorem dX11_init_64 : decode cX11_init 64 = .ok (.aload_n 0, 1) := by decide +kernel
theorem dX11_init_65 : decode cX11_init 65 = .ok (.new 47, 3) := by decide +kernel
theorem dX11_init_68 : decode cX11_init 68 = .ok (.dup, 1) := by decide +kernel
theorem dX11_init_69 : decode cX11_init 69 = .ok (.invokespecial 49, 3) := by decide +kernel
theorem dX11_init_72 : decode cX11_init 72 = .ok (.putfield 50, 3) := by decide +kernel
theorem dX11_init_75 : decode cX11_init 75 = .ok (.bipush 12, 2) := by decide +kernel
theorem dX11_init_77 : decode cX11_init 77 = .ok (.newarray .int, 2) := by decide +kernel
theorem dX11_init_79 : decode cX11_init 79 = .ok (.astore_n 1, 1) := by decide +kernel
theorem dX11_init_80 : decode cX11_init 80 = .ok (.aload_n 0, 1) := by decide +kernel
theorem dX11_init_81 : decode cX11_init 81 = .ok (.new 54, 3) := by decide +kernel
theorem dX11_init_84 : decode cX11_init 84 = .ok (.dup, 1) := by decide +kernel
theorem dX11_init_85 : decode cX11_init 85 = .ok (.aload_n 1, 1) := by decide +kernel
theorem dX11_init_86 : decode cX11_init 86 = .ok (.invokespecial 56, 3) := by decide +kernel
theorem dX11_init_89 : decode cX11_init 89 = .ok (.putfield 59, 3) := by decide +kernel
theorem dX11_init_92 : decode cX11_init 92 = .ok (.aload_n 0, 1) := by decide +kernel
theorem dX11_init_93 : decode cX11_init 93 = .ok (.new 54, 3) := by decide +kernel
theorem dX11_init_96 : decode cX11_init 96 = .ok (.dup, 1) := by decide +kernel
theorem dX11_init_97 : decode cX11_init 97 = .ok (.aload_n 1, 1) := by decide +kernel
theorem dX11_init_98 : decode cX11_init 98 = .ok (.invokespecial 56, 3) := by decide +kernel
theorem dX11_init_101 : decode cX11_init 101 = .ok (.putfield 63, 3) := by decide +kernel
theorem dX11_init_104 : decode cX11_init 104 = .ok (.return_, 1) := by decide +kernel
theorem dX11_letter_0 : decode cX11_letter 0 = .ok (.iload_n 1, 1) := by decide +kernel
theorem dX11_letter_1 : decode cX11_letter 1 = .ok (.iconst 1, 1) := by decide +kernel
theorem dX11_letter_2 : decode cX11_letter 2 = .ok (.if_icmp .lt 9, 3) := by decide +kernel
theorem dX11_letter_5 : decode cX11_letter 5 = .ok (.iload_n 1, 1) := by decide +kernel
theorem dX11_letter_6 : decode cX11_letter 6 = .ok (.bipush 126, 2) := by decide +kernel
theorem dX11_letter_8 : decode cX11_letter 8 = .ok (.if_icmp .le 6, 3) := by decide +kernel
theorem dX11_letter_11 : decode cX11_letter 11 = .ok (.bipush (-102), 2) := by decide +kernel
theorem dX11_letter_13 : decode cX11_letter 13 = .ok (.ireturn, 1) := by decide +kernel
theorem dX11_letter_14 : decode cX11_letter 14 = .ok (.aload_n 0, 1) := by decide +kernel
theorem dX11_letter_15 : decode cX11_letter 15 = .ok (.getfield 66, 3) := by decide +kernel
theorem dX11_letter_18 : decode cX11_letter 18 = .ok (.ifCond .lt 15, 3) := by decide +kernel
theorem dX11_letter_21 : decode cX11_letter 21 = .ok (.aload_n 0, 1) := by decide +kernel
theorem dX11_letter_22 : decode cX11_letter 22 = .ok (.getfield 66, 3) := by decide +kernel
theorem dX11_letter_25 : decode cX11_letter 25 = .ok (.aload_n 0, 1) := by decide +kernel
theorem dX11_letter_26 : decode cX11_letter 26 = .ok (.getfield 9, 3) := by decide +kernel
theorem dX11_letter_29 : decode cX11_letter 29 = .ok (.arraylength, 1) := by decide +kernel
theorem dX11_letter_30 : decode cX11_letter 30 = .ok (.if_icmp .lt 6, 3) := by decide +kernel
theorem dX11_letter_33 : decode cX11_letter 33 = .ok (.bipush (-104), 2) := by decide +kernel
theorem dX11_letter_35 : decode cX11_letter 35 = .ok (.ireturn, 1) := by decide +kernel
theorem dX11_letter_36 : decode cX11_letter 36 = .ok (.aload_n 0, 1) := by decide +kernel
theorem dX11_letter_37 : decode cX11_letter 37 = .ok (.getfield 9, 3) := by decide +kernel
theorem dX11_letter_40 : decode cX11_letter 40 = .ok (.aload_n 0, 1) := by decide +kernel
theorem dX11_letter_41 : decode cX11_letter 41 = .ok (.getfield 66, 3) := by decide +kernel
theorem dX11_letter_44 : decode cX11_letter 44 = .ok (.iload_n 1, 1) := by decide +kernel
theorem dX11_letter_45 : decode cX11_letter 45 = .ok (.iastore, 1) := by decide +kernel
theorem dX11_letter_46 : decode cX11_letter 46 = .ok (.aload_n 0, 1) := by decide +kernel
theorem dX11_letter_47 : decode cX11_letter 47 = .ok (.dup, 1) := by decide +kernel
theorem dX11_letter_48 : decode cX11_letter 48 = .ok (.getfield 66, 3) := by decide +kernel
theorem dX11_letter_51 : decode cX11_letter 51 = .ok (.iconst 1, 1) := by decide +kernel
theorem dX11_letter_52 : decode cX11_letter 52 = .ok (.iadd, 1) := by decide +kernel
theorem dX11_letter_53 : decode cX11_letter 53 = .ok (.putfield 66, 3) := by decide +kernel
theorem dX11_letter_56 : decode cX11_letter 56 = .ok (.aload_n 0, 1) := by decide +kernel
theorem dX11_letter_57 : decode cX11_letter 57 = .ok (.getfield 66, 3) := by decide +kernel
theorem dX11_letter_60 : decode cX11_letter 60 = .ok (.ireturn, 1) := by decide +kernel
theorem dX11_blank_0 : decode cX11_blank 0 = .ok (.aload_n 0, 1) := by decide +kernel
theorem dX11_blank_1 : decode cX11_blank 1 = .ok (.getfield 66, 3) := by decide +kernel
theorem dX11_blank_4 : decode cX11_blank 4 = .ok (.istore_n 1, 1) := by decide +kernel
theorem dX11_blank_5 : decode cX11_blank 5 = .ok (.aload_n 0, 1) := by decide +kernel
theorem dX11_blank_6 : decode cX11_blank 6 = .ok (.iconst 0, 1) := by decide +kernel
theorem dX11_blank_7 : decode cX11_blank 7 = .ok (.putfield 66, 3) := by decide +kernel
theorem dX11_blank_10 : decode cX11_blank 10 = .ok (.iload_n 1, 1) := by decide +kernel
theorem dX11_blank_11 : decode cX11_blank 11 = .ok (.ireturn, 1) := by decide +kernel
theorem dX11_fault_0 : decode cX11_fault 0 = .ok (.iconst 0, 1) := by decide +kernel
theorem dX11_fault_1 : decode cX11_fault 1 = .ok (.istore_n 1, 1) := by decide +kernel
theorem dX11_fault_2 : decode cX11_fault 2 = .ok (.iload_n 1, 1) := by decide +kernel
theorem dX11_fault_3 : decode cX11_fault 3 = .ok (.aload_n 0, 1) := by decide +kernel
theorem dX11_fault_4 : decode cX11_fault 4 = .ok (.getfield 66, 3) := by decide +kernel
theorem dX11_fault_7 : decode cX11_fault 7 = .ok (.if_icmp .ge 33, 3) := by decide +kernel
theorem dX11_fault_10 : decode cX11_fault 10 = .ok (.iload_n 1, 1) := by decide +kernel
theorem dX11_fault_11 : decode cX11_fault 11 = .ok (.aload_n 0, 1) := by decide +kernel
theorem dX11_fault_12 : decode cX11_fault 12 = .ok (.getfield 9, 3) := by decide +kernel
theorem dX11_fault_15 : decode cX11_fault 15 = .ok (.arraylength, 1) := by decide +kernel
theorem dX11_fault_16 : decode cX11_fault 16 = .ok (.if_icmp .ge 24, 3) := by decide +kernel
theorem dX11_fault_19 : decode cX11_fault 19 = .ok (.iload_n 1, 1) := by decide +kernel
theorem dX11_fault_20 : decode cX11_fault 20 = .ok (.aload_n 0, 1) := by decide +kernel
theorem dX11_fault_21 : decode cX11_fault 21 = .ok (.getfield 9, 3) := by decide +kernel
theorem dX11_fault_24 : decode cX11_fault 24 = .ok (.iload_n 1, 1) := by decide +kernel
theorem dX11_fault_25 : decode cX11_fault 25 = .ok (.iaload, 1) := by decide +kernel
theorem dX11_fault_26 : decode cX11_fault 26 = .ok (.invokestatic 70, 3) := by decide +kernel
theorem dX11_fault_29 : decode cX11_fault 29 = .ok (.ifCond .ne 5, 3) := by decide +kernel
theorem dX11_fault_32 : decode cX11_fault 32 = .ok (.iload_n 1, 1) := by decide +kernel
theorem dX11_fault_33 : decode cX11_fault 33 = .ok (.ireturn, 1) := by decide +kernel
theorem dX11_fault_34 : decode cX11_fault 34 = .ok (.iinc 1 1, 3) := by decide +kernel
theorem dX11_fault_37 : decode cX11_fault 37 = .ok (.goto (-35), 3) := by decide +kernel
theorem dX11_fault_40 : decode cX11_fault 40 = .ok (.aload_n 0, 1) := by decide +kernel
theorem dX11_fault_41 : decode cX11_fault 41 = .ok (.getfield 66, 3) := by decide +kernel
theorem dX11_fault_44 : decode cX11_fault 44 = .ok (.ireturn, 1) := by decide +kernel
theorem dX11_plain_0 : decode cX11_plain 0 = .ok (.aload_n 0, 1) := by decide +kernel
theorem dX11_plain_1 : decode cX11_plain 1 = .ok (.getfield 66, 3) := by decide +kernel
theorem dX11_plain_4 : decode cX11_plain 4 = .ok (.ldc 74, 2) := by decide +kernel
theorem dX11_plain_6 : decode cX11_plain 6 = .ok (.invokevirtual 76, 3) := by decide +kernel
theorem dX11_plain_9 : decode cX11_plain 9 = .ok (.if_icmp .ne 14, 3) := by decide +kernel
theorem dX11_plain_12 : decode cX11_plain 12 = .ok (.aload_n 0, 1) := by decide +kernel
theorem dX11_plain_13 : decode cX11_plain 13 = .ok (.invokevirtual 82, 3) := by decide +kernel
theorem dX11_plain_16 : decode cX11_plain 16 = .ok (.aload_n 0, 1) := by decide +kernel
theorem dX11_plain_17 : decode cX11_plain 17 = .ok (.getfield 66, 3) := by decide +kernel
theorem dX11_plain_20 : decode cX11_plain 20 = .ok (.if_icmp .eq 6, 3) := by decide +kernel
theorem dX11_plain_23 : decode cX11_plain 23 = .ok (.bipush (-103), 2) := by decide +kernel
theorem dX11_plain_25 : decode cX11_plain 25 = .ok (.ireturn, 1) := by decide +kernel
theorem dX11_plain_26 : decode cX11_plain 26 = .ok (.aload_n 0, 1) := by decide +kernel
theorem dX11_plain_27 : decode cX11_plain 27 = .ok (.invokevirtual 85, 3) := by decide +kernel
theorem dX11_plain_30 : decode cX11_plain 30 = .ok (.iconst 0, 1) := by decide +kernel
theorem dX11_plain_31 : decode cX11_plain 31 = .ok (.istore_n 1, 1) := by decide +kernel
theorem dX11_plain_32 : decode cX11_plain 32 = .ok (.iconst 0, 1) := by decide +kernel
theorem dX11_plain_33 : decode cX11_plain 33 = .ok (.istore_n 2, 1) := by decide +kernel
theorem dX11_plain_34 : decode cX11_plain 34 = .ok (.iload_n 2, 1) := by decide +kernel
theorem dX11_plain_35 : decode cX11_plain 35 = .ok (.bipush 12, 2) := by decide +kernel
theorem dX11_plain_37 : decode cX11_plain 37 = .ok (.if_icmp .ge 32, 3) := by decide +kernel
theorem dX11_plain_40 : decode cX11_plain 40 = .ok (.aload_n 0, 1) := by decide +kernel
theorem dX11_plain_41 : decode cX11_plain 41 = .ok (.iload_n 2, 1) := by decide +kernel
theorem dX11_plain_42 : decode cX11_plain 42 = .ok (.iload_n 2, 1) := by decide +kernel
theorem dX11_plain_43 : decode cX11_plain 43 = .ok (.iconst 4, 1) := by decide +kernel
theorem dX11_plain_44 : decode cX11_plain 44 = .ok (.idiv, 1) := by decide +kernel
theorem dX11_plain_45 : decode cX11_plain 45 = .ok (.iadd, 1) := by decide +kernel
theorem dX11_plain_46 : decode cX11_plain 46 = .ok (.invokevirtual 88, 3) := by decide +kernel
theorem dX11_plain_49 : decode cX11_plain 49 = .ok (.istore_n 3, 1) := by decide +kernel
theorem dX11_plain_50 : decode cX11_plain 50 = .ok (.aload_n 0, 1) := by decide +kernel
theorem dX11_plain_51 : decode cX11_plain 51 = .ok (.getfield 59, 3) := by decide +kernel
theorem dX11_plain_54 : decode cX11_plain 54 = .ok (.iload_n 2, 1) := by decide +kernel
theorem dX11_plain_55 : decode cX11_plain 55 = .ok (.iload_n 3, 1) := by decide +kernel
theorem dX11_plain_56 : decode cX11_plain 56 = .ok (.invokevirtual 92, 3) := by decide +kernel
theorem dX11_plain_59 : decode cX11_plain 59 = .ok (.iload_n 1, 1) := by decide +kernel
theorem dX11_plain_60 : decode cX11_plain 60 = .ok (.iload_n 3, 1) := by decide +kernel
theorem dX11_plain_61 : decode cX11_plain 61 = .ok (.iadd, 1) := by decide +kernel
theorem dX11_plain_62 : decode cX11_plain 62 = .ok (.istore_n 1, 1) := by decide +kernel
theorem dX11_plain_63 : decode cX11_plain 63 = .ok (.iinc 2 1, 3) := by decide +kernel
theorem dX11_plain_66 : decode cX11_plain 66 = .ok (.goto (-32), 3) := by decide +kernel
theorem dX11_plain_69 : decode cX11_plain 69 = .ok (.aload_n 0, 1) := by decide +kernel
theorem dX11_plain_70 : decode cX11_plain 70 = .ok (.getfield 59, 3) := by decide +kernel
theorem dX11_plain_73 : decode cX11_plain 73 = .ok (.aload_n 0, 1) := by decide +kernel
theorem dX11_plain_74 : decode cX11_plain 74 = .ok (.ldc 74, 2) := by decide +kernel
theorem dX11_plain_76 : decode cX11_plain 76 = .ok (.invokevirtual 76, 3) := by decide +kernel
theorem dX11_plain_79 : decode cX11_plain 79 = .ok (.iconst 1, 1) := by decide +kernel
theorem dX11_plain_80 : decode cX11_plain 80 = .ok (.isub, 1) := by decide +kernel
theorem dX11_plain_81 : decode cX11_plain 81 = .ok (.invokevirtual 88, 3) := by decide +kernel
theorem dX11_plain_84 : decode cX11_plain 84 = .ok (.putfield 96, 3) := by decide +kernel
theorem dX11_plain_87 : decode cX11_plain 87 = .ok (.aload_n 0, 1) := by decide +kernel
theorem dX11_plain_88 : decode cX11_plain 88 = .ok (.dup, 1) := by decide +kernel
theorem dX11_plain_89 : decode cX11_plain 89 = .ok (.getfield 99, 3) := by decide +kernel
theorem dX11_plain_92 : decode cX11_plain 92 = .ok (.iconst 1, 1) := by decide +kernel
theorem dX11_plain_93 : decode cX11_plain 93 = .ok (.iadd, 1) := by decide +kernel
theorem dX11_plain_94 : decode cX11_plain 94 = .ok (.putfield 99, 3) := by decide +kernel
theorem dX11_plain_97 : decode cX11_plain 97 = .ok (.aload_n 0, 1) := by decide +kernel
theorem dX11_plain_98 : decode cX11_plain 98 = .ok (.iconst 0, 1) := by decide +kernel
theorem dX11_plain_99 : decode cX11_plain 99 = .ok (.putfield 66, 3) := by decide +kernel
theorem dX11_plain_102 : decode cX11_plain 102 = .ok (.iload_n 1, 1) := by decide +kernel
theorem dX11_plain_103 : decode cX11_plain 103 = .ok (.ireturn, 1) := by decide +kernel
theorem dX11_cell_0 : decode cX11_cell 0 = .ok (.aload_n 0, 1) := by decide +kernel
theorem dX11_cell_1 : decode cX11_cell 1 = .ok (.iload_n 1, 1) := by decide +kernel
theorem dX11_cell_2 : decode cX11_cell 2 = .ok (.invokevirtual 102, 3) := by decide +kernel
theorem dX11_cell_5 : decode cX11_cell 5 = .ok (.ifCond .ne 6, 3) := by decide +kernel
theorem dX11_cell_8 : decode cX11_cell 8 = .ok (.bipush (-101), 2) := by decide +kernel
theorem dX11_cell_10 : decode cX11_cell 10 = .ok (.ireturn, 1) := by decide +kernel
theorem dX11_cell_11 : decode cX11_cell 11 = .ok (.iload_n 2, 1) := by decide +kernel
theorem dX11_cell_12 : decode cX11_cell 12 = .ok (.tableswitch 70 0 3 #[32, 45, 55, 64], 32) := by decide +kernel
theorem dX11_cell_44 : decode cX11_cell 44 = .ok (.aload_n 0, 1) := by decide +kernel
theorem dX11_cell_45 : decode cX11_cell 45 = .ok (.getfield 59, 3) := by decide +kernel
theorem dX11_cell_48 : decode cX11_cell 48 = .ok (.iload_n 1, 1) := by decide +kernel
theorem dX11_cell_49 : decode cX11_cell 49 = .ok (.aload_n 0, 1) := by decide +kernel
theorem dX11_cell_50 : decode cX11_cell 50 = .ok (.getfield 106, 3) := by decide +kernel
theorem dX11_cell_53 : decode cX11_cell 53 = .ok (.invokevirtual 109, 3) := by decide +kernel
theorem dX11_cell_56 : decode cX11_cell 56 = .ok (.ireturn, 1) := by decide +kernel
theorem dX11_cell_57 : decode cX11_cell 57 = .ok (.aload_n 0, 1) := by decide +kernel
theorem dX11_cell_58 : decode cX11_cell 58 = .ok (.getfield 59, 3) := by decide +kernel
theorem dX11_cell_61 : decode cX11_cell 61 = .ok (.iload_n 1, 1) := by decide +kernel
theorem dX11_cell_62 : decode cX11_cell 62 = .ok (.iconst 0, 1) := by decide +kernel
theorem dX11_cell_63 : decode cX11_cell 63 = .ok (.invokevirtual 109, 3) := by decide +kernel
theorem dX11_cell_66 : decode cX11_cell 66 = .ok (.ireturn, 1) := by decide +kernel
theorem dX11_cell_67 : decode cX11_cell 67 = .ok (.aload_n 0, 1) := by decide +kernel
theorem dX11_cell_68 : decode cX11_cell 68 = .ok (.getfield 59, 3) := by decide +kernel
theorem dX11_cell_71 : decode cX11_cell 71 = .ok (.iload_n 1, 1) := by decide +kernel
theorem dX11_cell_72 : decode cX11_cell 72 = .ok (.invokevirtual 113, 3) := by decide +kernel
theorem dX11_cell_75 : decode cX11_cell 75 = .ok (.ireturn, 1) := by decide +kernel
theorem dX11_cell_76 : decode cX11_cell 76 = .ok (.aload_n 0, 1) := by decide +kernel
theorem dX11_cell_77 : decode cX11_cell 77 = .ok (.iload_n 1, 1) := by decide +kernel
theorem dX11_cell_78 : decode cX11_cell 78 = .ok (.invokevirtual 116, 3) := by decide +kernel
theorem dX11_cell_81 : decode cX11_cell 81 = .ok (.ireturn, 1) := by decide +kernel
theorem dX11_cell_82 : decode cX11_cell 82 = .ok (.bipush (-102), 2) := by decide +kernel
theorem dX11_cell_84 : decode cX11_cell 84 = .ok (.ireturn, 1) := by decide +kernel
theorem dX11_wind_0 : decode cX11_wind 0 = .ok (.iload_n 1, 1) := by decide +kernel
theorem dX11_wind_1 : decode cX11_wind 1 = .ok (.ifCond .lt 8, 3) := by decide +kernel
theorem dX11_wind_4 : decode cX11_wind 4 = .ok (.iload_n 1, 1) := by decide +kernel
theorem dX11_wind_5 : decode cX11_wind 5 = .ok (.iconst 4, 1) := by decide +kernel
theorem dX11_wind_6 : decode cX11_wind 6 = .ok (.if_icmp .le 6, 3) := by decide +kernel
theorem dX11_wind_9 : decode cX11_wind 9 = .ok (.bipush (-102), 2) := by decide +kernel
theorem dX11_wind_11 : decode cX11_wind 11 = .ok (.ireturn, 1) := by decide +kernel
theorem dX11_wind_12 : decode cX11_wind 12 = .ok (.aload_n 0, 1) := by decide +kernel
theorem dX11_wind_13 : decode cX11_wind 13 = .ok (.invokevirtual 119, 3) := by decide +kernel
theorem dX11_wind_16 : decode cX11_wind 16 = .ok (.ifCond .ne 6, 3) := by decide +kernel
theorem dX11_wind_19 : decode cX11_wind 19 = .ok (.bipush (-103), 2) := by decide +kernel
theorem dX11_wind_21 : decode cX11_wind 21 = .ok (.ireturn, 1) := by decide +kernel
theorem dX11_wind_22 : decode cX11_wind 22 = .ok (.aload_n 0, 1) := by decide +kernel
theorem dX11_wind_23 : decode cX11_wind 23 = .ok (.getfield 59, 3) := by decide +kernel
theorem dX11_wind_26 : decode cX11_wind 26 = .ok (.getfield 123, 3) := by decide +kernel
theorem dX11_wind_29 : decode cX11_wind 29 = .ok (.istore_n 2, 1) := by decide +kernel
theorem dX11_wind_30 : decode cX11_wind 30 = .ok (.aload_n 0, 1) := by decide +kernel
theorem dX11_wind_31 : decode cX11_wind 31 = .ok (.getfield 59, 3) := by decide +kernel
theorem dX11_wind_34 : decode cX11_wind 34 = .ok (.iload_n 1, 1) := by decide +kernel
theorem dX11_wind_35 : decode cX11_wind 35 = .ok (.putfield 123, 3) := by decide +kernel
theorem dX11_wind_38 : decode cX11_wind 38 = .ok (.iload_n 2, 1) := by decide +kernel
theorem dX11_wind_39 : decode cX11_wind 39 = .ok (.ireturn, 1) := by decide +kernel
theorem dX11_pass_0 : decode cX11_pass 0 = .ok (.iload_n 1, 1) := by decide +kernel
theorem dX11_pass_1 : decode cX11_pass 1 = .ok (.iconst 1, 1) := by decide +kernel
theorem dX11_pass_2 : decode cX11_pass 2 = .ok (.if_icmp .lt 9, 3) := by decide +kernel
theorem dX11_pass_5 : decode cX11_pass 5 = .ok (.iload_n 1, 1) := by decide +kernel
theorem dX11_pass_6 : decode cX11_pass 6 = .ok (.bipush 30, 2) := by decide +kernel
theorem dX11_pass_8 : decode cX11_pass 8 = .ok (.if_icmp .le 6, 3) := by decide +kernel
theorem dX11_pass_11 : decode cX11_pass 11 = .ok (.bipush (-102), 2) := by decide +kernel
theorem dX11_pass_13 : decode cX11_pass 13 = .ok (.ireturn, 1) := by decide +kernel
theorem dX11_pass_14 : decode cX11_pass 14 = .ok (.aload_n 0, 1) := by decide +kernel
theorem dX11_pass_15 : decode cX11_pass 15 = .ok (.invokevirtual 119, 3) := by decide +kernel
theorem dX11_pass_18 : decode cX11_pass 18 = .ok (.ifCond .eq 15, 3) := by decide +kernel
theorem dX11_pass_21 : decode cX11_pass 21 = .ok (.aload_n 0, 1) := by decide +kernel
theorem dX11_pass_22 : decode cX11_pass 22 = .ok (.getfield 106, 3) := by decide +kernel
theorem dX11_pass_25 : decode cX11_pass 25 = .ok (.iload_n 1, 1) := by decide +kernel
theorem dX11_pass_26 : decode cX11_pass 26 = .ok (.iadd, 1) := by decide +kernel
theorem dX11_pass_27 : decode cX11_pass 27 = .ok (.sipush 999, 3) := by decide +kernel
theorem dX11_pass_30 : decode cX11_pass 30 = .ok (.if_icmp .le 6, 3) := by decide +kernel
theorem dX11_pass_33 : decode cX11_pass 33 = .ok (.bipush (-103), 2) := by decide +kernel
theorem dX11_pass_35 : decode cX11_pass 35 = .ok (.ireturn, 1) := by decide +kernel
theorem dX11_pass_36 : decode cX11_pass 36 = .ok (.aload_n 0, 1) := by decide +kernel
theorem dX11_pass_37 : decode cX11_pass 37 = .ok (.dup, 1) := by decide +kernel
theorem dX11_pass_38 : decode cX11_pass 38 = .ok (.getfield 106, 3) := by decide +kernel
theorem dX11_pass_41 : decode cX11_pass 41 = .ok (.iload_n 1, 1) := by decide +kernel
theorem dX11_pass_42 : decode cX11_pass 42 = .ok (.iadd, 1) := by decide +kernel
theorem dX11_pass_43 : decode cX11_pass 43 = .ok (.putfield 106, 3) := by decide +kernel
theorem dX11_pass_46 : decode cX11_pass 46 = .ok (.aload_n 0, 1) := by decide +kernel
theorem dX11_pass_47 : decode cX11_pass 47 = .ok (.getfield 106, 3) := by decide +kernel
theorem dX11_pass_50 : decode cX11_pass 50 = .ok (.ireturn, 1) := by decide +kernel
theorem dX11_hull_0 : decode cX11_hull 0 = .ok (.iload_n 1, 1) := by decide +kernel
theorem dX11_hull_1 : decode cX11_hull 1 = .ok (.ifCond .lt 19, 3) := by decide +kernel
theorem dX11_hull_4 : decode cX11_hull 4 = .ok (.iload_n 1, 1) := by decide +kernel
theorem dX11_hull_5 : decode cX11_hull 5 = .ok (.iconst 5, 1) := by decide +kernel
theorem dX11_hull_6 : decode cX11_hull 6 = .ok (.if_icmp .ge 14, 3) := by decide +kernel
theorem dX11_hull_9 : decode cX11_hull 9 = .ok (.iload_n 2, 1) := by decide +kernel
theorem dX11_hull_10 : decode cX11_hull 10 = .ok (.iconst 1, 1) := by decide +kernel
theorem dX11_hull_11 : decode cX11_hull 11 = .ok (.if_icmp .lt 9, 3) := by decide +kernel
theorem dX11_hull_14 : decode cX11_hull 14 = .ok (.iload_n 2, 1) := by decide +kernel
theorem dX11_hull_15 : decode cX11_hull 15 = .ok (.bipush 9, 2) := by decide +kernel
theorem dX11_hull_17 : decode cX11_hull 17 = .ok (.if_icmp .le 6, 3) := by decide +kernel
theorem dX11_hull_20 : decode cX11_hull 20 = .ok (.bipush (-102), 2) := by decide +kernel
theorem dX11_hull_22 : decode cX11_hull 22 = .ok (.ireturn, 1) := by decide +kernel
theorem dX11_hull_23 : decode cX11_hull 23 = .ok (.aload_n 0, 1) := by decide +kernel
theorem dX11_hull_24 : decode cX11_hull 24 = .ok (.iload_n 3, 1) := by decide +kernel
theorem dX11_hull_25 : decode cX11_hull 25 = .ok (.invokevirtual 102, 3) := by decide +kernel
theorem dX11_hull_28 : decode cX11_hull 28 = .ok (.ifCond .ne 6, 3) := by decide +kernel
theorem dX11_hull_31 : decode cX11_hull 31 = .ok (.bipush (-101), 2) := by decide +kernel
theorem dX11_hull_33 : decode cX11_hull 33 = .ok (.ireturn, 1) := by decide +kernel
theorem dX11_hull_34 : decode cX11_hull 34 = .ok (.aload_n 0, 1) := by decide +kernel
theorem dX11_hull_35 : decode cX11_hull 35 = .ok (.getfield 126, 3) := by decide +kernel
theorem dX11_hull_38 : decode cX11_hull 38 = .ok (.ifCond .lt 15, 3) := by decide +kernel
theorem dX11_hull_41 : decode cX11_hull 41 = .ok (.aload_n 0, 1) := by decide +kernel
theorem dX11_hull_42 : decode cX11_hull 42 = .ok (.getfield 126, 3) := by decide +kernel
theorem dX11_hull_45 : decode cX11_hull 45 = .ok (.aload_n 0, 1) := by decide +kernel
theorem dX11_hull_46 : decode cX11_hull 46 = .ok (.getfield 15, 3) := by decide +kernel
theorem dX11_hull_49 : decode cX11_hull 49 = .ok (.arraylength, 1) := by decide +kernel
theorem dX11_hull_50 : decode cX11_hull 50 = .ok (.if_icmp .lt 6, 3) := by decide +kernel
theorem dX11_hull_53 : decode cX11_hull 53 = .ok (.bipush (-104), 2) := by decide +kernel
theorem dX11_hull_55 : decode cX11_hull 55 = .ok (.ireturn, 1) := by decide +kernel
theorem dX11_hull_56 : decode cX11_hull 56 = .ok (.aload_n 0, 1) := by decide +kernel
theorem dX11_hull_57 : decode cX11_hull 57 = .ok (.getfield 15, 3) := by decide +kernel
theorem dX11_hull_60 : decode cX11_hull 60 = .ok (.aload_n 0, 1) := by decide +kernel
theorem dX11_hull_61 : decode cX11_hull 61 = .ok (.getfield 126, 3) := by decide +kernel
theorem dX11_hull_64 : decode cX11_hull 64 = .ok (.iload_n 1, 1) := by decide +kernel
theorem dX11_hull_65 : decode cX11_hull 65 = .ok (.iload_n 2, 1) := by decide +kernel
theorem dX11_hull_66 : decode cX11_hull 66 = .ok (.iload_n 3, 1) := by decide +kernel
theorem dX11_hull_67 : decode cX11_hull 67 = .ok (.invokestatic 129, 3) := by decide +kernel
theorem dX11_hull_70 : decode cX11_hull 70 = .ok (.aastore, 1) := by decide +kernel
theorem dX11_hull_71 : decode cX11_hull 71 = .ok (.aload_n 0, 1) := by decide +kernel
theorem dX11_hull_72 : decode cX11_hull 72 = .ok (.dup, 1) := by decide +kernel
theorem dX11_hull_73 : decode cX11_hull 73 = .ok (.getfield 126, 3) := by decide +kernel
theorem dX11_hull_76 : decode cX11_hull 76 = .ok (.iconst 1, 1) := by decide +kernel
theorem dX11_hull_77 : decode cX11_hull 77 = .ok (.iadd, 1) := by decide +kernel
theorem dX11_hull_78 : decode cX11_hull 78 = .ok (.putfield 126, 3) := by decide +kernel
theorem dX11_hull_81 : decode cX11_hull 81 = .ok (.aload_n 0, 1) := by decide +kernel
theorem dX11_hull_82 : decode cX11_hull 82 = .ok (.getfield 126, 3) := by decide +kernel
theorem dX11_hull_85 : decode cX11_hull 85 = .ok (.iconst 1, 1) := by decide +kernel
theorem dX11_hull_86 : decode cX11_hull 86 = .ok (.isub, 1) := by decide +kernel
theorem dX11_hull_87 : decode cX11_hull 87 = .ok (.ireturn, 1) := by decide +kernel
theorem dX11_about_0 : decode cX11_about 0 = .ok (.aload_n 0, 1) := by decide +kernel
theorem dX11_about_1 : decode cX11_about 1 = .ok (.iload_n 1, 1) := by decide +kernel
theorem dX11_about_2 : decode cX11_about 2 = .ok (.invokevirtual 133, 3) := by decide +kernel
theorem dX11_about_5 : decode cX11_about 5 = .ok (.astore_n 3, 1) := by decide +kernel
theorem dX11_about_6 : decode cX11_about 6 = .ok (.aload_n 3, 1) := by decide +kernel
theorem dX11_about_7 : decode cX11_about 7 = .ok (.ifnonnull 6, 3) := by decide +kernel
theorem dX11_about_10 : decode cX11_about 10 = .ok (.bipush (-101), 2) := by decide +kernel
theorem dX11_about_12 : decode cX11_about 12 = .ok (.ireturn, 1) := by decide +kernel
theorem dX11_about_13 : decode cX11_about 13 = .ok (.iload_n 2, 1) := by decide +kernel
theorem dX11_about_14 : decode cX11_about 14 = .ok (.tableswitch 136 0 13 #[70, 75, 80, 85, 110, 136, 136, 136, 136, 136, 115, 115, 115, 115], 70) := by decide +kernel
theorem dX11_about_84 : decode cX11_about 84 = .ok (.aload_n 3, 1) := by decide +kernel
theorem dX11_about_85 : decode cX11_about 85 = .ok (.invokevirtual 137, 3) := by decide +kernel
theorem dX11_about_88 : decode cX11_about 88 = .ok (.ireturn, 1) := by decide +kernel
theorem dX11_about_89 : decode cX11_about 89 = .ok (.aload_n 3, 1) := by decide +kernel
theorem dX11_about_90 : decode cX11_about 90 = .ok (.getfield 140, 3) := by decide +kernel
theorem dX11_about_93 : decode cX11_about 93 = .ok (.ireturn, 1) := by decide +kernel
theorem dX11_about_94 : decode cX11_about 94 = .ok (.aload_n 3, 1) := by decide +kernel
theorem dX11_about_95 : decode cX11_about 95 = .ok (.getfield 143, 3) := by decide +kernel
theorem dX11_about_98 : decode cX11_about 98 = .ok (.ireturn, 1) := by decide +kernel
theorem dX11_about_99 : decode cX11_about 99 = .ok (.aload_n 0, 1) := by decide +kernel
theorem dX11_about_100 : decode cX11_about 100 = .ok (.getfield 59, 3) := by decide +kernel
theorem dX11_about_103 : decode cX11_about 103 = .ok (.aload_n 3, 1) := by decide +kernel
theorem dX11_about_104 : decode cX11_about 104 = .ok (.aload_n 3, 1) := by decide +kernel
theorem dX11_about_105 : decode cX11_about 105 = .ok (.getfield 143, 3) := by decide +kernel
theorem dX11_about_108 : decode cX11_about 108 = .ok (.aload_n 0, 1) := by decide +kernel
theorem dX11_about_109 : decode cX11_about 109 = .ok (.getfield 106, 3) := by decide +kernel
theorem dX11_about_112 : decode cX11_about 112 = .ok (.invokevirtual 146, 3) := by decide +kernel
theorem dX11_about_115 : decode cX11_about 115 = .ok (.ifCond .eq 7, 3) := by decide +kernel
theorem dX11_about_118 : decode cX11_about 118 = .ok (.iconst 0, 1) := by decide +kernel
theorem dX11_about_119 : decode cX11_about 119 = .ok (.goto 4, 3) := by decide +kernel
theorem dX11_about_122 : decode cX11_about 122 = .ok (.iconst 1, 1) := by decide +kernel
theorem dX11_about_123 : decode cX11_about 123 = .ok (.ireturn, 1) := by decide +kernel
theorem dX11_about_124 : decode cX11_about 124 = .ok (.aload_n 3, 1) := by decide +kernel
theorem dX11_about_125 : decode cX11_about 125 = .ok (.getfield 150, 3) := by decide +kernel
theorem dX11_about_128 : decode cX11_about 128 = .ok (.ireturn, 1) := by decide +kernel
theorem dX11_about_129 : decode cX11_about 129 = .ok (.aload_n 0, 1) := by decide +kernel
theorem dX11_about_130 : decode cX11_about 130 = .ok (.getfield 59, 3) := by decide +kernel
theorem dX11_about_133 : decode cX11_about 133 = .ok (.aload_n 3, 1) := by decide +kernel
theorem dX11_about_134 : decode cX11_about 134 = .ok (.aload_n 3, 1) := by decide +kernel
theorem dX11_about_135 : decode cX11_about 135 = .ok (.getfield 143, 3) := by decide +kernel
theorem dX11_about_138 : decode cX11_about 138 = .ok (.iload_n 2, 1) := by decide +kernel
theorem dX11_about_139 : decode cX11_about 139 = .ok (.bipush 10, 2) := by decide +kernel
theorem dX11_about_141 : decode cX11_about 141 = .ok (.isub, 1) := by decide +kernel
theorem dX11_about_142 : decode cX11_about 142 = .ok (.aload_n 0, 1) := by decide +kernel
theorem dX11_about_143 : decode cX11_about 143 = .ok (.getfield 106, 3) := by decide +kernel
theorem dX11_about_146 : decode cX11_about 146 = .ok (.invokevirtual 153, 3) := by decide +kernel
theorem dX11_about_149 : decode cX11_about 149 = .ok (.ireturn, 1) := by decide +kernel
theorem dX11_about_150 : decode cX11_about 150 = .ok (.bipush (-102), 2) := by decide +kernel
theorem dX11_about_152 : decode cX11_about 152 = .ok (.ireturn, 1) := by decide +kernel
theorem dX11_as_0 : decode cX11_as 0 = .ok (.aload_n 0, 1) := by decide +kernel
theorem dX11_as_1 : decode cX11_as 1 = .ok (.iload_n 1, 1) := by decide +kernel
theorem dX11_as_2 : decode cX11_as 2 = .ok (.invokevirtual 133, 3) := by decide +kernel
theorem dX11_as_5 : decode cX11_as 5 = .ok (.astore_n 3, 1) := by decide +kernel
theorem dX11_as_6 : decode cX11_as 6 = .ok (.aload_n 3, 1) := by decide +kernel
theorem dX11_as_7 : decode cX11_as 7 = .ok (.ifnonnull 6, 3) := by decide +kernel
theorem dX11_as_10 : decode cX11_as 10 = .ok (.bipush (-101), 2) := by decide +kernel
theorem dX11_as_12 : decode cX11_as 12 = .ok (.ireturn, 1) := by decide +kernel
theorem dX11_as_13 : decode cX11_as 13 = .ok (.iload_n 2, 1) := by decide +kernel
theorem dX11_as_14 : decode cX11_as 14 = .ok (.ifCond .lt 8, 3) := by decide +kernel
theorem dX11_as_17 : decode cX11_as 17 = .ok (.iload_n 2, 1) := by decide +kernel
theorem dX11_as_18 : decode cX11_as 18 = .ok (.iconst 5, 1) := by decide +kernel
theorem dX11_as_19 : decode cX11_as 19 = .ok (.if_icmp .lt 6, 3) := by decide +kernel
theorem dX11_as_22 : decode cX11_as 22 = .ok (.bipush (-102), 2) := by decide +kernel
theorem dX11_as_24 : decode cX11_as 24 = .ok (.ireturn, 1) := by decide +kernel
theorem dX11_as_25 : decode cX11_as 25 = .ok (.aload_n 3, 1) := by decide +kernel
theorem dX11_as_26 : decode cX11_as 26 = .ok (.iload_n 2, 1) := by decide +kernel
theorem dX11_as_27 : decode cX11_as 27 = .ok (.invokestatic 157, 3) := by decide +kernel
theorem dX11_as_30 : decode cX11_as 30 = .ok (.ifCond .eq 7, 3) := by decide +kernel
theorem dX11_as_33 : decode cX11_as 33 = .ok (.iload_n 1, 1) := by decide +kernel
theorem dX11_as_34 : decode cX11_as 34 = .ok (.goto 4, 3) := by decide +kernel
theorem dX11_as_37 : decode cX11_as 37 = .ok (.iconst (-1), 1) := by decide +kernel
theorem dX11_as_38 : decode cX11_as 38 = .ok (.ireturn, 1) := by decide +kernel
theorem dX11_sail_0 : decode cX11_sail 0 = .ok (.aload_n 0, 1) := by decide +kernel
theorem dX11_sail_1 : decode cX11_sail 1 = .ok (.iload_n 1, 1) := by decide +kernel
theorem dX11_sail_2 : decode cX11_sail 2 = .ok (.invokevirtual 133, 3) := by decide +kernel
theorem dX11_sail_5 : decode cX11_sail 5 = .ok (.astore_n 3, 1) := by decide +kernel
theorem dX11_sail_6 : decode cX11_sail 6 = .ok (.aload_n 3, 1) := by decide +kernel
theorem dX11_sail_7 : decode cX11_sail 7 = .ok (.ifnonnull 6, 3) := by decide +kernel
theorem dX11_sail_10 : decode cX11_sail 10 = .ok (.bipush (-101), 2) := by decide +kernel
theorem dX11_sail_12 : decode cX11_sail 12 = .ok (.ireturn, 1) := by decide +kernel
theorem dX11_sail_13 : decode cX11_sail 13 = .ok (.iload_n 2, 1) := by decide +kernel
theorem dX11_sail_14 : decode cX11_sail 14 = .ok (.ifCond .lt 8, 3) := by decide +kernel
theorem dX11_sail_17 : decode cX11_sail 17 = .ok (.iload_n 2, 1) := by decide +kernel
theorem dX11_sail_18 : decode cX11_sail 18 = .ok (.iconst 4, 1) := by decide +kernel
theorem dX11_sail_19 : decode cX11_sail 19 = .ok (.if_icmp .lt 6, 3) := by decide +kernel
theorem dX11_sail_22 : decode cX11_sail 22 = .ok (.bipush (-102), 2) := by decide +kernel
theorem dX11_sail_24 : decode cX11_sail 24 = .ok (.ireturn, 1) := by decide +kernel
theorem dX11_sail_25 : decode cX11_sail 25 = .ok (.aload_n 0, 1) := by decide +kernel
theorem dX11_sail_26 : decode cX11_sail 26 = .ok (.getfield 59, 3) := by decide +kernel
theorem dX11_sail_29 : decode cX11_sail 29 = .ok (.aload_n 3, 1) := by decide +kernel
theorem dX11_sail_30 : decode cX11_sail 30 = .ok (.aload_n 3, 1) := by decide +kernel
theorem dX11_sail_31 : decode cX11_sail 31 = .ok (.getfield 143, 3) := by decide +kernel
theorem dX11_sail_34 : decode cX11_sail 34 = .ok (.iload_n 2, 1) := by decide +kernel
theorem dX11_sail_35 : decode cX11_sail 35 = .ok (.aload_n 0, 1) := by decide +kernel
theorem dX11_sail_36 : decode cX11_sail 36 = .ok (.getfield 106, 3) := by decide +kernel
theorem dX11_sail_39 : decode cX11_sail 39 = .ok (.invokevirtual 153, 3) := by decide +kernel
theorem dX11_sail_42 : decode cX11_sail 42 = .ok (.istore 4, 2) := by decide +kernel
theorem dX11_sail_44 : decode cX11_sail 44 = .ok (.iload 4, 2) := by decide +kernel
theorem dX11_sail_46 : decode cX11_sail 46 = .ok (.iconst (-1), 1) := by decide +kernel
theorem dX11_sail_47 : decode cX11_sail 47 = .ok (.if_icmp .eq 16, 3) := by decide +kernel
theorem dX11_sail_50 : decode cX11_sail 50 = .ok (.aload_n 0, 1) := by decide +kernel
theorem dX11_sail_51 : decode cX11_sail 51 = .ok (.getfield 106, 3) := by decide +kernel
theorem dX11_sail_54 : decode cX11_sail 54 = .ok (.iload 4, 2) := by decide +kernel
theorem dX11_sail_56 : decode cX11_sail 56 = .ok (.iadd, 1) := by decide +kernel
theorem dX11_sail_57 : decode cX11_sail 57 = .ok (.sipush 999, 3) := by decide +kernel
theorem dX11_sail_60 : decode cX11_sail 60 = .ok (.if_icmp .le 6, 3) := by decide +kernel
theorem dX11_sail_63 : decode cX11_sail 63 = .ok (.bipush (-103), 2) := by decide +kernel
theorem dX11_sail_65 : decode cX11_sail 65 = .ok (.ireturn, 1) := by decide +kernel
theorem dX11_sail_66 : decode cX11_sail 66 = .ok (.aload_n 3, 1) := by decide +kernel
theorem dX11_sail_67 : decode cX11_sail 67 = .ok (.aload_n 3, 1) := by decide +kernel
theorem dX11_sail_68 : decode cX11_sail 68 = .ok (.getfield 143, 3) := by decide +kernel
theorem dX11_sail_71 : decode cX11_sail 71 = .ok (.iload_n 2, 1) := by decide +kernel
theorem dX11_sail_72 : decode cX11_sail 72 = .ok (.invokestatic 161, 3) := by decide +kernel
theorem dX11_sail_75 : decode cX11_sail 75 = .ok (.putfield 143, 3) := by decide +kernel
theorem dX11_sail_78 : decode cX11_sail 78 = .ok (.aload_n 3, 1) := by decide +kernel
theorem dX11_sail_79 : decode cX11_sail 79 = .ok (.dup, 1) := by decide +kernel
theorem dX11_sail_80 : decode cX11_sail 80 = .ok (.getfield 150, 3) := by decide +kernel
theorem dX11_sail_83 : decode cX11_sail 83 = .ok (.iload 4, 2) := by decide +kernel
theorem dX11_sail_85 : decode cX11_sail 85 = .ok (.iadd, 1) := by decide +kernel
theorem dX11_sail_86 : decode cX11_sail 86 = .ok (.putfield 150, 3) := by decide +kernel
theorem dX11_sail_89 : decode cX11_sail 89 = .ok (.aload_n 0, 1) := by decide +kernel
theorem dX11_sail_90 : decode cX11_sail 90 = .ok (.dup, 1) := by decide +kernel
theorem dX11_sail_91 : decode cX11_sail 91 = .ok (.getfield 106, 3) := by decide +kernel
theorem dX11_sail_94 : decode cX11_sail 94 = .ok (.iload 4, 2) := by decide +kernel
theorem dX11_sail_96 : decode cX11_sail 96 = .ok (.iadd, 1) := by decide +kernel
theorem dX11_sail_97 : decode cX11_sail 97 = .ok (.putfield 106, 3) := by decide +kernel
theorem dX11_sail_100 : decode cX11_sail 100 = .ok (.aload_n 0, 1) := by decide +kernel
theorem dX11_sail_101 : decode cX11_sail 101 = .ok (.getfield 106, 3) := by decide +kernel
theorem dX11_sail_104 : decode cX11_sail 104 = .ok (.ireturn, 1) := by decide +kernel
theorem dX11_voyage_0 : decode cX11_voyage 0 = .ok (.aload_n 0, 1) := by decide +kernel
theorem dX11_voyage_1 : decode cX11_voyage 1 = .ok (.iload_n 1, 1) := by decide +kernel
theorem dX11_voyage_2 : decode cX11_voyage 2 = .ok (.invokevirtual 133, 3) := by decide +kernel
theorem dX11_voyage_5 : decode cX11_voyage 5 = .ok (.astore 4, 2) := by decide +kernel
theorem dX11_voyage_7 : decode cX11_voyage 7 = .ok (.aload 4, 2) := by decide +kernel
theorem dX11_voyage_9 : decode cX11_voyage 9 = .ok (.ifnull 11, 3) := by decide +kernel
theorem dX11_voyage_12 : decode cX11_voyage 12 = .ok (.aload_n 0, 1) := by decide +kernel
theorem dX11_voyage_13 : decode cX11_voyage 13 = .ok (.iload_n 2, 1) := by decide +kernel
theorem dX11_voyage_14 : decode cX11_voyage 14 = .ok (.invokevirtual 102, 3) := by decide +kernel
theorem dX11_voyage_17 : decode cX11_voyage 17 = .ok (.ifCond .ne 6, 3) := by decide +kernel
theorem dX11_voyage_20 : decode cX11_voyage 20 = .ok (.bipush (-101), 2) := by decide +kernel
theorem dX11_voyage_22 : decode cX11_voyage 22 = .ok (.ireturn, 1) := by decide +kernel
theorem dX11_voyage_23 : decode cX11_voyage 23 = .ok (.iload_n 3, 1) := by decide +kernel
theorem dX11_voyage_24 : decode cX11_voyage 24 = .ok (.ifCond .lt 8, 3) := by decide +kernel
theorem dX11_voyage_27 : decode cX11_voyage 27 = .ok (.iload_n 3, 1) := by decide +kernel
theorem dX11_voyage_28 : decode cX11_voyage 28 = .ok (.iconst 1, 1) := by decide +kernel
theorem dX11_voyage_29 : decode cX11_voyage 29 = .ok (.if_icmp .le 6, 3) := by decide +kernel
theorem dX11_voyage_32 : decode cX11_voyage 32 = .ok (.bipush (-102), 2) := by decide +kernel
theorem dX11_voyage_34 : decode cX11_voyage 34 = .ok (.ireturn, 1) := by decide +kernel
theorem dX11_voyage_35 : decode cX11_voyage 35 = .ok (.aload_n 0, 1) := by decide +kernel
theorem dX11_voyage_36 : decode cX11_voyage 36 = .ok (.getfield 36, 3) := by decide +kernel
theorem dX11_voyage_39 : decode cX11_voyage 39 = .ok (.aload_n 0, 1) := by decide +kernel
theorem dX11_voyage_40 : decode cX11_voyage 40 = .ok (.getfield 59, 3) := by decide +kernel
theorem dX11_voyage_43 : decode cX11_voyage 43 = .ok (.aload 4, 2) := by decide +kernel
theorem dX11_voyage_45 : decode cX11_voyage 45 = .ok (.aload 4, 2) := by decide +kernel
theorem dX11_voyage_47 : decode cX11_voyage 47 = .ok (.getfield 143, 3) := by decide +kernel
theorem dX11_voyage_50 : decode cX11_voyage 50 = .ok (.aload_n 0, 1) := by decide +kernel
theorem dX11_voyage_51 : decode cX11_voyage 51 = .ok (.getfield 106, 3) := by decide +kernel
theorem dX11_voyage_54 : decode cX11_voyage 54 = .ok (.invokevirtual 164, 3) := by decide +kernel
theorem dX11_voyage_57 : decode cX11_voyage 57 = .ok (.iload_n 3, 1) := by decide +kernel
theorem dX11_voyage_58 : decode cX11_voyage 58 = .ok (.ifCond .ne 14, 3) := by decide +kernel
theorem dX11_voyage_61 : decode cX11_voyage 61 = .ok (.aload_n 0, 1) := by decide +kernel
theorem dX11_voyage_62 : decode cX11_voyage 62 = .ok (.getfield 36, 3) := by decide +kernel
theorem dX11_voyage_65 : decode cX11_voyage 65 = .ok (.iload_n 2, 1) := by decide +kernel
theorem dX11_voyage_66 : decode cX11_voyage 66 = .ok (.invokevirtual 168, 3) := by decide +kernel
theorem dX11_voyage_69 : decode cX11_voyage 69 = .ok (.goto 11, 3) := by decide +kernel
theorem dX11_voyage_72 : decode cX11_voyage 72 = .ok (.aload_n 0, 1) := by decide +kernel
theorem dX11_voyage_73 : decode cX11_voyage 73 = .ok (.getfield 36, 3) := by decide +kernel
theorem dX11_voyage_76 : decode cX11_voyage 76 = .ok (.iload_n 2, 1) := by decide +kernel
theorem dX11_voyage_77 : decode cX11_voyage 77 = .ok (.invokevirtual 171, 3) := by decide +kernel
theorem dX11_voyage_80 : decode cX11_voyage 80 = .ok (.ireturn, 1) := by decide +kernel
theorem dX11_latest_0 : decode cX11_latest 0 = .ok (.aload_n 0, 1) := by decide +kernel
theorem dX11_latest_1 : decode cX11_latest 1 = .ok (.iload_n 1, 1) := by decide +kernel
theorem dX11_latest_2 : decode cX11_latest 2 = .ok (.invokevirtual 133, 3) := by decide +kernel
theorem dX11_latest_5 : decode cX11_latest 5 = .ok (.astore_n 3, 1) := by decide +kernel
theorem dX11_latest_6 : decode cX11_latest 6 = .ok (.aload_n 3, 1) := by decide +kernel
theorem dX11_latest_7 : decode cX11_latest 7 = .ok (.ifnull 11, 3) := by decide +kernel
theorem dX11_latest_10 : decode cX11_latest 10 = .ok (.aload_n 0, 1) := by decide +kernel
theorem dX11_latest_11 : decode cX11_latest 11 = .ok (.iload_n 2, 1) := by decide +kernel
theorem dX11_latest_12 : decode cX11_latest 12 = .ok (.invokevirtual 102, 3) := by decide +kernel
theorem dX11_latest_15 : decode cX11_latest 15 = .ok (.ifCond .ne 6, 3) := by decide +kernel
theorem dX11_latest_18 : decode cX11_latest 18 = .ok (.bipush (-101), 2) := by decide +kernel
theorem dX11_latest_20 : decode cX11_latest 20 = .ok (.ireturn, 1) := by decide +kernel
theorem dX11_latest_21 : decode cX11_latest 21 = .ok (.aload_n 0, 1) := by decide +kernel
theorem dX11_latest_22 : decode cX11_latest 22 = .ok (.getfield 63, 3) := by decide +kernel
theorem dX11_latest_25 : decode cX11_latest 25 = .ok (.aload_n 0, 1) := by decide +kernel
theorem dX11_latest_26 : decode cX11_latest 26 = .ok (.getfield 59, 3) := by decide +kernel
theorem dX11_latest_29 : decode cX11_latest 29 = .ok (.getfield 123, 3) := by decide +kernel
theorem dX11_latest_32 : decode cX11_latest 32 = .ok (.putfield 123, 3) := by decide +kernel
theorem dX11_latest_35 : decode cX11_latest 35 = .ok (.iconst 1, 1) := by decide +kernel
theorem dX11_latest_36 : decode cX11_latest 36 = .ok (.istore 4, 2) := by decide +kernel
theorem dX11_latest_38 : decode cX11_latest 38 = .ok (.iload 4, 2) := by decide +kernel
theorem dX11_latest_40 : decode cX11_latest 40 = .ok (.bipush 9, 2) := by decide +kernel
theorem dX11_latest_42 : decode cX11_latest 42 = .ok (.if_icmp .gt 53, 3) := by decide +kernel
theorem dX11_latest_45 : decode cX11_latest 45 = .ok (.aload_n 0, 1) := by decide +kernel
theorem dX11_latest_46 : decode cX11_latest 46 = .ok (.getfield 63, 3) := by decide +kernel
theorem dX11_latest_49 : decode cX11_latest 49 = .ok (.iload 4, 2) := by decide +kernel
theorem dX11_latest_51 : decode cX11_latest 51 = .ok (.putfield 96, 3) := by decide +kernel
theorem dX11_latest_54 : decode cX11_latest 54 = .ok (.aload_n 0, 1) := by decide +kernel
theorem dX11_latest_55 : decode cX11_latest 55 = .ok (.getfield 36, 3) := by decide +kernel
theorem dX11_latest_58 : decode cX11_latest 58 = .ok (.aload_n 0, 1) := by decide +kernel
theorem dX11_latest_59 : decode cX11_latest 59 = .ok (.getfield 63, 3) := by decide +kernel
theorem dX11_latest_62 : decode cX11_latest 62 = .ok (.aload_n 3, 1) := by decide +kernel
theorem dX11_latest_63 : decode cX11_latest 63 = .ok (.aload_n 3, 1) := by decide +kernel
theorem dX11_latest_64 : decode cX11_latest 64 = .ok (.getfield 143, 3) := by decide +kernel
theorem dX11_latest_67 : decode cX11_latest 67 = .ok (.aload_n 0, 1) := by decide +kernel
theorem dX11_latest_68 : decode cX11_latest 68 = .ok (.getfield 106, 3) := by decide +kernel
theorem dX11_latest_71 : decode cX11_latest 71 = .ok (.invokevirtual 164, 3) := by decide +kernel
theorem dX11_latest_74 : decode cX11_latest 74 = .ok (.aload_n 0, 1) := by decide +kernel
theorem dX11_latest_75 : decode cX11_latest 75 = .ok (.getfield 36, 3) := by decide +kernel
theorem dX11_latest_78 : decode cX11_latest 78 = .ok (.iload_n 2, 1) := by decide +kernel
theorem dX11_latest_79 : decode cX11_latest 79 = .ok (.invokevirtual 168, 3) := by decide +kernel
theorem dX11_latest_82 : decode cX11_latest 82 = .ok (.iconst (-1), 1) := by decide +kernel
theorem dX11_latest_83 : decode cX11_latest 83 = .ok (.if_icmp .eq 6, 3) := by decide +kernel
theorem dX11_latest_86 : decode cX11_latest 86 = .ok (.iload 4, 2) := by decide +kernel
theorem dX11_latest_88 : decode cX11_latest 88 = .ok (.ireturn, 1) := by decide +kernel
theorem dX11_latest_89 : decode cX11_latest 89 = .ok (.iinc 4 1, 3) := by decide +kernel
theorem dX11_latest_92 : decode cX11_latest 92 = .ok (.goto (-54), 3) := by decide +kernel
theorem dX11_latest_95 : decode cX11_latest 95 = .ok (.iconst (-1), 1) := by decide +kernel
theorem dX11_latest_96 : decode cX11_latest 96 = .ok (.ireturn, 1) := by decide +kernel
theorem dX11_home_0 : decode cX11_home 0 = .ok (.aload_n 0, 1) := by decide +kernel
theorem dX11_home_1 : decode cX11_home 1 = .ok (.iload_n 1, 1) := by decide +kernel
theorem dX11_home_2 : decode cX11_home 2 = .ok (.invokevirtual 102, 3) := by decide +kernel
theorem dX11_home_5 : decode cX11_home 5 = .ok (.ifCond .ne 6, 3) := by decide +kernel
theorem dX11_home_8 : decode cX11_home 8 = .ok (.bipush (-101), 2) := by decide +kernel
theorem dX11_home_10 : decode cX11_home 10 = .ok (.ireturn, 1) := by decide +kernel
theorem dX11_home_11 : decode cX11_home 11 = .ok (.iload_n 2, 1) := by decide +kernel
theorem dX11_home_12 : decode cX11_home 12 = .ok (.bipush 10, 2) := by decide +kernel
theorem dX11_home_14 : decode cX11_home 14 = .ok (.if_icmp .lt 13, 3) := by decide +kernel
theorem dX11_home_17 : decode cX11_home 17 = .ok (.iload_n 2, 1) := by decide +kernel
theorem dX11_home_18 : decode cX11_home 18 = .ok (.bipush 13, 2) := by decide +kernel
theorem dX11_home_20 : decode cX11_home 20 = .ok (.if_icmp .ge 7, 3) := by decide +kernel
theorem dX11_home_23 : decode cX11_home 23 = .ok (.iconst 1, 1) := by decide +kernel
theorem dX11_home_24 : decode cX11_home 24 = .ok (.goto 4, 3) := by decide +kernel
theorem dX11_home_27 : decode cX11_home 27 = .ok (.iconst 0, 1) := by decide +kernel
theorem dX11_home_28 : decode cX11_home 28 = .ok (.istore_n 3, 1) := by decide +kernel
theorem dX11_home_29 : decode cX11_home 29 = .ok (.iload_n 2, 1) := by decide +kernel
theorem dX11_home_30 : decode cX11_home 30 = .ok (.ifCond .eq 15, 3) := by decide +kernel
theorem dX11_home_33 : decode cX11_home 33 = .ok (.iload_n 2, 1) := by decide +kernel
theorem dX11_home_34 : decode cX11_home 34 = .ok (.iconst 1, 1) := by decide +kernel
theorem dX11_home_35 : decode cX11_home 35 = .ok (.if_icmp .eq 10, 3) := by decide +kernel
theorem dX11_home_38 : decode cX11_home 38 = .ok (.iload_n 3, 1) := by decide +kernel
theorem dX11_home_39 : decode cX11_home 39 = .ok (.ifCond .ne 6, 3) := by decide +kernel
theorem dX11_home_42 : decode cX11_home 42 = .ok (.bipush (-102), 2) := by decide +kernel
theorem dX11_home_44 : decode cX11_home 44 = .ok (.ireturn, 1) := by decide +kernel
theorem dX11_home_45 : decode cX11_home 45 = .ok (.aload_n 0, 1) := by decide +kernel
theorem dX11_home_46 : decode cX11_home 46 = .ok (.getfield 43, 3) := by decide +kernel
theorem dX11_home_49 : decode cX11_home 49 = .ok (.aload_n 0, 1) := by decide +kernel
theorem dX11_home_50 : decode cX11_home 50 = .ok (.getfield 59, 3) := by decide +kernel
theorem dX11_home_53 : decode cX11_home 53 = .ok (.aload_n 0, 1) := by decide +kernel
theorem dX11_home_54 : decode cX11_home 54 = .ok (.getfield 36, 3) := by decide +kernel
theorem dX11_home_57 : decode cX11_home 57 = .ok (.aload_n 0, 1) := by decide +kernel
theorem dX11_home_58 : decode cX11_home 58 = .ok (.getfield 15, 3) := by decide +kernel
theorem dX11_home_61 : decode cX11_home 61 = .ok (.iload_n 1, 1) := by decide +kernel
theorem dX11_home_62 : decode cX11_home 62 = .ok (.aload_n 0, 1) := by decide +kernel
theorem dX11_home_63 : decode cX11_home 63 = .ok (.getfield 106, 3) := by decide +kernel
theorem dX11_home_66 : decode cX11_home 66 = .ok (.invokevirtual 174, 3) := by decide +kernel
theorem dX11_home_69 : decode cX11_home 69 = .ok (.iload_n 3, 1) := by decide +kernel
theorem dX11_home_70 : decode cX11_home 70 = .ok (.ifCond .eq 30, 3) := by decide +kernel
theorem dX11_home_73 : decode cX11_home 73 = .ok (.iload_n 2, 1) := by decide +kernel
theorem dX11_home_74 : decode cX11_home 74 = .ok (.bipush 10, 2) := by decide +kernel
theorem dX11_home_76 : decode cX11_home 76 = .ok (.isub, 1) := by decide +kernel
theorem dX11_home_77 : decode cX11_home 77 = .ok (.aload_n 0, 1) := by decide +kernel
theorem dX11_home_78 : decode cX11_home 78 = .ok (.getfield 126, 3) := by decide +kernel
theorem dX11_home_81 : decode cX11_home 81 = .ok (.if_icmp .ge 17, 3) := by decide +kernel
theorem dX11_home_84 : decode cX11_home 84 = .ok (.aload_n 0, 1) := by decide +kernel
theorem dX11_home_85 : decode cX11_home 85 = .ok (.getfield 43, 3) := by decide +kernel
theorem dX11_home_88 : decode cX11_home 88 = .ok (.iload_n 2, 1) := by decide +kernel
theorem dX11_home_89 : decode cX11_home 89 = .ok (.bipush 10, 2) := by decide +kernel
theorem dX11_home_91 : decode cX11_home 91 = .ok (.isub, 1) := by decide +kernel
theorem dX11_home_92 : decode cX11_home 92 = .ok (.invokevirtual 178, 3) := by decide +kernel
theorem dX11_home_95 : decode cX11_home 95 = .ok (.goto 4, 3) := by decide +kernel
theorem dX11_home_98 : decode cX11_home 98 = .ok (.iconst (-1), 1) := by decide +kernel
theorem dX11_home_99 : decode cX11_home 99 = .ok (.ireturn, 1) := by decide +kernel
theorem dX11_home_100 : decode cX11_home 100 = .ok (.iload_n 2, 1) := by decide +kernel
theorem dX11_home_101 : decode cX11_home 101 = .ok (.ifCond .ne 13, 3) := by decide +kernel
theorem dX11_home_104 : decode cX11_home 104 = .ok (.aload_n 0, 1) := by decide +kernel
theorem dX11_home_105 : decode cX11_home 105 = .ok (.getfield 43, 3) := by decide +kernel
theorem dX11_home_108 : decode cX11_home 108 = .ok (.getfield 181, 3) := by decide +kernel
theorem dX11_home_111 : decode cX11_home 111 = .ok (.goto 10, 3) := by decide +kernel
theorem dX11_home_114 : decode cX11_home 114 = .ok (.aload_n 0, 1) := by decide +kernel
theorem dX11_home_115 : decode cX11_home 115 = .ok (.getfield 43, 3) := by decide +kernel
theorem dX11_home_118 : decode cX11_home 118 = .ok (.getfield 184, 3) := by decide +kernel
theorem dX11_home_121 : decode cX11_home 121 = .ok (.ireturn, 1) := by decide +kernel
theorem dX11_bestWind_0 : decode cX11_bestWind 0 = .ok (.aload_n 0, 1) := by decide +kernel
theorem dX11_bestWind_1 : decode cX11_bestWind 1 = .ok (.iload_n 1, 1) := by decide +kernel
theorem dX11_bestWind_2 : decode cX11_bestWind 2 = .ok (.invokevirtual 133, 3) := by decide +kernel
theorem dX11_bestWind_5 : decode cX11_bestWind 5 = .ok (.astore_n 3, 1) := by decide +kernel
theorem dX11_bestWind_6 : decode cX11_bestWind 6 = .ok (.aload_n 3, 1) := by decide +kernel
theorem dX11_bestWind_7 : decode cX11_bestWind 7 = .ok (.ifnull 11, 3) := by decide +kernel
theorem dX11_bestWind_10 : decode cX11_bestWind 10 = .ok (.aload_n 0, 1) := by decide +kernel
theorem dX11_bestWind_11 : decode cX11_bestWind 11 = .ok (.iload_n 2, 1) := by decide +kernel
theorem dX11_bestWind_12 : decode cX11_bestWind 12 = .ok (.invokevirtual 102, 3) := by decide +kernel
theorem dX11_bestWind_15 : decode cX11_bestWind 15 = .ok (.ifCond .ne 6, 3) := by decide +kernel
theorem dX11_bestWind_18 : decode cX11_bestWind 18 = .ok (.bipush (-101), 2) := by decide +kernel
theorem dX11_bestWind_20 : decode cX11_bestWind 20 = .ok (.ireturn, 1) := by decide +kernel
theorem dX11_bestWind_21 : decode cX11_bestWind 21 = .ok (.aload_n 0, 1) := by decide +kernel
theorem dX11_bestWind_22 : decode cX11_bestWind 22 = .ok (.getfield 63, 3) := by decide +kernel
theorem dX11_bestWind_25 : decode cX11_bestWind 25 = .ok (.aload_n 0, 1) := by decide +kernel
theorem dX11_bestWind_26 : decode cX11_bestWind 26 = .ok (.getfield 59, 3) := by decide +kernel
theorem dX11_bestWind_29 : decode cX11_bestWind 29 = .ok (.getfield 96, 3) := by decide +kernel
theorem dX11_bestWind_32 : decode cX11_bestWind 32 = .ok (.putfield 96, 3) := by decide +kernel
theorem dX11_bestWind_35 : decode cX11_bestWind 35 = .ok (.iconst (-1), 1) := by decide +kernel
theorem dX11_bestWind_36 : decode cX11_bestWind 36 = .ok (.istore 4, 2) := by decide +kernel
theorem dX11_bestWind_38 : decode cX11_bestWind 38 = .ok (.iconst (-1), 1) := by decide +kernel
theorem dX11_bestWind_39 : decode cX11_bestWind 39 = .ok (.istore 5, 2) := by decide +kernel
theorem dX11_bestWind_41 : decode cX11_bestWind 41 = .ok (.iconst 0, 1) := by decide +kernel
theorem dX11_bestWind_42 : decode cX11_bestWind 42 = .ok (.istore 6, 2) := by decide +kernel
theorem dX11_bestWind_44 : decode cX11_bestWind 44 = .ok (.iload 6, 2) := by decide +kernel
theorem dX11_bestWind_46 : decode cX11_bestWind 46 = .ok (.iconst 4, 1) := by decide +kernel
theorem dX11_bestWind_47 : decode cX11_bestWind 47 = .ok (.if_icmp .gt 75, 3) := by decide +kernel
theorem dX11_bestWind_50 : decode cX11_bestWind 50 = .ok (.aload_n 0, 1) := by decide +kernel
theorem dX11_bestWind_51 : decode cX11_bestWind 51 = .ok (.getfield 63, 3) := by decide +kernel
theorem dX11_bestWind_54 : decode cX11_bestWind 54 = .ok (.iload 6, 2) := by decide +kernel
theorem dX11_bestWind_56 : decode cX11_bestWind 56 = .ok (.putfield 123, 3) := by decide +kernel
theorem dX11_bestWind_59 : decode cX11_bestWind 59 = .ok (.aload_n 0, 1) := by decide +kernel
theorem dX11_bestWind_60 : decode cX11_bestWind 60 = .ok (.getfield 36, 3) := by decide +kernel
theorem dX11_bestWind_63 : decode cX11_bestWind 63 = .ok (.aload_n 0, 1) := by decide +kernel
theorem dX11_bestWind_64 : decode cX11_bestWind 64 = .ok (.getfield 63, 3) := by decide +kernel
theorem dX11_bestWind_67 : decode cX11_bestWind 67 = .ok (.aload_n 3, 1) := by decide +kernel
theorem dX11_bestWind_68 : decode cX11_bestWind 68 = .ok (.aload_n 3, 1) := by decide +kernel
theorem dX11_bestWind_69 : decode cX11_bestWind 69 = .ok (.getfield 143, 3) := by decide +kernel
theorem dX11_bestWind_72 : decode cX11_bestWind 72 = .ok (.aload_n 0, 1) := by decide +kernel
theorem dX11_bestWind_73 : decode cX11_bestWind 73 = .ok (.getfield 106, 3) := by decide +kernel
theorem dX11_bestWind_76 : decode cX11_bestWind 76 = .ok (.invokevirtual 164, 3) := by decide +kernel
theorem dX11_bestWind_79 : decode cX11_bestWind 79 = .ok (.aload_n 0, 1) := by decide +kernel
theorem dX11_bestWind_80 : decode cX11_bestWind 80 = .ok (.getfield 36, 3) := by decide +kernel
theorem dX11_bestWind_83 : decode cX11_bestWind 83 = .ok (.iload_n 2, 1) := by decide +kernel
theorem dX11_bestWind_84 : decode cX11_bestWind 84 = .ok (.invokevirtual 168, 3) := by decide +kernel
theorem dX11_bestWind_87 : decode cX11_bestWind 87 = .ok (.istore 7, 2) := by decide +kernel
theorem dX11_bestWind_89 : decode cX11_bestWind 89 = .ok (.iload 7, 2) := by decide +kernel
theorem dX11_bestWind_91 : decode cX11_bestWind 91 = .ok (.iconst (-1), 1) := by decide +kernel
theorem dX11_bestWind_92 : decode cX11_bestWind 92 = .ok (.if_icmp .eq 24, 3) := by decide +kernel
theorem dX11_bestWind_95 : decode cX11_bestWind 95 = .ok (.iload 4, 2) := by decide +kernel
theorem dX11_bestWind_97 : decode cX11_bestWind 97 = .ok (.iconst (-1), 1) := by decide +kernel
theorem dX11_bestWind_98 : decode cX11_bestWind 98 = .ok (.if_icmp .eq 10, 3) := by decide +kernel
theorem dX11_bestWind_101 : decode cX11_bestWind 101 = .ok (.iload 7, 2) := by decide +kernel
theorem dX11_bestWind_103 : decode cX11_bestWind 103 = .ok (.iload 5, 2) := by decide +kernel
theorem dX11_bestWind_105 : decode cX11_bestWind 105 = .ok (.if_icmp .ge 11, 3) := by decide +kernel
theorem dX11_bestWind_108 : decode cX11_bestWind 108 = .ok (.iload 6, 2) := by decide +kernel
theorem dX11_bestWind_110 : decode cX11_bestWind 110 = .ok (.istore 4, 2) := by decide +kernel
theorem dX11_bestWind_112 : decode cX11_bestWind 112 = .ok (.iload 7, 2) := by decide +kernel
theorem dX11_bestWind_114 : decode cX11_bestWind 114 = .ok (.istore 5, 2) := by decide +kernel
theorem dX11_bestWind_116 : decode cX11_bestWind 116 = .ok (.iinc 6 1, 3) := by decide +kernel
theorem dX11_bestWind_119 : decode cX11_bestWind 119 = .ok (.goto (-75), 3) := by decide +kernel
theorem dX11_bestWind_122 : decode cX11_bestWind 122 = .ok (.iload 4, 2) := by decide +kernel
theorem dX11_bestWind_124 : decode cX11_bestWind 124 = .ok (.ireturn, 1) := by decide +kernel
theorem dX11_see_0 : decode cX11_see 0 = .ok (.aload_n 0, 1) := by decide +kernel
theorem dX11_see_1 : decode cX11_see 1 = .ok (.iload_n 1, 1) := by decide +kernel
theorem dX11_see_2 : decode cX11_see 2 = .ok (.invokevirtual 133, 3) := by decide +kernel
theorem dX11_see_5 : decode cX11_see 5 = .ok (.ifnull 11, 3) := by decide +kernel
end
section
theorem dX11_see_8 : decode cX11_see 8 = .ok (.aload_n 0, 1) := by decide +kernel
theorem dX11_see_9 : decode cX11_see 9 = .ok (.iload_n 2, 1) := by decide +kernel
theorem dX11_see_10 : decode cX11_see 10 = .ok (.invokevirtual 102, 3) := by decide +kernel
theorem dX11_see_13 : decode cX11_see 13 = .ok (.ifCond .ne 6, 3) := by decide +kernel
theorem dX11_see_16 : decode cX11_see 16 = .ok (.bipush (-101), 2) := by decide +kernel
theorem dX11_see_18 : decode cX11_see 18 = .ok (.ireturn, 1) := by decide +kernel
theorem dX11_see_19 : decode cX11_see 19 = .ok (.iload_n 3, 1) := by decide +kernel
theorem dX11_see_20 : decode cX11_see 20 = .ok (.ifCond .lt 9, 3) := by decide +kernel
theorem dX11_see_23 : decode cX11_see 23 = .ok (.iload_n 3, 1) := by decide +kernel
theorem dX11_see_24 : decode cX11_see 24 = .ok (.bipush 40, 2) := by decide +kernel
theorem dX11_see_26 : decode cX11_see 26 = .ok (.if_icmp .le 6, 3) := by decide +kernel
theorem dX11_see_29 : decode cX11_see 29 = .ok (.bipush (-102), 2) := by decide +kernel
theorem dX11_see_31 : decode cX11_see 31 = .ok (.ireturn, 1) := by decide +kernel
theorem dX11_see_32 : decode cX11_see 32 = .ok (.aload_n 0, 1) := by decide +kernel
theorem dX11_see_33 : decode cX11_see 33 = .ok (.getfield 22, 3) := by decide +kernel
theorem dX11_see_36 : decode cX11_see 36 = .ok (.iload_n 1, 1) := by decide +kernel
theorem dX11_see_37 : decode cX11_see 37 = .ok (.iload_n 2, 1) := by decide +kernel
theorem dX11_see_38 : decode cX11_see 38 = .ok (.iload_n 3, 1) := by decide +kernel
theorem dX11_see_39 : decode cX11_see 39 = .ok (.invokevirtual 185, 3) := by decide +kernel
theorem dX11_see_42 : decode cX11_see 42 = .ok (.ifCond .eq 13, 3) := by decide +kernel
theorem dX11_see_45 : decode cX11_see 45 = .ok (.aload_n 0, 1) := by decide +kernel
theorem dX11_see_46 : decode cX11_see 46 = .ok (.getfield 22, 3) := by decide +kernel
theorem dX11_see_49 : decode cX11_see 49 = .ok (.getfield 189, 3) := by decide +kernel
theorem dX11_see_52 : decode cX11_see 52 = .ok (.goto 5, 3) := by decide +kernel
theorem dX11_see_55 : decode cX11_see 55 = .ok (.bipush (-104), 2) := by decide +kernel
theorem dX11_see_57 : decode cX11_see 57 = .ok (.ireturn, 1) := by decide +kernel
theorem dX11_forget_0 : decode cX11_forget 0 = .ok (.aload_n 0, 1) := by decide +kernel
theorem dX11_forget_1 : decode cX11_forget 1 = .ok (.getfield 22, 3) := by decide +kernel
theorem dX11_forget_4 : decode cX11_forget 4 = .ok (.getfield 189, 3) := by decide +kernel
theorem dX11_forget_7 : decode cX11_forget 7 = .ok (.istore_n 1, 1) := by decide +kernel
theorem dX11_forget_8 : decode cX11_forget 8 = .ok (.aload_n 0, 1) := by decide +kernel
theorem dX11_forget_9 : decode cX11_forget 9 = .ok (.getfield 22, 3) := by decide +kernel
theorem dX11_forget_12 : decode cX11_forget 12 = .ok (.iconst 0, 1) := by decide +kernel
theorem dX11_forget_13 : decode cX11_forget 13 = .ok (.putfield 189, 3) := by decide +kernel
theorem dX11_forget_16 : decode cX11_forget 16 = .ok (.iload_n 1, 1) := by decide +kernel
theorem dX11_forget_17 : decode cX11_forget 17 = .ok (.ireturn, 1) := by decide +kernel
theorem dX11_start_0 : decode cX11_start 0 = .ok (.aload_n 0, 1) := by decide +kernel
theorem dX11_start_1 : decode cX11_start 1 = .ok (.iload_n 1, 1) := by decide +kernel
theorem dX11_start_2 : decode cX11_start 2 = .ok (.invokevirtual 133, 3) := by decide +kernel
theorem dX11_start_5 : decode cX11_start 5 = .ok (.astore_n 2, 1) := by decide +kernel
theorem dX11_start_6 : decode cX11_start 6 = .ok (.aload_n 2, 1) := by decide +kernel
theorem dX11_start_7 : decode cX11_start 7 = .ok (.ifnonnull 6, 3) := by decide +kernel
theorem dX11_start_10 : decode cX11_start 10 = .ok (.bipush (-101), 2) := by decide +kernel
theorem dX11_start_12 : decode cX11_start 12 = .ok (.ireturn, 1) := by decide +kernel
theorem dX11_start_13 : decode cX11_start 13 = .ok (.aload_n 0, 1) := by decide +kernel
theorem dX11_start_14 : decode cX11_start 14 = .ok (.getfield 22, 3) := by decide +kernel
theorem dX11_start_17 : decode cX11_start 17 = .ok (.aload_n 0, 1) := by decide +kernel
theorem dX11_start_18 : decode cX11_start 18 = .ok (.getfield 59, 3) := by decide +kernel
theorem dX11_start_21 : decode cX11_start 21 = .ok (.aload_n 2, 1) := by decide +kernel
theorem dX11_start_22 : decode cX11_start 22 = .ok (.iload_n 1, 1) := by decide +kernel
theorem dX11_start_23 : decode cX11_start 23 = .ok (.invokevirtual 190, 3) := by decide +kernel
theorem dX11_start_26 : decode cX11_start 26 = .ok (.ireturn, 1) := by decide +kernel
theorem dX11_junes_0 : decode cX11_junes 0 = .ok (.iload_n 1, 1) := by decide +kernel
theorem dX11_junes_1 : decode cX11_junes 1 = .ok (.iconst 1, 1) := by decide +kernel
theorem dX11_junes_2 : decode cX11_junes 2 = .ok (.if_icmp .lt 22, 3) := by decide +kernel
theorem dX11_junes_5 : decode cX11_junes 5 = .ok (.iload_n 1, 1) := by decide +kernel
theorem dX11_junes_6 : decode cX11_junes 6 = .ok (.bipush 20, 2) := by decide +kernel
theorem dX11_junes_8 : decode cX11_junes 8 = .ok (.if_icmp .gt 16, 3) := by decide +kernel
theorem dX11_junes_11 : decode cX11_junes 11 = .ok (.iload_n 2, 1) := by decide +kernel
theorem dX11_junes_12 : decode cX11_junes 12 = .ok (.ifCond .lt 12, 3) := by decide +kernel
theorem dX11_junes_15 : decode cX11_junes 15 = .ok (.iload_n 3, 1) := by decide +kernel
theorem dX11_junes_16 : decode cX11_junes 16 = .ok (.ifCond .lt 8, 3) := by decide +kernel
theorem dX11_junes_19 : decode cX11_junes 19 = .ok (.iload_n 3, 1) := by decide +kernel
theorem dX11_junes_20 : decode cX11_junes 20 = .ok (.iconst 3, 1) := by decide +kernel
theorem dX11_junes_21 : decode cX11_junes 21 = .ok (.if_icmp .le 6, 3) := by decide +kernel
theorem dX11_junes_24 : decode cX11_junes 24 = .ok (.bipush (-102), 2) := by decide +kernel
theorem dX11_junes_26 : decode cX11_junes 26 = .ok (.ireturn, 1) := by decide +kernel
theorem dX11_junes_27 : decode cX11_junes 27 = .ok (.aload_n 0, 1) := by decide +kernel
theorem dX11_junes_28 : decode cX11_junes 28 = .ok (.invokevirtual 119, 3) := by decide +kernel
theorem dX11_junes_31 : decode cX11_junes 31 = .ok (.ifCond .ne 6, 3) := by decide +kernel
theorem dX11_junes_34 : decode cX11_junes 34 = .ok (.bipush (-103), 2) := by decide +kernel
theorem dX11_junes_36 : decode cX11_junes 36 = .ok (.ireturn, 1) := by decide +kernel
theorem dX11_junes_37 : decode cX11_junes 37 = .ok (.aload_n 0, 1) := by decide +kernel
theorem dX11_junes_38 : decode cX11_junes 38 = .ok (.getfield 63, 3) := by decide +kernel
theorem dX11_junes_41 : decode cX11_junes 41 = .ok (.aload_n 0, 1) := by decide +kernel
theorem dX11_junes_42 : decode cX11_junes 42 = .ok (.getfield 59, 3) := by decide +kernel
theorem dX11_junes_45 : decode cX11_junes 45 = .ok (.getfield 96, 3) := by decide +kernel
theorem dX11_junes_48 : decode cX11_junes 48 = .ok (.putfield 96, 3) := by decide +kernel
theorem dX11_junes_51 : decode cX11_junes 51 = .ok (.aload_n 0, 1) := by decide +kernel
theorem dX11_junes_52 : decode cX11_junes 52 = .ok (.getfield 50, 3) := by decide +kernel
theorem dX11_junes_55 : decode cX11_junes 55 = .ok (.aload_n 0, 1) := by decide +kernel
theorem dX11_junes_56 : decode cX11_junes 56 = .ok (.getfield 15, 3) := by decide +kernel
theorem dX11_junes_59 : decode cX11_junes 59 = .ok (.aload_n 0, 1) := by decide +kernel
theorem dX11_junes_60 : decode cX11_junes 60 = .ok (.getfield 106, 3) := by decide +kernel
theorem dX11_junes_63 : decode cX11_junes 63 = .ok (.iload_n 2, 1) := by decide +kernel
theorem dX11_junes_64 : decode cX11_junes 64 = .ok (.invokevirtual 194, 3) := by decide +kernel
theorem dX11_junes_67 : decode cX11_junes 67 = .ok (.aload_n 0, 1) := by decide +kernel
theorem dX11_junes_68 : decode cX11_junes 68 = .ok (.getfield 50, 3) := by decide +kernel
theorem dX11_junes_71 : decode cX11_junes 71 = .ok (.aload_n 0, 1) := by decide +kernel
theorem dX11_junes_72 : decode cX11_junes 72 = .ok (.getfield 63, 3) := by decide +kernel
theorem dX11_junes_75 : decode cX11_junes 75 = .ok (.aload_n 0, 1) := by decide +kernel
theorem dX11_junes_76 : decode cX11_junes 76 = .ok (.getfield 15, 3) := by decide +kernel
theorem dX11_junes_79 : decode cX11_junes 79 = .ok (.iload_n 1, 1) := by decide +kernel
theorem dX11_junes_80 : decode cX11_junes 80 = .ok (.invokevirtual 198, 3) := by decide +kernel
theorem dX11_junes_83 : decode cX11_junes 83 = .ok (.iload_n 3, 1) := by decide +kernel
theorem dX11_junes_84 : decode cX11_junes 84 = .ok (.tableswitch 60 0 2 #[28, 36, 52], 28) := by decide +kernel
theorem dX11_junes_112 : decode cX11_junes 112 = .ok (.aload_n 0, 1) := by decide +kernel
theorem dX11_junes_113 : decode cX11_junes 113 = .ok (.getfield 50, 3) := by decide +kernel
theorem dX11_junes_116 : decode cX11_junes 116 = .ok (.getfield 202, 3) := by decide +kernel
theorem dX11_junes_119 : decode cX11_junes 119 = .ok (.ireturn, 1) := by decide +kernel
theorem dX11_junes_120 : decode cX11_junes 120 = .ok (.aload_n 0, 1) := by decide +kernel
theorem dX11_junes_121 : decode cX11_junes 121 = .ok (.getfield 50, 3) := by decide +kernel
theorem dX11_junes_124 : decode cX11_junes 124 = .ok (.aload_n 0, 1) := by decide +kernel
theorem dX11_junes_125 : decode cX11_junes 125 = .ok (.getfield 63, 3) := by decide +kernel
theorem dX11_junes_128 : decode cX11_junes 128 = .ok (.aload_n 0, 1) := by decide +kernel
theorem dX11_junes_129 : decode cX11_junes 129 = .ok (.getfield 15, 3) := by decide +kernel
theorem dX11_junes_132 : decode cX11_junes 132 = .ok (.invokevirtual 205, 3) := by decide +kernel
theorem dX11_junes_135 : decode cX11_junes 135 = .ok (.ireturn, 1) := by decide +kernel
theorem dX11_junes_136 : decode cX11_junes 136 = .ok (.aload_n 0, 1) := by decide +kernel
theorem dX11_junes_137 : decode cX11_junes 137 = .ok (.getfield 50, 3) := by decide +kernel
theorem dX11_junes_140 : decode cX11_junes 140 = .ok (.getfield 209, 3) := by decide +kernel
theorem dX11_junes_143 : decode cX11_junes 143 = .ok (.ireturn, 1) := by decide +kernel
theorem dX11_junes_144 : decode cX11_junes 144 = .ok (.aload_n 0, 1) := by decide +kernel
theorem dX11_junes_145 : decode cX11_junes 145 = .ok (.getfield 50, 3) := by decide +kernel
theorem dX11_junes_148 : decode cX11_junes 148 = .ok (.getfield 210, 3) := by decide +kernel
theorem dX11_junes_151 : decode cX11_junes 151 = .ok (.ireturn, 1) := by decide +kernel
theorem dX11_image_0 : decode cX11_image 0 = .ok (.aload_n 0, 1) := by decide +kernel
theorem dX11_image_1 : decode cX11_image 1 = .ok (.invokevirtual 119, 3) := by decide +kernel
theorem dX11_image_4 : decode cX11_image 4 = .ok (.ifCond .ne 6, 3) := by decide +kernel
theorem dX11_image_7 : decode cX11_image 7 = .ok (.bipush (-103), 2) := by decide +kernel
theorem dX11_image_9 : decode cX11_image 9 = .ok (.ireturn, 1) := by decide +kernel
theorem dX11_image_10 : decode cX11_image 10 = .ok (.aload_n 0, 1) := by decide +kernel
theorem dX11_image_11 : decode cX11_image 11 = .ok (.getfield 29, 3) := by decide +kernel
theorem dX11_image_14 : decode cX11_image 14 = .ok (.aload_n 0, 1) := by decide +kernel
theorem dX11_image_15 : decode cX11_image 15 = .ok (.getfield 15, 3) := by decide +kernel
theorem dX11_image_18 : decode cX11_image 18 = .ok (.aload_n 0, 1) := by decide +kernel
theorem dX11_image_19 : decode cX11_image 19 = .ok (.getfield 126, 3) := by decide +kernel
theorem dX11_image_22 : decode cX11_image 22 = .ok (.invokevirtual 213, 3) := by decide +kernel
theorem dX11_image_25 : decode cX11_image 25 = .ok (.aload_n 0, 1) := by decide +kernel
theorem dX11_image_26 : decode cX11_image 26 = .ok (.getfield 29, 3) := by decide +kernel
theorem dX11_image_29 : decode cX11_image 29 = .ok (.aload_n 0, 1) := by decide +kernel
theorem dX11_image_30 : decode cX11_image 30 = .ok (.getfield 106, 3) := by decide +kernel
theorem dX11_image_33 : decode cX11_image 33 = .ok (.putfield 217, 3) := by decide +kernel
theorem dX11_image_36 : decode cX11_image 36 = .ok (.aload_n 0, 1) := by decide +kernel
theorem dX11_image_37 : decode cX11_image 37 = .ok (.getfield 29, 3) := by decide +kernel
theorem dX11_image_40 : decode cX11_image 40 = .ok (.aload_n 0, 1) := by decide +kernel
theorem dX11_image_41 : decode cX11_image 41 = .ok (.getfield 59, 3) := by decide +kernel
theorem dX11_image_44 : decode cX11_image 44 = .ok (.getfield 123, 3) := by decide +kernel
theorem dX11_image_47 : decode cX11_image 47 = .ok (.putfield 218, 3) := by decide +kernel
theorem dX11_image_50 : decode cX11_image 50 = .ok (.aload_n 0, 1) := by decide +kernel
theorem dX11_image_51 : decode cX11_image 51 = .ok (.getfield 29, 3) := by decide +kernel
theorem dX11_image_54 : decode cX11_image 54 = .ok (.getfield 219, 3) := by decide +kernel
theorem dX11_image_57 : decode cX11_image 57 = .ok (.aload_n 0, 1) := by decide +kernel
theorem dX11_image_58 : decode cX11_image 58 = .ok (.getfield 22, 3) := by decide +kernel
theorem dX11_image_61 : decode cX11_image 61 = .ok (.invokevirtual 220, 3) := by decide +kernel
theorem dX11_image_64 : decode cX11_image 64 = .ok (.aload_n 0, 1) := by decide +kernel
theorem dX11_image_65 : decode cX11_image 65 = .ok (.getfield 106, 3) := by decide +kernel
theorem dX11_image_68 : decode cX11_image 68 = .ok (.ireturn, 1) := by decide +kernel
theorem dX11_restore_0 : decode cX11_restore 0 = .ok (.aload_n 0, 1) := by decide +kernel
theorem dX11_restore_1 : decode cX11_restore 1 = .ok (.getfield 29, 3) := by decide +kernel
theorem dX11_restore_4 : decode cX11_restore 4 = .ok (.getfield 224, 3) := by decide +kernel
theorem dX11_restore_7 : decode cX11_restore 7 = .ok (.ifCond .ne 6, 3) := by decide +kernel
theorem dX11_restore_10 : decode cX11_restore 10 = .ok (.bipush (-103), 2) := by decide +kernel
theorem dX11_restore_12 : decode cX11_restore 12 = .ok (.ireturn, 1) := by decide +kernel
theorem dX11_restore_13 : decode cX11_restore 13 = .ok (.aload_n 0, 1) := by decide +kernel
theorem dX11_restore_14 : decode cX11_restore 14 = .ok (.getfield 29, 3) := by decide +kernel
theorem dX11_restore_17 : decode cX11_restore 17 = .ok (.aload_n 0, 1) := by decide +kernel
theorem dX11_restore_18 : decode cX11_restore 18 = .ok (.getfield 15, 3) := by decide +kernel
theorem dX11_restore_21 : decode cX11_restore 21 = .ok (.invokevirtual 228, 3) := by decide +kernel
theorem dX11_restore_24 : decode cX11_restore 24 = .ok (.aload_n 0, 1) := by decide +kernel
theorem dX11_restore_25 : decode cX11_restore 25 = .ok (.aload_n 0, 1) := by decide +kernel
theorem dX11_restore_26 : decode cX11_restore 26 = .ok (.getfield 29, 3) := by decide +kernel
theorem dX11_restore_29 : decode cX11_restore 29 = .ok (.getfield 232, 3) := by decide +kernel
theorem dX11_restore_32 : decode cX11_restore 32 = .ok (.putfield 126, 3) := by decide +kernel
theorem dX11_restore_35 : decode cX11_restore 35 = .ok (.aload_n 0, 1) := by decide +kernel
theorem dX11_restore_36 : decode cX11_restore 36 = .ok (.aload_n 0, 1) := by decide +kernel
theorem dX11_restore_37 : decode cX11_restore 37 = .ok (.getfield 29, 3) := by decide +kernel
theorem dX11_restore_40 : decode cX11_restore 40 = .ok (.getfield 217, 3) := by decide +kernel
theorem dX11_restore_43 : decode cX11_restore 43 = .ok (.putfield 106, 3) := by decide +kernel
theorem dX11_restore_46 : decode cX11_restore 46 = .ok (.aload_n 0, 1) := by decide +kernel
theorem dX11_restore_47 : decode cX11_restore 47 = .ok (.getfield 59, 3) := by decide +kernel
theorem dX11_restore_50 : decode cX11_restore 50 = .ok (.aload_n 0, 1) := by decide +kernel
theorem dX11_restore_51 : decode cX11_restore 51 = .ok (.getfield 29, 3) := by decide +kernel
theorem dX11_restore_54 : decode cX11_restore 54 = .ok (.getfield 218, 3) := by decide +kernel
theorem dX11_restore_57 : decode cX11_restore 57 = .ok (.putfield 123, 3) := by decide +kernel
theorem dX11_restore_60 : decode cX11_restore 60 = .ok (.aload_n 0, 1) := by decide +kernel
theorem dX11_restore_61 : decode cX11_restore 61 = .ok (.getfield 22, 3) := by decide +kernel
theorem dX11_restore_64 : decode cX11_restore 64 = .ok (.aload_n 0, 1) := by decide +kernel
theorem dX11_restore_65 : decode cX11_restore 65 = .ok (.getfield 29, 3) := by decide +kernel
theorem dX11_restore_68 : decode cX11_restore 68 = .ok (.getfield 219, 3) := by decide +kernel
theorem dX11_restore_71 : decode cX11_restore 71 = .ok (.invokevirtual 220, 3) := by decide +kernel
theorem dX11_restore_74 : decode cX11_restore 74 = .ok (.aload_n 0, 1) := by decide +kernel
theorem dX11_restore_75 : decode cX11_restore 75 = .ok (.getfield 106, 3) := by decide +kernel
theorem dX11_restore_78 : decode cX11_restore 78 = .ok (.ireturn, 1) := by decide +kernel
theorem dX11_count_0 : decode cX11_count 0 = .ok (.iload_n 1, 1) := by decide +kernel
theorem dX11_count_1 : decode cX11_count 1 = .ok (.tableswitch 105 0 8 #[51, 59, 64, 69, 74, 79, 87, 95, 100], 51) := by decide +kernel
theorem dX11_count_52 : decode cX11_count 52 = .ok (.aload_n 0, 1) := by decide +kernel
theorem dX11_count_53 : decode cX11_count 53 = .ok (.getfield 59, 3) := by decide +kernel
theorem dX11_count_56 : decode cX11_count 56 = .ok (.getfield 96, 3) := by decide +kernel
theorem dX11_count_59 : decode cX11_count 59 = .ok (.ireturn, 1) := by decide +kernel
theorem dX11_count_60 : decode cX11_count 60 = .ok (.aload_n 0, 1) := by decide +kernel
theorem dX11_count_61 : decode cX11_count 61 = .ok (.invokevirtual 233, 3) := by decide +kernel
theorem dX11_count_64 : decode cX11_count 64 = .ok (.ireturn, 1) := by decide +kernel
theorem dX11_count_65 : decode cX11_count 65 = .ok (.aload_n 0, 1) := by decide +kernel
theorem dX11_count_66 : decode cX11_count 66 = .ok (.getfield 126, 3) := by decide +kernel
theorem dX11_count_69 : decode cX11_count 69 = .ok (.ireturn, 1) := by decide +kernel
theorem dX11_count_70 : decode cX11_count 70 = .ok (.aload_n 0, 1) := by decide +kernel
theorem dX11_count_71 : decode cX11_count 71 = .ok (.invokevirtual 236, 3) := by decide +kernel
theorem dX11_count_74 : decode cX11_count 74 = .ok (.ireturn, 1) := by decide +kernel
theorem dX11_count_75 : decode cX11_count 75 = .ok (.aload_n 0, 1) := by decide +kernel
theorem dX11_count_76 : decode cX11_count 76 = .ok (.getfield 106, 3) := by decide +kernel
theorem dX11_count_79 : decode cX11_count 79 = .ok (.ireturn, 1) := by decide +kernel
theorem dX11_count_80 : decode cX11_count 80 = .ok (.aload_n 0, 1) := by decide +kernel
theorem dX11_count_81 : decode cX11_count 81 = .ok (.getfield 59, 3) := by decide +kernel
theorem dX11_count_84 : decode cX11_count 84 = .ok (.getfield 123, 3) := by decide +kernel
theorem dX11_count_87 : decode cX11_count 87 = .ok (.ireturn, 1) := by decide +kernel
theorem dX11_count_88 : decode cX11_count 88 = .ok (.aload_n 0, 1) := by decide +kernel
theorem dX11_count_89 : decode cX11_count 89 = .ok (.getfield 22, 3) := by decide +kernel
theorem dX11_count_92 : decode cX11_count 92 = .ok (.getfield 189, 3) := by decide +kernel
theorem dX11_count_95 : decode cX11_count 95 = .ok (.ireturn, 1) := by decide +kernel
theorem dX11_count_96 : decode cX11_count 96 = .ok (.aload_n 0, 1) := by decide +kernel
theorem dX11_count_97 : decode cX11_count 97 = .ok (.getfield 66, 3) := by decide +kernel
theorem dX11_count_100 : decode cX11_count 100 = .ok (.ireturn, 1) := by decide +kernel
theorem dX11_count_101 : decode cX11_count 101 = .ok (.aload_n 0, 1) := by decide +kernel
theorem dX11_count_102 : decode cX11_count 102 = .ok (.getfield 99, 3) := by decide +kernel
theorem dX11_count_105 : decode cX11_count 105 = .ok (.ireturn, 1) := by decide +kernel
theorem dX11_count_106 : decode cX11_count 106 = .ok (.bipush (-102), 2) := by decide +kernel
theorem dX11_count_108 : decode cX11_count 108 = .ok (.ireturn, 1) := by decide +kernel
theorem dX11_digest_0 : decode cX11_digest 0 = .ok (.ldc2_w 239, 3) := by decide +kernel
theorem dX11_digest_3 : decode cX11_digest 3 = .ok (.lstore_n 1, 1) := by decide +kernel
theorem dX11_digest_4 : decode cX11_digest 4 = .ok (.aload_n 0, 1) := by decide +kernel
theorem dX11_digest_5 : decode cX11_digest 5 = .ok (.invokevirtual 119, 3) := by decide +kernel
theorem dX11_digest_8 : decode cX11_digest 8 = .ok (.ifCond .eq 9, 3) := by decide +kernel
theorem dX11_digest_11 : decode cX11_digest 11 = .ok (.aload_n 0, 1) := by decide +kernel
theorem dX11_digest_12 : decode cX11_digest 12 = .ok (.lload_n 1, 1) := by decide +kernel
theorem dX11_digest_13 : decode cX11_digest 13 = .ok (.invokevirtual 241, 3) := by decide +kernel
theorem dX11_digest_16 : decode cX11_digest 16 = .ok (.lstore_n 1, 1) := by decide +kernel
theorem dX11_digest_17 : decode cX11_digest 17 = .ok (.iconst 0, 1) := by decide +kernel
theorem dX11_digest_18 : decode cX11_digest 18 = .ok (.istore_n 3, 1) := by decide +kernel
theorem dX11_digest_19 : decode cX11_digest 19 = .ok (.iload_n 3, 1) := by decide +kernel
theorem dX11_digest_20 : decode cX11_digest 20 = .ok (.aload_n 0, 1) := by decide +kernel
theorem dX11_digest_21 : decode cX11_digest 21 = .ok (.getfield 15, 3) := by decide +kernel
theorem dX11_digest_24 : decode cX11_digest 24 = .ok (.arraylength, 1) := by decide +kernel
theorem dX11_digest_25 : decode cX11_digest 25 = .ok (.if_icmp .ge 31, 3) := by decide +kernel
theorem dX11_digest_28 : decode cX11_digest 28 = .ok (.aload_n 0, 1) := by decide +kernel
theorem dX11_digest_29 : decode cX11_digest 29 = .ok (.getfield 15, 3) := by decide +kernel
theorem dX11_digest_32 : decode cX11_digest 32 = .ok (.iload_n 3, 1) := by decide +kernel
theorem dX11_digest_33 : decode cX11_digest 33 = .ok (.aaload, 1) := by decide +kernel
theorem dX11_digest_34 : decode cX11_digest 34 = .ok (.astore 4, 2) := by decide +kernel
theorem dX11_digest_36 : decode cX11_digest 36 = .ok (.aload 4, 2) := by decide +kernel
theorem dX11_digest_38 : decode cX11_digest 38 = .ok (.ifnull 12, 3) := by decide +kernel
theorem dX11_digest_41 : decode cX11_digest 41 = .ok (.aload_n 0, 1) := by decide +kernel
theorem dX11_digest_42 : decode cX11_digest 42 = .ok (.lload_n 1, 1) := by decide +kernel
theorem dX11_digest_43 : decode cX11_digest 43 = .ok (.aload 4, 2) := by decide +kernel
theorem dX11_digest_45 : decode cX11_digest 45 = .ok (.iload_n 3, 1) := by decide +kernel
theorem dX11_digest_46 : decode cX11_digest 46 = .ok (.invokevirtual 245, 3) := by decide +kernel
theorem dX11_digest_49 : decode cX11_digest 49 = .ok (.lstore_n 1, 1) := by decide +kernel
theorem dX11_digest_50 : decode cX11_digest 50 = .ok (.iinc 3 1, 3) := by decide +kernel
theorem dX11_digest_53 : decode cX11_digest 53 = .ok (.goto (-34), 3) := by decide +kernel
theorem dX11_digest_56 : decode cX11_digest 56 = .ok (.iconst 0, 1) := by decide +kernel
theorem dX11_digest_57 : decode cX11_digest 57 = .ok (.istore_n 3, 1) := by decide +kernel
theorem dX11_digest_58 : decode cX11_digest 58 = .ok (.iload_n 3, 1) := by decide +kernel
theorem dX11_digest_59 : decode cX11_digest 59 = .ok (.aload_n 0, 1) := by decide +kernel
theorem dX11_digest_60 : decode cX11_digest 60 = .ok (.getfield 66, 3) := by decide +kernel
theorem dX11_digest_63 : decode cX11_digest 63 = .ok (.if_icmp .ge 32, 3) := by decide +kernel
theorem dX11_digest_66 : decode cX11_digest 66 = .ok (.iload_n 3, 1) := by decide +kernel
theorem dX11_digest_67 : decode cX11_digest 67 = .ok (.aload_n 0, 1) := by decide +kernel
theorem dX11_digest_68 : decode cX11_digest 68 = .ok (.getfield 9, 3) := by decide +kernel
theorem dX11_digest_71 : decode cX11_digest 71 = .ok (.arraylength, 1) := by decide +kernel
theorem dX11_digest_72 : decode cX11_digest 72 = .ok (.if_icmp .ge 23, 3) := by decide +kernel
theorem dX11_digest_75 : decode cX11_digest 75 = .ok (.ldc2_w 249, 3) := by decide +kernel
theorem dX11_digest_78 : decode cX11_digest 78 = .ok (.lload_n 1, 1) := by decide +kernel
theorem dX11_digest_79 : decode cX11_digest 79 = .ok (.lmul, 1) := by decide +kernel
theorem dX11_digest_80 : decode cX11_digest 80 = .ok (.aload_n 0, 1) := by decide +kernel
theorem dX11_digest_81 : decode cX11_digest 81 = .ok (.getfield 9, 3) := by decide +kernel
theorem dX11_digest_84 : decode cX11_digest 84 = .ok (.iload_n 3, 1) := by decide +kernel
theorem dX11_digest_85 : decode cX11_digest 85 = .ok (.iaload, 1) := by decide +kernel
theorem dX11_digest_86 : decode cX11_digest 86 = .ok (.i2l, 1) := by decide +kernel
theorem dX11_digest_87 : decode cX11_digest 87 = .ok (.ladd, 1) := by decide +kernel
theorem dX11_digest_88 : decode cX11_digest 88 = .ok (.lstore_n 1, 1) := by decide +kernel
theorem dX11_digest_89 : decode cX11_digest 89 = .ok (.iinc 3 1, 3) := by decide +kernel
theorem dX11_digest_92 : decode cX11_digest 92 = .ok (.goto (-34), 3) := by decide +kernel
theorem dX11_digest_95 : decode cX11_digest 95 = .ok (.iconst 0, 1) := by decide +kernel
theorem dX11_digest_96 : decode cX11_digest 96 = .ok (.istore_n 3, 1) := by decide +kernel
theorem dX11_digest_97 : decode cX11_digest 97 = .ok (.iload_n 3, 1) := by decide +kernel
theorem dX11_digest_98 : decode cX11_digest 98 = .ok (.bipush 9, 2) := by decide +kernel
theorem dX11_digest_100 : decode cX11_digest 100 = .ok (.if_icmp .ge 22, 3) := by decide +kernel
theorem dX11_digest_103 : decode cX11_digest 103 = .ok (.ldc2_w 249, 3) := by decide +kernel
theorem dX11_digest_106 : decode cX11_digest 106 = .ok (.lload_n 1, 1) := by decide +kernel
theorem dX11_digest_107 : decode cX11_digest 107 = .ok (.lmul, 1) := by decide +kernel
theorem dX11_digest_108 : decode cX11_digest 108 = .ok (.aload_n 0, 1) := by decide +kernel
theorem dX11_digest_109 : decode cX11_digest 109 = .ok (.iload_n 3, 1) := by decide +kernel
theorem dX11_digest_110 : decode cX11_digest 110 = .ok (.invokevirtual 251, 3) := by decide +kernel
theorem dX11_digest_113 : decode cX11_digest 113 = .ok (.i2l, 1) := by decide +kernel
theorem dX11_digest_114 : decode cX11_digest 114 = .ok (.ladd, 1) := by decide +kernel
theorem dX11_digest_115 : decode cX11_digest 115 = .ok (.lstore_n 1, 1) := by decide +kernel
theorem dX11_digest_116 : decode cX11_digest 116 = .ok (.iinc 3 1, 3) := by decide +kernel
theorem dX11_digest_119 : decode cX11_digest 119 = .ok (.goto (-22), 3) := by decide +kernel
theorem dX11_digest_122 : decode cX11_digest 122 = .ok (.lload_n 1, 1) := by decide +kernel
theorem dX11_digest_123 : decode cX11_digest 123 = .ok (.lreturn, 1) := by decide +kernel
theorem dX11_digestOfCells_0 : decode cX11_digestOfCells 0 = .ok (.lload_n 1, 1) := by decide +kernel
theorem dX11_digestOfCells_1 : decode cX11_digestOfCells 1 = .ok (.lstore_n 3, 1) := by decide +kernel
theorem dX11_digestOfCells_2 : decode cX11_digestOfCells 2 = .ok (.iconst 0, 1) := by decide +kernel
theorem dX11_digestOfCells_3 : decode cX11_digestOfCells 3 = .ok (.istore 5, 2) := by decide +kernel
theorem dX11_digestOfCells_5 : decode cX11_digestOfCells 5 = .ok (.iload 5, 2) := by decide +kernel
theorem dX11_digestOfCells_7 : decode cX11_digestOfCells 7 = .ok (.bipush 12, 2) := by decide +kernel
theorem dX11_digestOfCells_9 : decode cX11_digestOfCells 9 = .ok (.if_icmp .ge 40, 3) := by decide +kernel
theorem dX11_digestOfCells_12 : decode cX11_digestOfCells 12 = .ok (.iconst 0, 1) := by decide +kernel
theorem dX11_digestOfCells_13 : decode cX11_digestOfCells 13 = .ok (.istore 6, 2) := by decide +kernel
theorem dX11_digestOfCells_15 : decode cX11_digestOfCells 15 = .ok (.iload 6, 2) := by decide +kernel
theorem dX11_digestOfCells_17 : decode cX11_digestOfCells 17 = .ok (.iconst 3, 1) := by decide +kernel
theorem dX11_digestOfCells_18 : decode cX11_digestOfCells 18 = .ok (.if_icmp .gt 25, 3) := by decide +kernel
theorem dX11_digestOfCells_21 : decode cX11_digestOfCells 21 = .ok (.ldc2_w 249, 3) := by decide +kernel
theorem dX11_digestOfCells_24 : decode cX11_digestOfCells 24 = .ok (.lload_n 3, 1) := by decide +kernel
theorem dX11_digestOfCells_25 : decode cX11_digestOfCells 25 = .ok (.lmul, 1) := by decide +kernel
theorem dX11_digestOfCells_26 : decode cX11_digestOfCells 26 = .ok (.aload_n 0, 1) := by decide +kernel
theorem dX11_digestOfCells_27 : decode cX11_digestOfCells 27 = .ok (.iload 5, 2) := by decide +kernel
theorem dX11_digestOfCells_29 : decode cX11_digestOfCells 29 = .ok (.iload 6, 2) := by decide +kernel
theorem dX11_digestOfCells_31 : decode cX11_digestOfCells 31 = .ok (.invokevirtual 254, 3) := by decide +kernel
theorem dX11_digestOfCells_34 : decode cX11_digestOfCells 34 = .ok (.i2l, 1) := by decide +kernel
theorem dX11_digestOfCells_35 : decode cX11_digestOfCells 35 = .ok (.ladd, 1) := by decide +kernel
theorem dX11_digestOfCells_36 : decode cX11_digestOfCells 36 = .ok (.lstore_n 3, 1) := by decide +kernel
theorem dX11_digestOfCells_37 : decode cX11_digestOfCells 37 = .ok (.iinc 6 1, 3) := by decide +kernel
theorem dX11_digestOfCells_40 : decode cX11_digestOfCells 40 = .ok (.goto (-25), 3) := by decide +kernel
theorem dX11_digestOfCells_43 : decode cX11_digestOfCells 43 = .ok (.iinc 5 1, 3) := by decide +kernel
theorem dX11_digestOfCells_46 : decode cX11_digestOfCells 46 = .ok (.goto (-41), 3) := by decide +kernel
theorem dX11_digestOfCells_49 : decode cX11_digestOfCells 49 = .ok (.lload_n 3, 1) := by decide +kernel
theorem dX11_digestOfCells_50 : decode cX11_digestOfCells 50 = .ok (.lreturn, 1) := by decide +kernel
theorem dX11_digestOfHull_0 : decode cX11_digestOfHull 0 = .ok (.lload_n 1, 1) := by decide +kernel
theorem dX11_digestOfHull_1 : decode cX11_digestOfHull 1 = .ok (.lstore 5, 2) := by decide +kernel
theorem dX11_digestOfHull_3 : decode cX11_digestOfHull 3 = .ok (.iconst 0, 1) := by decide +kernel
theorem dX11_digestOfHull_4 : decode cX11_digestOfHull 4 = .ok (.istore 7, 2) := by decide +kernel
theorem dX11_digestOfHull_6 : decode cX11_digestOfHull 6 = .ok (.iload 7, 2) := by decide +kernel
theorem dX11_digestOfHull_8 : decode cX11_digestOfHull 8 = .ok (.iconst 4, 1) := by decide +kernel
theorem dX11_digestOfHull_9 : decode cX11_digestOfHull 9 = .ok (.if_icmp .gt 27, 3) := by decide +kernel
theorem dX11_digestOfHull_12 : decode cX11_digestOfHull 12 = .ok (.ldc2_w 249, 3) := by decide +kernel
theorem dX11_digestOfHull_15 : decode cX11_digestOfHull 15 = .ok (.lload 5, 2) := by decide +kernel
theorem dX11_digestOfHull_17 : decode cX11_digestOfHull 17 = .ok (.lmul, 1) := by decide +kernel
theorem dX11_digestOfHull_18 : decode cX11_digestOfHull 18 = .ok (.aload_n 0, 1) := by decide +kernel
theorem dX11_digestOfHull_19 : decode cX11_digestOfHull 19 = .ok (.iload 4, 2) := by decide +kernel
theorem dX11_digestOfHull_21 : decode cX11_digestOfHull 21 = .ok (.iload 7, 2) := by decide +kernel
theorem dX11_digestOfHull_23 : decode cX11_digestOfHull 23 = .ok (.invokevirtual 256, 3) := by decide +kernel
theorem dX11_digestOfHull_26 : decode cX11_digestOfHull 26 = .ok (.i2l, 1) := by decide +kernel
theorem dX11_digestOfHull_27 : decode cX11_digestOfHull 27 = .ok (.ladd, 1) := by decide +kernel
theorem dX11_digestOfHull_28 : decode cX11_digestOfHull 28 = .ok (.lstore 5, 2) := by decide +kernel
theorem dX11_digestOfHull_30 : decode cX11_digestOfHull 30 = .ok (.iinc 7 1, 3) := by decide +kernel
theorem dX11_digestOfHull_33 : decode cX11_digestOfHull 33 = .ok (.goto (-27), 3) := by decide +kernel
theorem dX11_digestOfHull_36 : decode cX11_digestOfHull 36 = .ok (.bipush 10, 2) := by decide +kernel
theorem dX11_digestOfHull_38 : decode cX11_digestOfHull 38 = .ok (.istore 7, 2) := by decide +kernel
theorem dX11_digestOfHull_40 : decode cX11_digestOfHull 40 = .ok (.iload 7, 2) := by decide +kernel
theorem dX11_digestOfHull_42 : decode cX11_digestOfHull 42 = .ok (.bipush 13, 2) := by decide +kernel
theorem dX11_digestOfHull_44 : decode cX11_digestOfHull 44 = .ok (.if_icmp .gt 27, 3) := by decide +kernel
theorem dX11_digestOfHull_47 : decode cX11_digestOfHull 47 = .ok (.ldc2_w 249, 3) := by decide +kernel
theorem dX11_digestOfHull_50 : decode cX11_digestOfHull 50 = .ok (.lload 5, 2) := by decide +kernel
theorem dX11_digestOfHull_52 : decode cX11_digestOfHull 52 = .ok (.lmul, 1) := by decide +kernel
theorem dX11_digestOfHull_53 : decode cX11_digestOfHull 53 = .ok (.aload_n 0, 1) := by decide +kernel
theorem dX11_digestOfHull_54 : decode cX11_digestOfHull 54 = .ok (.iload 4, 2) := by decide +kernel
theorem dX11_digestOfHull_56 : decode cX11_digestOfHull 56 = .ok (.iload 7, 2) := by decide +kernel
theorem dX11_digestOfHull_58 : decode cX11_digestOfHull 58 = .ok (.invokevirtual 256, 3) := by decide +kernel
theorem dX11_digestOfHull_61 : decode cX11_digestOfHull 61 = .ok (.i2l, 1) := by decide +kernel
theorem dX11_digestOfHull_62 : decode cX11_digestOfHull 62 = .ok (.ladd, 1) := by decide +kernel
theorem dX11_digestOfHull_63 : decode cX11_digestOfHull 63 = .ok (.lstore 5, 2) := by decide +kernel
theorem dX11_digestOfHull_65 : decode cX11_digestOfHull 65 = .ok (.iinc 7 1, 3) := by decide +kernel
theorem dX11_digestOfHull_68 : decode cX11_digestOfHull 68 = .ok (.goto (-28), 3) := by decide +kernel
theorem dX11_digestOfHull_71 : decode cX11_digestOfHull 71 = .ok (.aload_n 0, 1) := by decide +kernel
theorem dX11_digestOfHull_72 : decode cX11_digestOfHull 72 = .ok (.getfield 36, 3) := by decide +kernel
theorem dX11_digestOfHull_75 : decode cX11_digestOfHull 75 = .ok (.aload_n 0, 1) := by decide +kernel
theorem dX11_digestOfHull_76 : decode cX11_digestOfHull 76 = .ok (.getfield 59, 3) := by decide +kernel
theorem dX11_digestOfHull_79 : decode cX11_digestOfHull 79 = .ok (.aload_n 3, 1) := by decide +kernel
theorem dX11_digestOfHull_80 : decode cX11_digestOfHull 80 = .ok (.aload_n 3, 1) := by decide +kernel
theorem dX11_digestOfHull_81 : decode cX11_digestOfHull 81 = .ok (.getfield 143, 3) := by decide +kernel
theorem dX11_digestOfHull_84 : decode cX11_digestOfHull 84 = .ok (.aload_n 0, 1) := by decide +kernel
theorem dX11_digestOfHull_85 : decode cX11_digestOfHull 85 = .ok (.getfield 106, 3) := by decide +kernel
theorem dX11_digestOfHull_88 : decode cX11_digestOfHull 88 = .ok (.invokevirtual 164, 3) := by decide +kernel
theorem dX11_digestOfHull_91 : decode cX11_digestOfHull 91 = .ok (.iconst 0, 1) := by decide +kernel
theorem dX11_digestOfHull_92 : decode cX11_digestOfHull 92 = .ok (.istore 7, 2) := by decide +kernel
theorem dX11_digestOfHull_94 : decode cX11_digestOfHull 94 = .ok (.iload 7, 2) := by decide +kernel
theorem dX11_digestOfHull_96 : decode cX11_digestOfHull 96 = .ok (.bipush 12, 2) := by decide +kernel
theorem dX11_digestOfHull_98 : decode cX11_digestOfHull 98 = .ok (.if_icmp .ge 28, 3) := by decide +kernel
theorem dX11_digestOfHull_101 : decode cX11_digestOfHull 101 = .ok (.ldc2_w 249, 3) := by decide +kernel
theorem dX11_digestOfHull_104 : decode cX11_digestOfHull 104 = .ok (.lload 5, 2) := by decide +kernel
theorem dX11_digestOfHull_106 : decode cX11_digestOfHull 106 = .ok (.lmul, 1) := by decide +kernel
theorem dX11_digestOfHull_107 : decode cX11_digestOfHull 107 = .ok (.aload_n 0, 1) := by decide +kernel
theorem dX11_digestOfHull_108 : decode cX11_digestOfHull 108 = .ok (.getfield 36, 3) := by decide +kernel
theorem dX11_digestOfHull_111 : decode cX11_digestOfHull 111 = .ok (.iload 7, 2) := by decide +kernel
theorem dX11_digestOfHull_113 : decode cX11_digestOfHull 113 = .ok (.invokevirtual 168, 3) := by decide +kernel
theorem dX11_digestOfHull_116 : decode cX11_digestOfHull 116 = .ok (.i2l, 1) := by decide +kernel
theorem dX11_digestOfHull_117 : decode cX11_digestOfHull 117 = .ok (.ladd, 1) := by decide +kernel
theorem dX11_digestOfHull_118 : decode cX11_digestOfHull 118 = .ok (.lstore 5, 2) := by decide +kernel
theorem dX11_digestOfHull_120 : decode cX11_digestOfHull 120 = .ok (.iinc 7 1, 3) := by decide +kernel
theorem dX11_digestOfHull_123 : decode cX11_digestOfHull 123 = .ok (.goto (-29), 3) := by decide +kernel
theorem dX11_digestOfHull_126 : decode cX11_digestOfHull 126 = .ok (.ldc2_w 249, 3) := by decide +kernel
theorem dX11_digestOfHull_129 : decode cX11_digestOfHull 129 = .ok (.lload 5, 2) := by decide +kernel
theorem dX11_digestOfHull_131 : decode cX11_digestOfHull 131 = .ok (.lmul, 1) := by decide +kernel
theorem dX11_digestOfHull_132 : decode cX11_digestOfHull 132 = .ok (.aload_n 0, 1) := by decide +kernel
theorem dX11_digestOfHull_133 : decode cX11_digestOfHull 133 = .ok (.getfield 22, 3) := by decide +kernel
theorem dX11_digestOfHull_136 : decode cX11_digestOfHull 136 = .ok (.aload_n 0, 1) := by decide +kernel
theorem dX11_digestOfHull_137 : decode cX11_digestOfHull 137 = .ok (.getfield 59, 3) := by decide +kernel
theorem dX11_digestOfHull_140 : decode cX11_digestOfHull 140 = .ok (.aload_n 3, 1) := by decide +kernel
theorem dX11_digestOfHull_141 : decode cX11_digestOfHull 141 = .ok (.iload 4, 2) := by decide +kernel
theorem dX11_digestOfHull_143 : decode cX11_digestOfHull 143 = .ok (.invokevirtual 190, 3) := by decide +kernel
theorem dX11_digestOfHull_146 : decode cX11_digestOfHull 146 = .ok (.i2l, 1) := by decide +kernel
theorem dX11_digestOfHull_147 : decode cX11_digestOfHull 147 = .ok (.ladd, 1) := by decide +kernel
theorem dX11_digestOfHull_148 : decode cX11_digestOfHull 148 = .ok (.lreturn, 1) := by decide +kernel
theorem dX11_forgetAll_0 : decode cX11_forgetAll 0 = .ok (.iconst 0, 1) := by decide +kernel
theorem dX11_forgetAll_1 : decode cX11_forgetAll 1 = .ok (.istore_n 1, 1) := by decide +kernel
theorem dX11_forgetAll_2 : decode cX11_forgetAll 2 = .ok (.iload_n 1, 1) := by decide +kernel
theorem dX11_forgetAll_3 : decode cX11_forgetAll 3 = .ok (.aload_n 0, 1) := by decide +kernel
theorem dX11_forgetAll_4 : decode cX11_forgetAll 4 = .ok (.getfield 15, 3) := by decide +kernel
theorem dX11_forgetAll_7 : decode cX11_forgetAll 7 = .ok (.arraylength, 1) := by decide +kernel
theorem dX11_forgetAll_8 : decode cX11_forgetAll 8 = .ok (.if_icmp .ge 16, 3) := by decide +kernel
theorem dX11_forgetAll_11 : decode cX11_forgetAll 11 = .ok (.aload_n 0, 1) := by decide +kernel
theorem dX11_forgetAll_12 : decode cX11_forgetAll 12 = .ok (.getfield 15, 3) := by decide +kernel
theorem dX11_forgetAll_15 : decode cX11_forgetAll 15 = .ok (.iload_n 1, 1) := by decide +kernel
theorem dX11_forgetAll_16 : decode cX11_forgetAll 16 = .ok (.aconst_null, 1) := by decide +kernel
theorem dX11_forgetAll_17 : decode cX11_forgetAll 17 = .ok (.aastore, 1) := by decide +kernel
theorem dX11_forgetAll_18 : decode cX11_forgetAll 18 = .ok (.iinc 1 1, 3) := by decide +kernel
theorem dX11_forgetAll_21 : decode cX11_forgetAll 21 = .ok (.goto (-19), 3) := by decide +kernel
theorem dX11_forgetAll_24 : decode cX11_forgetAll 24 = .ok (.aload_n 0, 1) := by decide +kernel
theorem dX11_forgetAll_25 : decode cX11_forgetAll 25 = .ok (.iconst 0, 1) := by decide +kernel
theorem dX11_forgetAll_26 : decode cX11_forgetAll 26 = .ok (.putfield 126, 3) := by decide +kernel
theorem dX11_forgetAll_29 : decode cX11_forgetAll 29 = .ok (.aload_n 0, 1) := by decide +kernel
theorem dX11_forgetAll_30 : decode cX11_forgetAll 30 = .ok (.iconst 0, 1) := by decide +kernel
theorem dX11_forgetAll_31 : decode cX11_forgetAll 31 = .ok (.putfield 106, 3) := by decide +kernel
theorem dX11_forgetAll_34 : decode cX11_forgetAll 34 = .ok (.aload_n 0, 1) := by decide +kernel
theorem dX11_forgetAll_35 : decode cX11_forgetAll 35 = .ok (.getfield 59, 3) := by decide +kernel
theorem dX11_forgetAll_38 : decode cX11_forgetAll 38 = .ok (.iconst 4, 1) := by decide +kernel
theorem dX11_forgetAll_39 : decode cX11_forgetAll 39 = .ok (.putfield 123, 3) := by decide +kernel
theorem dX11_forgetAll_42 : decode cX11_forgetAll 42 = .ok (.aload_n 0, 1) := by decide +kernel
theorem dX11_forgetAll_43 : decode cX11_forgetAll 43 = .ok (.getfield 22, 3) := by decide +kernel
theorem dX11_forgetAll_46 : decode cX11_forgetAll 46 = .ok (.iconst 0, 1) := by decide +kernel
theorem dX11_forgetAll_47 : decode cX11_forgetAll 47 = .ok (.putfield 189, 3) := by decide +kernel
theorem dX11_forgetAll_50 : decode cX11_forgetAll 50 = .ok (.aload_n 0, 1) := by decide +kernel
theorem dX11_forgetAll_51 : decode cX11_forgetAll 51 = .ok (.getfield 29, 3) := by decide +kernel
theorem dX11_forgetAll_54 : decode cX11_forgetAll 54 = .ok (.iconst 0, 1) := by decide +kernel
theorem dX11_forgetAll_55 : decode cX11_forgetAll 55 = .ok (.putfield 224, 3) := by decide +kernel
theorem dX11_forgetAll_58 : decode cX11_forgetAll 58 = .ok (.return_, 1) := by decide +kernel
theorem dX11_hasPlain_0 : decode cX11_hasPlain 0 = .ok (.aload_n 0, 1) := by decide +kernel
theorem dX11_hasPlain_1 : decode cX11_hasPlain 1 = .ok (.getfield 59, 3) := by decide +kernel
theorem dX11_hasPlain_4 : decode cX11_hasPlain 4 = .ok (.getfield 96, 3) := by decide +kernel
theorem dX11_hasPlain_7 : decode cX11_hasPlain 7 = .ok (.ifCond .le 7, 3) := by decide +kernel
theorem dX11_hasPlain_10 : decode cX11_hasPlain 10 = .ok (.iconst 1, 1) := by decide +kernel
theorem dX11_hasPlain_11 : decode cX11_hasPlain 11 = .ok (.goto 4, 3) := by decide +kernel
theorem dX11_hasPlain_14 : decode cX11_hasPlain 14 = .ok (.iconst 0, 1) := by decide +kernel
theorem dX11_hasPlain_15 : decode cX11_hasPlain 15 = .ok (.ireturn, 1) := by decide +kernel
theorem dX11_isThere_0 : decode cX11_isThere 0 = .ok (.aload_n 0, 1) := by decide +kernel
theorem dX11_isThere_1 : decode cX11_isThere 1 = .ok (.invokevirtual 119, 3) := by decide +kernel
theorem dX11_isThere_4 : decode cX11_isThere 4 = .ok (.ifCond .eq 14, 3) := by decide +kernel
theorem dX11_isThere_7 : decode cX11_isThere 7 = .ok (.iload_n 1, 1) := by decide +kernel
theorem dX11_isThere_8 : decode cX11_isThere 8 = .ok (.invokestatic 259, 3) := by decide +kernel
theorem dX11_isThere_11 : decode cX11_isThere 11 = .ok (.ifCond .eq 7, 3) := by decide +kernel
theorem dX11_isThere_14 : decode cX11_isThere 14 = .ok (.iconst 1, 1) := by decide +kernel
theorem dX11_isThere_15 : decode cX11_isThere 15 = .ok (.goto 4, 3) := by decide +kernel
theorem dX11_isThere_18 : decode cX11_isThere 18 = .ok (.iconst 0, 1) := by decide +kernel
theorem dX11_isThere_19 : decode cX11_isThere 19 = .ok (.ireturn, 1) := by decide +kernel
theorem dX11_hullNumbered_0 : decode cX11_hullNumbered 0 = .ok (.iload_n 1, 1) := by decide +kernel
theorem dX11_hullNumbered_1 : decode cX11_hullNumbered 1 = .ok (.ifCond .lt 20, 3) := by decide +kernel
theorem dX11_hullNumbered_4 : decode cX11_hullNumbered 4 = .ok (.iload_n 1, 1) := by decide +kernel
theorem dX11_hullNumbered_5 : decode cX11_hullNumbered 5 = .ok (.aload_n 0, 1) := by decide +kernel
theorem dX11_hullNumbered_6 : decode cX11_hullNumbered 6 = .ok (.getfield 126, 3) := by decide +kernel
theorem dX11_hullNumbered_9 : decode cX11_hullNumbered 9 = .ok (.if_icmp .ge 12, 3) := by decide +kernel
theorem dX11_hullNumbered_12 : decode cX11_hullNumbered 12 = .ok (.iload_n 1, 1) := by decide +kernel
theorem dX11_hullNumbered_13 : decode cX11_hullNumbered 13 = .ok (.aload_n 0, 1) := by decide +kernel
theorem dX11_hullNumbered_14 : decode cX11_hullNumbered 14 = .ok (.getfield 15, 3) := by decide +kernel
theorem dX11_hullNumbered_17 : decode cX11_hullNumbered 17 = .ok (.arraylength, 1) := by decide +kernel
theorem dX11_hullNumbered_18 : decode cX11_hullNumbered 18 = .ok (.if_icmp .lt 5, 3) := by decide +kernel
theorem dX11_hullNumbered_21 : decode cX11_hullNumbered 21 = .ok (.aconst_null, 1) := by decide +kernel
theorem dX11_hullNumbered_22 : decode cX11_hullNumbered 22 = .ok (.areturn, 1) := by decide +kernel
theorem dX11_hullNumbered_23 : decode cX11_hullNumbered 23 = .ok (.aload_n 0, 1) := by decide +kernel
theorem dX11_hullNumbered_24 : decode cX11_hullNumbered 24 = .ok (.getfield 15, 3) := by decide +kernel
theorem dX11_hullNumbered_27 : decode cX11_hullNumbered 27 = .ok (.iload_n 1, 1) := by decide +kernel
theorem dX11_hullNumbered_28 : decode cX11_hullNumbered 28 = .ok (.aaload, 1) := by decide +kernel
theorem dX11_hullNumbered_29 : decode cX11_hullNumbered 29 = .ok (.areturn, 1) := by decide +kernel
theorem dX11_digitAt_0 : decode cX11_digitAt 0 = .ok (.iload_n 1, 1) := by decide +kernel
theorem dX11_digitAt_1 : decode cX11_digitAt 1 = .ok (.ifCond .lt 24, 3) := by decide +kernel
theorem dX11_digitAt_4 : decode cX11_digitAt 4 = .ok (.iload_n 1, 1) := by decide +kernel
theorem dX11_digitAt_5 : decode cX11_digitAt 5 = .ok (.aload_n 0, 1) := by decide +kernel
theorem dX11_digitAt_6 : decode cX11_digitAt 6 = .ok (.getfield 9, 3) := by decide +kernel
theorem dX11_digitAt_9 : decode cX11_digitAt 9 = .ok (.arraylength, 1) := by decide +kernel
theorem dX11_digitAt_10 : decode cX11_digitAt 10 = .ok (.if_icmp .ge 15, 3) := by decide +kernel
theorem dX11_digitAt_13 : decode cX11_digitAt 13 = .ok (.aload_n 0, 1) := by decide +kernel
theorem dX11_digitAt_14 : decode cX11_digitAt 14 = .ok (.getfield 9, 3) := by decide +kernel
theorem dX11_digitAt_17 : decode cX11_digitAt 17 = .ok (.iload_n 1, 1) := by decide +kernel
theorem dX11_digitAt_18 : decode cX11_digitAt 18 = .ok (.iaload, 1) := by decide +kernel
theorem dX11_digitAt_19 : decode cX11_digitAt 19 = .ok (.bipush 48, 2) := by decide +kernel
theorem dX11_digitAt_21 : decode cX11_digitAt 21 = .ok (.isub, 1) := by decide +kernel
theorem dX11_digitAt_22 : decode cX11_digitAt 22 = .ok (.goto 4, 3) := by decide +kernel
theorem dX11_digitAt_25 : decode cX11_digitAt 25 = .ok (.iconst 0, 1) := by decide +kernel
theorem dX11_digitAt_26 : decode cX11_digitAt 26 = .ok (.ireturn, 1) := by decide +kernel
theorem dX11_hullsOn_0 : decode cX11_hullsOn 0 = .ok (.iconst 0, 1) := by decide +kernel
theorem dX11_hullsOn_1 : decode cX11_hullsOn 1 = .ok (.istore_n 2, 1) := by decide +kernel
theorem dX11_hullsOn_2 : decode cX11_hullsOn 2 = .ok (.iconst 0, 1) := by decide +kernel
theorem dX11_hullsOn_3 : decode cX11_hullsOn 3 = .ok (.istore_n 3, 1) := by decide +kernel
theorem dX11_hullsOn_4 : decode cX11_hullsOn 4 = .ok (.iload_n 3, 1) := by decide +kernel
theorem dX11_hullsOn_5 : decode cX11_hullsOn 5 = .ok (.aload_n 0, 1) := by decide +kernel
theorem dX11_hullsOn_6 : decode cX11_hullsOn 6 = .ok (.getfield 15, 3) := by decide +kernel
theorem dX11_hullsOn_9 : decode cX11_hullsOn 9 = .ok (.arraylength, 1) := by decide +kernel
theorem dX11_hullsOn_10 : decode cX11_hullsOn 10 = .ok (.if_icmp .ge 34, 3) := by decide +kernel
theorem dX11_hullsOn_13 : decode cX11_hullsOn 13 = .ok (.aload_n 0, 1) := by decide +kernel
theorem dX11_hullsOn_14 : decode cX11_hullsOn 14 = .ok (.getfield 15, 3) := by decide +kernel
theorem dX11_hullsOn_17 : decode cX11_hullsOn 17 = .ok (.iload_n 3, 1) := by decide +kernel
theorem dX11_hullsOn_18 : decode cX11_hullsOn 18 = .ok (.aaload, 1) := by decide +kernel
theorem dX11_hullsOn_19 : decode cX11_hullsOn 19 = .ok (.astore 4, 2) := by decide +kernel
theorem dX11_hullsOn_21 : decode cX11_hullsOn 21 = .ok (.aload 4, 2) := by decide +kernel
theorem dX11_hullsOn_23 : decode cX11_hullsOn 23 = .ok (.ifnull 15, 3) := by decide +kernel
theorem dX11_hullsOn_26 : decode cX11_hullsOn 26 = .ok (.aload 4, 2) := by decide +kernel
theorem dX11_hullsOn_28 : decode cX11_hullsOn 28 = .ok (.getfield 143, 3) := by decide +kernel
theorem dX11_hullsOn_31 : decode cX11_hullsOn 31 = .ok (.iload_n 1, 1) := by decide +kernel
theorem dX11_hullsOn_32 : decode cX11_hullsOn 32 = .ok (.if_icmp .ne 6, 3) := by decide +kernel
theorem dX11_hullsOn_35 : decode cX11_hullsOn 35 = .ok (.iinc 2 1, 3) := by decide +kernel
theorem dX11_hullsOn_38 : decode cX11_hullsOn 38 = .ok (.iinc 3 1, 3) := by decide +kernel
theorem dX11_hullsOn_41 : decode cX11_hullsOn 41 = .ok (.goto (-37), 3) := by decide +kernel
theorem dX11_hullsOn_44 : decode cX11_hullsOn 44 = .ok (.iload_n 2, 1) := by decide +kernel
theorem dX11_hullsOn_45 : decode cX11_hullsOn 45 = .ok (.ireturn, 1) := by decide +kernel
theorem dX11_strandedHulls_0 : decode cX11_strandedHulls 0 = .ok (.iconst 0, 1) := by decide +kernel
theorem dX11_strandedHulls_1 : decode cX11_strandedHulls 1 = .ok (.istore_n 1, 1) := by decide +kernel
theorem dX11_strandedHulls_2 : decode cX11_strandedHulls 2 = .ok (.iconst 0, 1) := by decide +kernel
theorem dX11_strandedHulls_3 : decode cX11_strandedHulls 3 = .ok (.istore_n 2, 1) := by decide +kernel
theorem dX11_strandedHulls_4 : decode cX11_strandedHulls 4 = .ok (.iload_n 2, 1) := by decide +kernel
theorem dX11_strandedHulls_5 : decode cX11_strandedHulls 5 = .ok (.aload_n 0, 1) := by decide +kernel
theorem dX11_strandedHulls_6 : decode cX11_strandedHulls 6 = .ok (.getfield 15, 3) := by decide +kernel
theorem dX11_strandedHulls_9 : decode cX11_strandedHulls 9 = .ok (.arraylength, 1) := by decide +kernel
theorem dX11_strandedHulls_10 : decode cX11_strandedHulls 10 = .ok (.if_icmp .ge 42, 3) := by decide +kernel
theorem dX11_strandedHulls_13 : decode cX11_strandedHulls 13 = .ok (.aload_n 0, 1) := by decide +kernel
theorem dX11_strandedHulls_14 : decode cX11_strandedHulls 14 = .ok (.getfield 15, 3) := by decide +kernel
theorem dX11_strandedHulls_17 : decode cX11_strandedHulls 17 = .ok (.iload_n 2, 1) := by decide +kernel
theorem dX11_strandedHulls_18 : decode cX11_strandedHulls 18 = .ok (.aaload, 1) := by decide +kernel
theorem dX11_strandedHulls_19 : decode cX11_strandedHulls 19 = .ok (.astore_n 3, 1) := by decide +kernel
theorem dX11_strandedHulls_20 : decode cX11_strandedHulls 20 = .ok (.aload_n 3, 1) := by decide +kernel
theorem dX11_strandedHulls_21 : decode cX11_strandedHulls 21 = .ok (.ifnull 25, 3) := by decide +kernel
theorem dX11_strandedHulls_24 : decode cX11_strandedHulls 24 = .ok (.aload_n 0, 1) := by decide +kernel
theorem dX11_strandedHulls_25 : decode cX11_strandedHulls 25 = .ok (.getfield 59, 3) := by decide +kernel
theorem dX11_strandedHulls_28 : decode cX11_strandedHulls 28 = .ok (.aload_n 3, 1) := by decide +kernel
theorem dX11_strandedHulls_29 : decode cX11_strandedHulls 29 = .ok (.aload_n 3, 1) := by decide +kernel
theorem dX11_strandedHulls_30 : decode cX11_strandedHulls 30 = .ok (.getfield 143, 3) := by decide +kernel
theorem dX11_strandedHulls_33 : decode cX11_strandedHulls 33 = .ok (.aload_n 0, 1) := by decide +kernel
theorem dX11_strandedHulls_34 : decode cX11_strandedHulls 34 = .ok (.getfield 106, 3) := by decide +kernel
theorem dX11_strandedHulls_37 : decode cX11_strandedHulls 37 = .ok (.invokevirtual 146, 3) := by decide +kernel
theorem dX11_strandedHulls_40 : decode cX11_strandedHulls 40 = .ok (.ifCond .ne 6, 3) := by decide +kernel
theorem dX11_strandedHulls_43 : decode cX11_strandedHulls 43 = .ok (.iinc 1 1, 3) := by decide +kernel
theorem dX11_strandedHulls_46 : decode cX11_strandedHulls 46 = .ok (.iinc 2 1, 3) := by decide +kernel
theorem dX11_strandedHulls_49 : decode cX11_strandedHulls 49 = .ok (.goto (-45), 3) := by decide +kernel
theorem dX11_strandedHulls_52 : decode cX11_strandedHulls 52 = .ok (.iload_n 1, 1) := by decide +kernel
theorem dX11_strandedHulls_53 : decode cX11_strandedHulls 53 = .ok (.ireturn, 1) := by decide +kernel
theorem dX11_cutCells_0 : decode cX11_cutCells 0 = .ok (.aload_n 0, 1) := by decide +kernel
theorem dX11_cutCells_1 : decode cX11_cutCells 1 = .ok (.invokevirtual 119, 3) := by decide +kernel
theorem dX11_cutCells_4 : decode cX11_cutCells 4 = .ok (.ifCond .ne 5, 3) := by decide +kernel
theorem dX11_cutCells_7 : decode cX11_cutCells 7 = .ok (.iconst 0, 1) := by decide +kernel
theorem dX11_cutCells_8 : decode cX11_cutCells 8 = .ok (.ireturn, 1) := by decide +kernel
theorem dX11_cutCells_9 : decode cX11_cutCells 9 = .ok (.iconst 0, 1) := by decide +kernel
theorem dX11_cutCells_10 : decode cX11_cutCells 10 = .ok (.istore_n 1, 1) := by decide +kernel
theorem dX11_cutCells_11 : decode cX11_cutCells 11 = .ok (.iconst 0, 1) := by decide +kernel
theorem dX11_cutCells_12 : decode cX11_cutCells 12 = .ok (.istore_n 2, 1) := by decide +kernel
theorem dX11_cutCells_13 : decode cX11_cutCells 13 = .ok (.iload_n 2, 1) := by decide +kernel
theorem dX11_cutCells_14 : decode cX11_cutCells 14 = .ok (.bipush 12, 2) := by decide +kernel
theorem dX11_cutCells_16 : decode cX11_cutCells 16 = .ok (.if_icmp .ge 27, 3) := by decide +kernel
theorem dX11_cutCells_19 : decode cX11_cutCells 19 = .ok (.aload_n 0, 1) := by decide +kernel
theorem dX11_cutCells_20 : decode cX11_cutCells 20 = .ok (.getfield 106, 3) := by decide +kernel
theorem dX11_cutCells_23 : decode cX11_cutCells 23 = .ok (.aload_n 0, 1) := by decide +kernel
theorem dX11_cutCells_24 : decode cX11_cutCells 24 = .ok (.getfield 59, 3) := by decide +kernel
theorem dX11_cutCells_27 : decode cX11_cutCells 27 = .ok (.iload_n 2, 1) := by decide +kernel
theorem dX11_cutCells_28 : decode cX11_cutCells 28 = .ok (.invokevirtual 113, 3) := by decide +kernel
theorem dX11_cutCells_31 : decode cX11_cutCells 31 = .ok (.if_icmp .lt 6, 3) := by decide +kernel
theorem dX11_cutCells_34 : decode cX11_cutCells 34 = .ok (.iinc 1 1, 3) := by decide +kernel
theorem dX11_cutCells_37 : decode cX11_cutCells 37 = .ok (.iinc 2 1, 3) := by decide +kernel
theorem dX11_cutCells_40 : decode cX11_cutCells 40 = .ok (.goto (-27), 3) := by decide +kernel
theorem dX11_cutCells_43 : decode cX11_cutCells 43 = .ok (.iload_n 1, 1) := by decide +kernel
theorem dX11_cutCells_44 : decode cX11_cutCells 44 = .ok (.ireturn, 1) := by decide +kernel
theorem dX11_fits_0 : decode cX11_fits 0 = .ok (.iload_n 0, 1) := by decide +kernel
theorem dX11_fits_1 : decode cX11_fits 1 = .ok (.ifCond .lt 12, 3) := by decide +kernel
theorem dX11_fits_4 : decode cX11_fits 4 = .ok (.iload_n 0, 1) := by decide +kernel
theorem dX11_fits_5 : decode cX11_fits 5 = .ok (.ldc 74, 2) := by decide +kernel
theorem dX11_fits_7 : decode cX11_fits 7 = .ok (.invokevirtual 76, 3) := by decide +kernel
theorem dX11_fits_10 : decode cX11_fits 10 = .ok (.if_icmp .lt 5, 3) := by decide +kernel
theorem dX11_fits_13 : decode cX11_fits 13 = .ok (.iconst 0, 1) := by decide +kernel
theorem dX11_fits_14 : decode cX11_fits 14 = .ok (.ireturn, 1) := by decide +kernel
theorem dX11_fits_15 : decode cX11_fits 15 = .ok (.ldc 74, 2) := by decide +kernel
theorem dX11_fits_17 : decode cX11_fits 17 = .ok (.iload_n 0, 1) := by decide +kernel
theorem dX11_fits_18 : decode cX11_fits 18 = .ok (.invokevirtual 262, 3) := by decide +kernel
theorem dX11_fits_21 : decode cX11_fits 21 = .ok (.istore_n 2, 1) := by decide +kernel
theorem dX11_fits_22 : decode cX11_fits 22 = .ok (.iload_n 2, 1) := by decide +kernel
theorem dX11_fits_23 : decode cX11_fits 23 = .ok (.bipush 48, 2) := by decide +kernel
theorem dX11_fits_25 : decode cX11_fits 25 = .ok (.if_icmp .eq 9, 3) := by decide +kernel
theorem dX11_fits_28 : decode cX11_fits 28 = .ok (.iload_n 2, 1) := by decide +kernel
theorem dX11_fits_29 : decode cX11_fits 29 = .ok (.bipush 49, 2) := by decide +kernel
theorem dX11_fits_31 : decode cX11_fits 31 = .ok (.if_icmp .ne 20, 3) := by decide +kernel
theorem dX11_fits_34 : decode cX11_fits 34 = .ok (.iload_n 1, 1) := by decide +kernel
theorem dX11_fits_35 : decode cX11_fits 35 = .ok (.iload_n 2, 1) := by decide +kernel
theorem dX11_fits_36 : decode cX11_fits 36 = .ok (.if_icmp .lt 13, 3) := by decide +kernel
theorem dX11_fits_39 : decode cX11_fits 39 = .ok (.iload_n 1, 1) := by decide +kernel
theorem dX11_fits_40 : decode cX11_fits 40 = .ok (.bipush 57, 2) := by decide +kernel
theorem dX11_fits_42 : decode cX11_fits 42 = .ok (.if_icmp .gt 7, 3) := by decide +kernel
theorem dX11_fits_45 : decode cX11_fits 45 = .ok (.iconst 1, 1) := by decide +kernel
theorem dX11_fits_46 : decode cX11_fits 46 = .ok (.goto 4, 3) := by decide +kernel
theorem dX11_fits_49 : decode cX11_fits 49 = .ok (.iconst 0, 1) := by decide +kernel
theorem dX11_fits_50 : decode cX11_fits 50 = .ok (.ireturn, 1) := by decide +kernel
theorem dX11_fits_51 : decode cX11_fits 51 = .ok (.iload_n 1, 1) := by decide +kernel
theorem dX11_fits_52 : decode cX11_fits 52 = .ok (.iload_n 2, 1) := by decide +kernel
theorem dX11_fits_53 : decode cX11_fits 53 = .ok (.if_icmp .ne 7, 3) := by decide +kernel
theorem dX11_fits_56 : decode cX11_fits 56 = .ok (.iconst 1, 1) := by decide +kernel
theorem dX11_fits_57 : decode cX11_fits 57 = .ok (.goto 4, 3) := by decide +kernel
theorem dX11_fits_60 : decode cX11_fits 60 = .ok (.iconst 0, 1) := by decide +kernel
theorem dX11_fits_61 : decode cX11_fits 61 = .ok (.ireturn, 1) := by decide +kernel
theorem dX11_isCell_0 : decode cX11_isCell 0 = .ok (.iload_n 0, 1) := by decide +kernel
theorem dX11_isCell_1 : decode cX11_isCell 1 = .ok (.ifCond .lt 13, 3) := by decide +kernel
theorem dX11_isCell_4 : decode cX11_isCell 4 = .ok (.iload_n 0, 1) := by decide +kernel
theorem dX11_isCell_5 : decode cX11_isCell 5 = .ok (.bipush 12, 2) := by decide +kernel
theorem dX11_isCell_7 : decode cX11_isCell 7 = .ok (.if_icmp .ge 7, 3) := by decide +kernel
theorem dX11_isCell_10 : decode cX11_isCell 10 = .ok (.iconst 1, 1) := by decide +kernel
theorem dX11_isCell_11 : decode cX11_isCell 11 = .ok (.goto 4, 3) := by decide +kernel
theorem dX11_isCell_14 : decode cX11_isCell 14 = .ok (.iconst 0, 1) := by decide +kernel
theorem dX11_isCell_15 : decode cX11_isCell 15 = .ok (.ireturn, 1) := by decide +kernel
theorem dX11_beside_0 : decode cX11_beside 0 = .ok (.iload_n 0, 1) := by decide +kernel
theorem dX11_beside_1 : decode cX11_beside 1 = .ok (.invokestatic 259, 3) := by decide +kernel
theorem dX11_beside_4 : decode cX11_beside 4 = .ok (.ifCond .ne 5, 3) := by decide +kernel
theorem dX11_beside_7 : decode cX11_beside 7 = .ok (.iconst (-1), 1) := by decide +kernel
theorem dX11_beside_8 : decode cX11_beside 8 = .ok (.ireturn, 1) := by decide +kernel
theorem dX11_beside_9 : decode cX11_beside 9 = .ok (.iload_n 1, 1) := by decide +kernel
theorem dX11_beside_10 : decode cX11_beside 10 = .ok (.tableswitch 89 0 3 #[30, 45, 61, 75], 30) := by decide +kernel
theorem dX11_beside_40 : decode cX11_beside 40 = .ok (.iload_n 0, 1) := by decide +kernel
theorem dX11_beside_41 : decode cX11_beside 41 = .ok (.iconst 4, 1) := by decide +kernel
theorem dX11_beside_42 : decode cX11_beside 42 = .ok (.irem, 1) := by decide +kernel
theorem dX11_beside_43 : decode cX11_beside 43 = .ok (.iconst 3, 1) := by decide +kernel
theorem dX11_beside_44 : decode cX11_beside 44 = .ok (.if_icmp .ge 9, 3) := by decide +kernel
theorem dX11_beside_47 : decode cX11_beside 47 = .ok (.iload_n 0, 1) := by decide +kernel
theorem dX11_beside_48 : decode cX11_beside 48 = .ok (.iconst 1, 1) := by decide +kernel
theorem dX11_beside_49 : decode cX11_beside 49 = .ok (.iadd, 1) := by decide +kernel
theorem dX11_beside_50 : decode cX11_beside 50 = .ok (.goto 4, 3) := by decide +kernel
theorem dX11_beside_53 : decode cX11_beside 53 = .ok (.iconst (-1), 1) := by decide +kernel
theorem dX11_beside_54 : decode cX11_beside 54 = .ok (.ireturn, 1) := by decide +kernel
theorem dX11_beside_55 : decode cX11_beside 55 = .ok (.iload_n 0, 1) := by decide +kernel
theorem dX11_beside_56 : decode cX11_beside 56 = .ok (.iconst 4, 1) := by decide +kernel
theorem dX11_beside_57 : decode cX11_beside 57 = .ok (.iadd, 1) := by decide +kernel
theorem dX11_beside_58 : decode cX11_beside 58 = .ok (.bipush 12, 2) := by decide +kernel
theorem dX11_beside_60 : decode cX11_beside 60 = .ok (.if_icmp .ge 9, 3) := by decide +kernel
theorem dX11_beside_63 : decode cX11_beside 63 = .ok (.iload_n 0, 1) := by decide +kernel
theorem dX11_beside_64 : decode cX11_beside 64 = .ok (.iconst 4, 1) := by decide +kernel
theorem dX11_beside_65 : decode cX11_beside 65 = .ok (.iadd, 1) := by decide +kernel
theorem dX11_beside_66 : decode cX11_beside 66 = .ok (.goto 4, 3) := by decide +kernel
theorem dX11_beside_69 : decode cX11_beside 69 = .ok (.iconst (-1), 1) := by decide +kernel
theorem dX11_beside_70 : decode cX11_beside 70 = .ok (.ireturn, 1) := by decide +kernel
theorem dX11_beside_71 : decode cX11_beside 71 = .ok (.iload_n 0, 1) := by decide +kernel
theorem dX11_beside_72 : decode cX11_beside 72 = .ok (.iconst 4, 1) := by decide +kernel
theorem dX11_beside_73 : decode cX11_beside 73 = .ok (.irem, 1) := by decide +kernel
theorem dX11_beside_74 : decode cX11_beside 74 = .ok (.ifCond .le 9, 3) := by decide +kernel
theorem dX11_beside_77 : decode cX11_beside 77 = .ok (.iload_n 0, 1) := by decide +kernel
theorem dX11_beside_78 : decode cX11_beside 78 = .ok (.iconst 1, 1) := by decide +kernel
theorem dX11_beside_79 : decode cX11_beside 79 = .ok (.isub, 1) := by decide +kernel
theorem dX11_beside_80 : decode cX11_beside 80 = .ok (.goto 4, 3) := by decide +kernel
theorem dX11_beside_83 : decode cX11_beside 83 = .ok (.iconst (-1), 1) := by decide +kernel
theorem dX11_beside_84 : decode cX11_beside 84 = .ok (.ireturn, 1) := by decide +kernel
theorem dX11_beside_85 : decode cX11_beside 85 = .ok (.iload_n 0, 1) := by decide +kernel
theorem dX11_beside_86 : decode cX11_beside 86 = .ok (.iconst 4, 1) := by decide +kernel
theorem dX11_beside_87 : decode cX11_beside 87 = .ok (.isub, 1) := by decide +kernel
theorem dX11_beside_88 : decode cX11_beside 88 = .ok (.ifCond .lt 9, 3) := by decide +kernel
theorem dX11_beside_91 : decode cX11_beside 91 = .ok (.iload_n 0, 1) := by decide +kernel
theorem dX11_beside_92 : decode cX11_beside 92 = .ok (.iconst 4, 1) := by decide +kernel
theorem dX11_beside_93 : decode cX11_beside 93 = .ok (.isub, 1) := by decide +kernel
theorem dX11_beside_94 : decode cX11_beside 94 = .ok (.goto 4, 3) := by decide +kernel
theorem dX11_beside_97 : decode cX11_beside 97 = .ok (.iconst (-1), 1) := by decide +kernel
theorem dX11_beside_98 : decode cX11_beside 98 = .ok (.ireturn, 1) := by decide +kernel
theorem dX11_beside_99 : decode cX11_beside 99 = .ok (.iconst (-1), 1) := by decide +kernel
theorem dX11_beside_100 : decode cX11_beside 100 = .ok (.ireturn, 1) := by decide +kernel
theorem dX11_built_0 : decode cX11_built 0 = .ok (.iload_n 0, 1) := by decide +kernel
theorem dX11_built_1 : decode cX11_built 1 = .ok (.tableswitch 71 1 4 #[31, 41, 51, 61], 31) := by decide +kernel
theorem dX11_built_32 : decode cX11_built 32 = .ok (.new 266, 3) := by decide +kernel
theorem dX11_built_35 : decode cX11_built 35 = .ok (.dup, 1) := by decide +kernel
theorem dX11_built_36 : decode cX11_built 36 = .ok (.iload_n 1, 1) := by decide +kernel
theorem dX11_built_37 : decode cX11_built 37 = .ok (.iload_n 2, 1) := by decide +kernel
theorem dX11_built_38 : decode cX11_built 38 = .ok (.invokespecial 268, 3) := by decide +kernel
theorem dX11_built_41 : decode cX11_built 41 = .ok (.areturn, 1) := by decide +kernel
theorem dX11_built_42 : decode cX11_built 42 = .ok (.new 270, 3) := by decide +kernel
theorem dX11_built_45 : decode cX11_built 45 = .ok (.dup, 1) := by decide +kernel
theorem dX11_built_46 : decode cX11_built 46 = .ok (.iload_n 1, 1) := by decide +kernel
theorem dX11_built_47 : decode cX11_built 47 = .ok (.iload_n 2, 1) := by decide +kernel
theorem dX11_built_48 : decode cX11_built 48 = .ok (.invokespecial 272, 3) := by decide +kernel
theorem dX11_built_51 : decode cX11_built 51 = .ok (.areturn, 1) := by decide +kernel
theorem dX11_built_52 : decode cX11_built 52 = .ok (.new 273, 3) := by decide +kernel
theorem dX11_built_55 : decode cX11_built 55 = .ok (.dup, 1) := by decide +kernel
theorem dX11_built_56 : decode cX11_built 56 = .ok (.iload_n 1, 1) := by decide +kernel
theorem dX11_built_57 : decode cX11_built 57 = .ok (.iload_n 2, 1) := by decide +kernel
theorem dX11_built_58 : decode cX11_built 58 = .ok (.invokespecial 275, 3) := by decide +kernel
theorem dX11_built_61 : decode cX11_built 61 = .ok (.areturn, 1) := by decide +kernel
theorem dX11_built_62 : decode cX11_built 62 = .ok (.new 276, 3) := by decide +kernel
theorem dX11_built_65 : decode cX11_built 65 = .ok (.dup, 1) := by decide +kernel
theorem dX11_built_66 : decode cX11_built 66 = .ok (.iload_n 1, 1) := by decide +kernel
theorem dX11_built_67 : decode cX11_built 67 = .ok (.iload_n 2, 1) := by decide +kernel
theorem dX11_built_68 : decode cX11_built 68 = .ok (.invokespecial 278, 3) := by decide +kernel
theorem dX11_built_71 : decode cX11_built 71 = .ok (.areturn, 1) := by decide +kernel
theorem dX11_built_72 : decode cX11_built 72 = .ok (.new 13, 3) := by decide +kernel
theorem dX11_built_75 : decode cX11_built 75 = .ok (.dup, 1) := by decide +kernel
theorem dX11_built_76 : decode cX11_built 76 = .ok (.iload_n 1, 1) := by decide +kernel
theorem dX11_built_77 : decode cX11_built 77 = .ok (.iload_n 2, 1) := by decide +kernel
theorem dX11_built_78 : decode cX11_built 78 = .ok (.invokespecial 279, 3) := by decide +kernel
theorem dX11_built_81 : decode cX11_built 81 = .ok (.areturn, 1) := by decide +kernel
theorem dX11_isKind_0 : decode cX11_isKind 0 = .ok (.iload_n 1, 1) := by decide +kernel
theorem dX11_isKind_1 : decode cX11_isKind 1 = .ok (.tableswitch 65 0 4 #[35, 45, 50, 55, 60], 35) := by decide +kernel
theorem dX11_isKind_36 : decode cX11_isKind 36 = .ok (.aload_n 0, 1) := by decide +kernel
theorem dX11_isKind_37 : decode cX11_isKind 37 = .ok (.ifnull 7, 3) := by decide +kernel
theorem dX11_isKind_40 : decode cX11_isKind 40 = .ok (.iconst 1, 1) := by decide +kernel
theorem dX11_isKind_41 : decode cX11_isKind 41 = .ok (.goto 4, 3) := by decide +kernel
theorem dX11_isKind_44 : decode cX11_isKind 44 = .ok (.iconst 0, 1) := by decide +kernel
theorem dX11_isKind_45 : decode cX11_isKind 45 = .ok (.ireturn, 1) := by decide +kernel
theorem dX11_isKind_46 : decode cX11_isKind 46 = .ok (.aload_n 0, 1) := by decide +kernel
theorem dX11_isKind_47 : decode cX11_isKind 47 = .ok (.instanceof 266, 3) := by decide +kernel
theorem dX11_isKind_50 : decode cX11_isKind 50 = .ok (.ireturn, 1) := by decide +kernel
theorem dX11_isKind_51 : decode cX11_isKind 51 = .ok (.aload_n 0, 1) := by decide +kernel
theorem dX11_isKind_52 : decode cX11_isKind 52 = .ok (.instanceof 270, 3) := by decide +kernel
theorem dX11_isKind_55 : decode cX11_isKind 55 = .ok (.ireturn, 1) := by decide +kernel
theorem dX11_isKind_56 : decode cX11_isKind 56 = .ok (.aload_n 0, 1) := by decide +kernel
theorem dX11_isKind_57 : decode cX11_isKind 57 = .ok (.instanceof 273, 3) := by decide +kernel
theorem dX11_isKind_60 : decode cX11_isKind 60 = .ok (.ireturn, 1) := by decide +kernel
theorem dX11_isKind_61 : decode cX11_isKind 61 = .ok (.aload_n 0, 1) := by decide +kernel
theorem dX11_isKind_62 : decode cX11_isKind 62 = .ok (.instanceof 276, 3) := by decide +kernel
theorem dX11_isKind_65 : decode cX11_isKind 65 = .ok (.ireturn, 1) := by decide +kernel
theorem dX11_isKind_66 : decode cX11_isKind 66 = .ok (.iconst 0, 1) := by decide +kernel
theorem dX11_isKind_67 : decode cX11_isKind 67 = .ok (.ireturn, 1) := by decide +kernel
theorem dX12_init_0 : decode cX12_init 0 = .ok (.aload_n 0, 1) := by decide +kernel
theorem dX12_init_1 : decode cX12_init 1 = .ok (.invokespecial 1, 3) := by decide +kernel
theorem dX12_init_4 : decode cX12_init 4 = .ok (.aload_n 0, 1) := by decide +kernel
theorem dX12_init_5 : decode cX12_init 5 = .ok (.bipush 18, 2) := by decide +kernel
theorem dX12_init_7 : decode cX12_init 7 = .ok (.newarray .int, 2) := by decide +kernel
theorem dX12_init_9 : decode cX12_init 9 = .ok (.putfield 7, 3) := by decide +kernel
theorem dX12_init_12 : decode cX12_init 12 = .ok (.aload_n 0, 1) := by decide +kernel
theorem dX12_init_13 : decode cX12_init 13 = .ok (.bipush 12, 2) := by decide +kernel
theorem dX12_init_15 : decode cX12_init 15 = .ok (.newarray .int, 2) := by decide +kernel
theorem dX12_init_17 : decode cX12_init 17 = .ok (.putfield 13, 3) := by decide +kernel
theorem dX12_init_20 : decode cX12_init 20 = .ok (.aload_n 0, 1) := by decide +kernel
theorem dX12_init_21 : decode cX12_init 21 = .ok (.bipush 12, 2) := by decide +kernel
theorem dX12_init_23 : decode cX12_init 23 = .ok (.newarray .int, 2) := by decide +kernel
theorem dX12_init_25 : decode cX12_init 25 = .ok (.putfield 16, 3) := by decide +kernel
theorem dX12_init_28 : decode cX12_init 28 = .ok (.aload_n 0, 1) := by decide +kernel
theorem dX12_init_29 : decode cX12_init 29 = .ok (.bipush 12, 2) := by decide +kernel
theorem dX12_init_31 : decode cX12_init 31 = .ok (.newarray .int, 2) := by decide +kernel
theorem dX12_init_33 : decode cX12_init 33 = .ok (.putfield 19, 3) := by decide +kernel
theorem dX12_init_36 : decode cX12_init 36 = .ok (.aload_n 0, 1) := by decide +kernel
theorem dX12_init_37 : decode cX12_init 37 = .ok (.bipush 12, 2) := by decide +kernel
theorem dX12_init_39 : decode cX12_init 39 = .ok (.newarray .int, 2) := by decide +kernel
theorem dX12_init_41 : decode cX12_init 41 = .ok (.putfield 22, 3) := by decide +kernel
theorem dX12_init_44 : decode cX12_init 44 = .ok (.aload_n 0, 1) := by decide +kernel
theorem dX12_init_45 : decode cX12_init 45 = .ok (.iconst 3, 1) := by decide +kernel
theorem dX12_init_46 : decode cX12_init 46 = .ok (.newarray .int, 2) := by decide +kernel
theorem dX12_init_48 : decode cX12_init 48 = .ok (.putfield 25, 3) := by decide +kernel
theorem dX12_init_51 : decode cX12_init 51 = .ok (.aload_n 0, 1) := by decide +kernel
theorem dX12_init_52 : decode cX12_init 52 = .ok (.iconst 3, 1) := by decide +kernel
theorem dX12_init_53 : decode cX12_init 53 = .ok (.newarray .int, 2) := by decide +kernel
theorem dX12_init_55 : decode cX12_init 55 = .ok (.putfield 28, 3) := by decide +kernel
theorem dX12_init_58 : decode cX12_init 58 = .ok (.aload_n 0, 1) := by decide +kernel
theorem dX12_init_59 : decode cX12_init 59 = .ok (.bipush 18, 2) := by decide +kernel
theorem dX12_init_61 : decode cX12_init 61 = .ok (.newarray .int, 2) := by decide +kernel
theorem dX12_init_63 : decode cX12_init 63 = .ok (.putfield 31, 3) := by decide +kernel
theorem dX12_init_66 : decode cX12_init 66 = .ok (.aload_n 0, 1) := by decide +kernel
theorem dX12_init_67 : decode cX12_init 67 = .ok (.bipush 48, 2) := by decide +kernel
theorem dX12_init_69 : decode cX12_init 69 = .ok (.newarray .int, 2) := by decide +kernel
theorem dX12_init_71 : decode cX12_init 71 = .ok (.putfield 34, 3) := by decide +kernel
theorem dX12_init_74 : decode cX12_init 74 = .ok (.aload_n 0, 1) := by decide +kernel
theorem dX12_init_75 : decode cX12_init 75 = .ok (.bipush 12, 2) := by decide +kernel
theorem dX12_init_77 : decode cX12_init 77 = .ok (.newarray .int, 2) := by decide +kernel
theorem dX12_init_79 : decode cX12_init 79 = .ok (.putfield 37, 3) := by decide +kernel
theorem dX12_init_82 : decode cX12_init 82 = .ok (.aload_n 0, 1) := by decide +kernel
theorem dX12_init_83 : decode cX12_init 83 = .ok (.bipush 12, 2) := by decide +kernel
theorem dX12_init_85 : decode cX12_init 85 = .ok (.newarray .int, 2) := by decide +kernel
theorem dX12_init_87 : decode cX12_init 87 = .ok (.putfield 40, 3) := by decide +kernel
theorem dX12_init_90 : decode cX12_init 90 = .ok (.aload_n 0, 1) := by decide +kernel
theorem dX12_init_91 : decode cX12_init 91 = .ok (.bipush 18, 2) := by decide +kernel
theorem dX12_init_93 : decode cX12_init 93 = .ok (.newarray .int, 2) := by decide +kernel
theorem dX12_init_95 : decode cX12_init 95 = .ok (.putfield 43, 3) := by decide +kernel
theorem dX12_init_98 : decode cX12_init 98 = .ok (.aload_n 0, 1) := by decide +kernel
theorem dX12_init_99 : decode cX12_init 99 = .ok (.iconst (-1), 1) := by decide +kernel
theorem dX12_init_100 : decode cX12_init 100 = .ok (.putfield 46, 3) := by decide +kernel
theorem dX12_init_103 : decode cX12_init 103 = .ok (.aload_n 0, 1) := by decide +kernel
theorem dX12_init_104 : decode cX12_init 104 = .ok (.iconst 4, 1) := by decide +kernel
theorem dX12_init_105 : decode cX12_init 105 = .ok (.putfield 50, 3) := by decide +kernel
theorem dX12_init_108 : decode cX12_init 108 = .ok (.return_, 1) := by decide +kernel
theorem dX12_in_0 : decode cX12_in 0 = .ok (.lload_n 0, 1) := by decide +kernel
theorem dX12_in_1 : decode cX12_in 1 = .ok (.lload_n 2, 1) := by decide +kernel
theorem dX12_in_2 : decode cX12_in 2 = .ok (.lcmp, 1) := by decide +kernel
theorem dX12_in_3 : decode cX12_in 3 = .ok (.ifCond .lt 14, 3) := by decide +kernel
theorem dX12_in_6 : decode cX12_in 6 = .ok (.lload_n 0, 1) := by decide +kernel
theorem dX12_in_7 : decode cX12_in 7 = .ok (.lload 4, 2) := by decide +kernel
theorem dX12_in_9 : decode cX12_in 9 = .ok (.lcmp, 1) := by decide +kernel
theorem dX12_in_10 : decode cX12_in 10 = .ok (.ifCond .gt 7, 3) := by decide +kernel
theorem dX12_in_13 : decode cX12_in 13 = .ok (.iconst 1, 1) := by decide +kernel
theorem dX12_in_14 : decode cX12_in 14 = .ok (.goto 4, 3) := by decide +kernel
theorem dX12_in_17 : decode cX12_in 17 = .ok (.iconst 0, 1) := by decide +kernel
theorem dX12_in_18 : decode cX12_in 18 = .ok (.ireturn, 1) := by decide +kernel
theorem dX12_letter_0 : decode cX12_letter 0 = .ok (.iload_n 1, 1) := by decide +kernel
theorem dX12_letter_1 : decode cX12_letter 1 = .ok (.i2l, 1) := by decide +kernel
theorem dX12_letter_2 : decode cX12_letter 2 = .ok (.lconst 1, 1) := by decide +kernel
theorem dX12_letter_3 : decode cX12_letter 3 = .ok (.ldc2_w 53, 3) := by decide +kernel
theorem dX12_letter_6 : decode cX12_letter 6 = .ok (.invokestatic 55, 3) := by decide +kernel
theorem dX12_letter_9 : decode cX12_letter 9 = .ok (.ifCond .ne 6, 3) := by decide +kernel
theorem dX12_letter_12 : decode cX12_letter 12 = .ok (.bipush (-102), 2) := by decide +kernel
theorem dX12_letter_14 : decode cX12_letter 14 = .ok (.ireturn, 1) := by decide +kernel
theorem dX12_letter_15 : decode cX12_letter 15 = .ok (.aload_n 0, 1) := by decide +kernel
theorem dX12_letter_16 : decode cX12_letter 16 = .ok (.getfield 59, 3) := by decide +kernel
theorem dX12_letter_19 : decode cX12_letter 19 = .ok (.bipush 18, 2) := by decide +kernel
theorem dX12_letter_21 : decode cX12_letter 21 = .ok (.if_icmp .ne 6, 3) := by decide +kernel
theorem dX12_letter_24 : decode cX12_letter 24 = .ok (.bipush (-104), 2) := by decide +kernel
theorem dX12_letter_26 : decode cX12_letter 26 = .ok (.ireturn, 1) := by decide +kernel
theorem dX12_letter_27 : decode cX12_letter 27 = .ok (.aload_n 0, 1) := by decide +kernel
theorem dX12_letter_28 : decode cX12_letter 28 = .ok (.getfield 7, 3) := by decide +kernel
theorem dX12_letter_31 : decode cX12_letter 31 = .ok (.aload_n 0, 1) := by decide +kernel
theorem dX12_letter_32 : decode cX12_letter 32 = .ok (.getfield 59, 3) := by decide +kernel
theorem dX12_letter_35 : decode cX12_letter 35 = .ok (.iload_n 1, 1) := by decide +kernel
theorem dX12_letter_36 : decode cX12_letter 36 = .ok (.iastore, 1) := by decide +kernel
theorem dX12_letter_37 : decode cX12_letter 37 = .ok (.aload_n 0, 1) := by decide +kernel
theorem dX12_letter_38 : decode cX12_letter 38 = .ok (.dup, 1) := by decide +kernel
theorem dX12_letter_39 : decode cX12_letter 39 = .ok (.getfield 59, 3) := by decide +kernel
theorem dX12_letter_42 : decode cX12_letter 42 = .ok (.iconst 1, 1) := by decide +kernel
theorem dX12_letter_43 : decode cX12_letter 43 = .ok (.iadd, 1) := by decide +kernel
theorem dX12_letter_44 : decode cX12_letter 44 = .ok (.putfield 59, 3) := by decide +kernel
theorem dX12_letter_47 : decode cX12_letter 47 = .ok (.aload_n 0, 1) := by decide +kernel
theorem dX12_letter_48 : decode cX12_letter 48 = .ok (.getfield 59, 3) := by decide +kernel
theorem dX12_letter_51 : decode cX12_letter 51 = .ok (.ireturn, 1) := by decide +kernel
theorem dX12_blank_0 : decode cX12_blank 0 = .ok (.aload_n 0, 1) := by decide +kernel
theorem dX12_blank_1 : decode cX12_blank 1 = .ok (.getfield 59, 3) := by decide +kernel
theorem dX12_blank_4 : decode cX12_blank 4 = .ok (.istore_n 1, 1) := by decide +kernel
theorem dX12_blank_5 : decode cX12_blank 5 = .ok (.aload_n 0, 1) := by decide +kernel
theorem dX12_blank_6 : decode cX12_blank 6 = .ok (.iconst 0, 1) := by decide +kernel
theorem dX12_blank_7 : decode cX12_blank 7 = .ok (.putfield 59, 3) := by decide +kernel
theorem dX12_blank_10 : decode cX12_blank 10 = .ok (.iload_n 1, 1) := by decide +kernel
theorem dX12_blank_11 : decode cX12_blank 11 = .ok (.ireturn, 1) := by decide +kernel
theorem dX12_isGood_0 : decode cX12_isGood 0 = .ok (.iload_n 0, 1) := by decide +kernel
theorem dX12_isGood_1 : decode cX12_isGood 1 = .ok (.bipush 13, 2) := by decide +kernel
theorem dX12_isGood_3 : decode cX12_isGood 3 = .ok (.if_icmp .le 50, 3) := by decide +kernel
theorem dX12_isGood_6 : decode cX12_isGood 6 = .ok (.iload_n 0, 1) := by decide +kernel
theorem dX12_isGood_7 : decode cX12_isGood 7 = .ok (.bipush 14, 2) := by decide +kernel
theorem dX12_isGood_9 : decode cX12_isGood 9 = .ok (.if_icmp .ne 17, 3) := by decide +kernel
theorem dX12_isGood_12 : decode cX12_isGood 12 = .ok (.iload_n 1, 1) := by decide +kernel
theorem dX12_isGood_13 : decode cX12_isGood 13 = .ok (.bipush 59, 2) := by decide +kernel
theorem dX12_isGood_15 : decode cX12_isGood 15 = .ok (.if_icmp .ne 7, 3) := by decide +kernel
theorem dX12_isGood_18 : decode cX12_isGood 18 = .ok (.iconst 1, 1) := by decide +kernel
theorem dX12_isGood_19 : decode cX12_isGood 19 = .ok (.goto 33, 3) := by decide +kernel
theorem dX12_isGood_22 : decode cX12_isGood 22 = .ok (.iconst 0, 1) := by decide +kernel
theorem dX12_isGood_23 : decode cX12_isGood 23 = .ok (.goto 29, 3) := by decide +kernel
theorem dX12_isGood_26 : decode cX12_isGood 26 = .ok (.iload_n 0, 1) := by decide +kernel
theorem dX12_isGood_27 : decode cX12_isGood 27 = .ok (.bipush 15, 2) := by decide +kernel
theorem dX12_isGood_29 : decode cX12_isGood 29 = .ok (.if_icmp .ne 22, 3) := by decide +kernel
theorem dX12_isGood_32 : decode cX12_isGood 32 = .ok (.iload_n 1, 1) := by decide +kernel
theorem dX12_isGood_33 : decode cX12_isGood 33 = .ok (.bipush 48, 2) := by decide +kernel
theorem dX12_isGood_35 : decode cX12_isGood 35 = .ok (.isub, 1) := by decide +kernel
theorem dX12_isGood_36 : decode cX12_isGood 36 = .ok (.i2l, 1) := by decide +kernel
theorem dX12_isGood_37 : decode cX12_isGood 37 = .ok (.lconst 1, 1) := by decide +kernel
theorem dX12_isGood_38 : decode cX12_isGood 38 = .ok (.ldc2_w 62, 3) := by decide +kernel
theorem dX12_isGood_41 : decode cX12_isGood 41 = .ok (.invokestatic 55, 3) := by decide +kernel
theorem dX12_isGood_44 : decode cX12_isGood 44 = .ok (.ifCond .eq 7, 3) := by decide +kernel
theorem dX12_isGood_47 : decode cX12_isGood 47 = .ok (.iconst 1, 1) := by decide +kernel
theorem dX12_isGood_48 : decode cX12_isGood 48 = .ok (.goto 4, 3) := by decide +kernel
theorem dX12_isGood_51 : decode cX12_isGood 51 = .ok (.iconst 0, 1) := by decide +kernel
theorem dX12_isGood_52 : decode cX12_isGood 52 = .ok (.ireturn, 1) := by decide +kernel
theorem dX12_isGood_53 : decode cX12_isGood 53 = .ok (.iload_n 0, 1) := by decide +kernel
theorem dX12_isGood_54 : decode cX12_isGood 54 = .ok (.iconst 5, 1) := by decide +kernel
theorem dX12_isGood_55 : decode cX12_isGood 55 = .ok (.irem, 1) := by decide +kernel
theorem dX12_isGood_56 : decode cX12_isGood 56 = .ok (.iconst 4, 1) := by decide +kernel
theorem dX12_isGood_57 : decode cX12_isGood 57 = .ok (.if_icmp .ne 17, 3) := by decide +kernel
theorem dX12_isGood_60 : decode cX12_isGood 60 = .ok (.iload_n 1, 1) := by decide +kernel
theorem dX12_isGood_61 : decode cX12_isGood 61 = .ok (.bipush 44, 2) := by decide +kernel
theorem dX12_isGood_63 : decode cX12_isGood 63 = .ok (.if_icmp .ne 7, 3) := by decide +kernel
theorem dX12_isGood_66 : decode cX12_isGood 66 = .ok (.iconst 1, 1) := by decide +kernel
theorem dX12_isGood_67 : decode cX12_isGood 67 = .ok (.goto 19, 3) := by decide +kernel
theorem dX12_isGood_70 : decode cX12_isGood 70 = .ok (.iconst 0, 1) := by decide +kernel
theorem dX12_isGood_71 : decode cX12_isGood 71 = .ok (.goto 15, 3) := by decide +kernel
theorem dX12_isGood_74 : decode cX12_isGood 74 = .ok (.iload_n 1, 1) := by decide +kernel
theorem dX12_isGood_75 : decode cX12_isGood 75 = .ok (.bipush 48, 2) := by decide +kernel
theorem dX12_isGood_77 : decode cX12_isGood 77 = .ok (.isub, 1) := by decide +kernel
theorem dX12_isGood_78 : decode cX12_isGood 78 = .ok (.i2l, 1) := by decide +kernel
theorem dX12_isGood_79 : decode cX12_isGood 79 = .ok (.lconst 0, 1) := by decide +kernel
theorem dX12_isGood_80 : decode cX12_isGood 80 = .ok (.ldc2_w 62, 3) := by decide +kernel
theorem dX12_isGood_83 : decode cX12_isGood 83 = .ok (.invokestatic 55, 3) := by decide +kernel
theorem dX12_isGood_86 : decode cX12_isGood 86 = .ok (.ireturn, 1) := by decide +kernel
theorem dX12_faultOf_0 : decode cX12_faultOf 0 = .ok (.iconst 0, 1) := by decide +kernel
theorem dX12_faultOf_1 : decode cX12_faultOf 1 = .ok (.istore_n 1, 1) := by decide +kernel
theorem dX12_faultOf_2 : decode cX12_faultOf 2 = .ok (.iload_n 1, 1) := by decide +kernel
theorem dX12_faultOf_3 : decode cX12_faultOf 3 = .ok (.aload_n 0, 1) := by decide +kernel
theorem dX12_faultOf_4 : decode cX12_faultOf 4 = .ok (.getfield 59, 3) := by decide +kernel
theorem dX12_faultOf_7 : decode cX12_faultOf 7 = .ok (.if_icmp .ge 22, 3) := by decide +kernel
theorem dX12_faultOf_10 : decode cX12_faultOf 10 = .ok (.iload_n 1, 1) := by decide +kernel
theorem dX12_faultOf_11 : decode cX12_faultOf 11 = .ok (.aload_n 0, 1) := by decide +kernel
theorem dX12_faultOf_12 : decode cX12_faultOf 12 = .ok (.getfield 7, 3) := by decide +kernel
theorem dX12_faultOf_15 : decode cX12_faultOf 15 = .ok (.iload_n 1, 1) := by decide +kernel
theorem dX12_faultOf_16 : decode cX12_faultOf 16 = .ok (.iaload, 1) := by decide +kernel
theorem dX12_faultOf_17 : decode cX12_faultOf 17 = .ok (.invokestatic 64, 3) := by decide +kernel
theorem dX12_faultOf_20 : decode cX12_faultOf 20 = .ok (.ifCond .eq 9, 3) := by decide +kernel
theorem dX12_faultOf_23 : decode cX12_faultOf 23 = .ok (.iinc 1 1, 3) := by decide +kernel
theorem dX12_faultOf_26 : decode cX12_faultOf 26 = .ok (.goto (-24), 3) := by decide +kernel
theorem dX12_faultOf_29 : decode cX12_faultOf 29 = .ok (.iload_n 1, 1) := by decide +kernel
theorem dX12_faultOf_30 : decode cX12_faultOf 30 = .ok (.ireturn, 1) := by decide +kernel
theorem dX12_fault_0 : decode cX12_fault 0 = .ok (.aload_n 0, 1) := by decide +kernel
theorem dX12_fault_1 : decode cX12_fault 1 = .ok (.invokevirtual 68, 3) := by decide +kernel
theorem dX12_fault_4 : decode cX12_fault 4 = .ok (.ireturn, 1) := by decide +kernel
theorem dX12_plain_0 : decode cX12_plain 0 = .ok (.aload_n 0, 1) := by decide +kernel
theorem dX12_plain_1 : decode cX12_plain 1 = .ok (.getfield 59, 3) := by decide +kernel
theorem dX12_plain_4 : decode cX12_plain 4 = .ok (.bipush 16, 2) := by decide +kernel
theorem dX12_plain_6 : decode cX12_plain 6 = .ok (.if_icmp .ne 12, 3) := by decide +kernel
theorem dX12_plain_9 : decode cX12_plain 9 = .ok (.aload_n 0, 1) := by decide +kernel
theorem dX12_plain_10 : decode cX12_plain 10 = .ok (.invokevirtual 68, 3) := by decide +kernel
theorem dX12_plain_13 : decode cX12_plain 13 = .ok (.bipush 16, 2) := by decide +kernel
theorem dX12_plain_15 : decode cX12_plain 15 = .ok (.if_icmp .ge 6, 3) := by decide +kernel
theorem dX12_plain_18 : decode cX12_plain 18 = .ok (.bipush (-103), 2) := by decide +kernel
theorem dX12_plain_20 : decode cX12_plain 20 = .ok (.ireturn, 1) := by decide +kernel
theorem dX12_plain_21 : decode cX12_plain 21 = .ok (.iconst 0, 1) := by decide +kernel
theorem dX12_plain_22 : decode cX12_plain 22 = .ok (.istore_n 1, 1) := by decide +kernel
theorem dX12_plain_23 : decode cX12_plain 23 = .ok (.iconst 0, 1) := by decide +kernel
theorem dX12_plain_24 : decode cX12_plain 24 = .ok (.istore_n 2, 1) := by decide +kernel
theorem dX12_plain_25 : decode cX12_plain 25 = .ok (.iload_n 2, 1) := by decide +kernel
theorem dX12_plain_26 : decode cX12_plain 26 = .ok (.bipush 12, 2) := by decide +kernel
theorem dX12_plain_28 : decode cX12_plain 28 = .ok (.if_icmp .ge 37, 3) := by decide +kernel
theorem dX12_plain_31 : decode cX12_plain 31 = .ok (.aload_n 0, 1) := by decide +kernel
theorem dX12_plain_32 : decode cX12_plain 32 = .ok (.getfield 13, 3) := by decide +kernel
end
section
theorem dX12_plain_35 : decode cX12_plain 35 = .ok (.iload_n 2, 1) := by decide +kernel
theorem dX12_plain_36 : decode cX12_plain 36 = .ok (.aload_n 0, 1) := by decide +kernel
theorem dX12_plain_37 : decode cX12_plain 37 = .ok (.getfield 7, 3) := by decide +kernel
theorem dX12_plain_40 : decode cX12_plain 40 = .ok (.iload_n 2, 1) := by decide +kernel
theorem dX12_plain_41 : decode cX12_plain 41 = .ok (.iload_n 2, 1) := by decide +kernel
theorem dX12_plain_42 : decode cX12_plain 42 = .ok (.iconst 4, 1) := by decide +kernel
theorem dX12_plain_43 : decode cX12_plain 43 = .ok (.idiv, 1) := by decide +kernel
theorem dX12_plain_44 : decode cX12_plain 44 = .ok (.iadd, 1) := by decide +kernel
theorem dX12_plain_45 : decode cX12_plain 45 = .ok (.iaload, 1) := by decide +kernel
theorem dX12_plain_46 : decode cX12_plain 46 = .ok (.bipush 48, 2) := by decide +kernel
theorem dX12_plain_48 : decode cX12_plain 48 = .ok (.isub, 1) := by decide +kernel
theorem dX12_plain_49 : decode cX12_plain 49 = .ok (.iastore, 1) := by decide +kernel
theorem dX12_plain_50 : decode cX12_plain 50 = .ok (.iload_n 1, 1) := by decide +kernel
theorem dX12_plain_51 : decode cX12_plain 51 = .ok (.aload_n 0, 1) := by decide +kernel
theorem dX12_plain_52 : decode cX12_plain 52 = .ok (.getfield 13, 3) := by decide +kernel
theorem dX12_plain_55 : decode cX12_plain 55 = .ok (.iload_n 2, 1) := by decide +kernel
theorem dX12_plain_56 : decode cX12_plain 56 = .ok (.iaload, 1) := by decide +kernel
theorem dX12_plain_57 : decode cX12_plain 57 = .ok (.iadd, 1) := by decide +kernel
theorem dX12_plain_58 : decode cX12_plain 58 = .ok (.istore_n 1, 1) := by decide +kernel
theorem dX12_plain_59 : decode cX12_plain 59 = .ok (.iinc 2 1, 3) := by decide +kernel
theorem dX12_plain_62 : decode cX12_plain 62 = .ok (.goto (-37), 3) := by decide +kernel
theorem dX12_plain_65 : decode cX12_plain 65 = .ok (.aload_n 0, 1) := by decide +kernel
theorem dX12_plain_66 : decode cX12_plain 66 = .ok (.aload_n 0, 1) := by decide +kernel
theorem dX12_plain_67 : decode cX12_plain 67 = .ok (.getfield 7, 3) := by decide +kernel
theorem dX12_plain_70 : decode cX12_plain 70 = .ok (.bipush 15, 2) := by decide +kernel
theorem dX12_plain_72 : decode cX12_plain 72 = .ok (.iaload, 1) := by decide +kernel
theorem dX12_plain_73 : decode cX12_plain 73 = .ok (.bipush 48, 2) := by decide +kernel
theorem dX12_plain_75 : decode cX12_plain 75 = .ok (.isub, 1) := by decide +kernel
theorem dX12_plain_76 : decode cX12_plain 76 = .ok (.putfield 72, 3) := by decide +kernel
theorem dX12_plain_79 : decode cX12_plain 79 = .ok (.aload_n 0, 1) := by decide +kernel
theorem dX12_plain_80 : decode cX12_plain 80 = .ok (.iconst 0, 1) := by decide +kernel
theorem dX12_plain_81 : decode cX12_plain 81 = .ok (.putfield 75, 3) := by decide +kernel
theorem dX12_plain_84 : decode cX12_plain 84 = .ok (.aload_n 0, 1) := by decide +kernel
theorem dX12_plain_85 : decode cX12_plain 85 = .ok (.iconst 4, 1) := by decide +kernel
theorem dX12_plain_86 : decode cX12_plain 86 = .ok (.putfield 50, 3) := by decide +kernel
theorem dX12_plain_89 : decode cX12_plain 89 = .ok (.aload_n 0, 1) := by decide +kernel
theorem dX12_plain_90 : decode cX12_plain 90 = .ok (.iconst 0, 1) := by decide +kernel
theorem dX12_plain_91 : decode cX12_plain 91 = .ok (.putfield 78, 3) := by decide +kernel
theorem dX12_plain_94 : decode cX12_plain 94 = .ok (.aload_n 0, 1) := by decide +kernel
theorem dX12_plain_95 : decode cX12_plain 95 = .ok (.iconst 0, 1) := by decide +kernel
theorem dX12_plain_96 : decode cX12_plain 96 = .ok (.putfield 81, 3) := by decide +kernel
theorem dX12_plain_99 : decode cX12_plain 99 = .ok (.aload_n 0, 1) := by decide +kernel
theorem dX12_plain_100 : decode cX12_plain 100 = .ok (.dup, 1) := by decide +kernel
theorem dX12_plain_101 : decode cX12_plain 101 = .ok (.getfield 84, 3) := by decide +kernel
theorem dX12_plain_104 : decode cX12_plain 104 = .ok (.iconst 1, 1) := by decide +kernel
theorem dX12_plain_105 : decode cX12_plain 105 = .ok (.iadd, 1) := by decide +kernel
theorem dX12_plain_106 : decode cX12_plain 106 = .ok (.putfield 84, 3) := by decide +kernel
theorem dX12_plain_109 : decode cX12_plain 109 = .ok (.aload_n 0, 1) := by decide +kernel
theorem dX12_plain_110 : decode cX12_plain 110 = .ok (.iconst 0, 1) := by decide +kernel
theorem dX12_plain_111 : decode cX12_plain 111 = .ok (.putfield 59, 3) := by decide +kernel
theorem dX12_plain_114 : decode cX12_plain 114 = .ok (.iload_n 1, 1) := by decide +kernel
theorem dX12_plain_115 : decode cX12_plain 115 = .ok (.ireturn, 1) := by decide +kernel
theorem dX12_lacks_0 : decode cX12_lacks 0 = .ok (.aload_n 0, 1) := by decide +kernel
theorem dX12_lacks_1 : decode cX12_lacks 1 = .ok (.getfield 72, 3) := by decide +kernel
theorem dX12_lacks_4 : decode cX12_lacks 4 = .ok (.ifCond .ne 7, 3) := by decide +kernel
theorem dX12_lacks_7 : decode cX12_lacks 7 = .ok (.iconst 1, 1) := by decide +kernel
theorem dX12_lacks_8 : decode cX12_lacks 8 = .ok (.goto 4, 3) := by decide +kernel
theorem dX12_lacks_11 : decode cX12_lacks 11 = .ok (.iconst 0, 1) := by decide +kernel
theorem dX12_lacks_12 : decode cX12_lacks 12 = .ok (.ireturn, 1) := by decide +kernel
theorem dX12_isCell_0 : decode cX12_isCell 0 = .ok (.iload_n 1, 1) := by decide +kernel
theorem dX12_isCell_1 : decode cX12_isCell 1 = .ok (.i2l, 1) := by decide +kernel
theorem dX12_isCell_2 : decode cX12_isCell 2 = .ok (.lconst 0, 1) := by decide +kernel
theorem dX12_isCell_3 : decode cX12_isCell 3 = .ok (.ldc2_w 87, 3) := by decide +kernel
theorem dX12_isCell_6 : decode cX12_isCell 6 = .ok (.invokestatic 55, 3) := by decide +kernel
theorem dX12_isCell_9 : decode cX12_isCell 9 = .ok (.ifCond .eq 14, 3) := by decide +kernel
theorem dX12_isCell_12 : decode cX12_isCell 12 = .ok (.aload_n 0, 1) := by decide +kernel
theorem dX12_isCell_13 : decode cX12_isCell 13 = .ok (.invokevirtual 89, 3) := by decide +kernel
theorem dX12_isCell_16 : decode cX12_isCell 16 = .ok (.ifCond .ne 7, 3) := by decide +kernel
theorem dX12_isCell_19 : decode cX12_isCell 19 = .ok (.iconst 1, 1) := by decide +kernel
theorem dX12_isCell_20 : decode cX12_isCell 20 = .ok (.goto 4, 3) := by decide +kernel
theorem dX12_isCell_23 : decode cX12_isCell 23 = .ok (.iconst 0, 1) := by decide +kernel
theorem dX12_isCell_24 : decode cX12_isCell 24 = .ok (.ireturn, 1) := by decide +kernel
theorem dX12_highAt_0 : decode cX12_highAt 0 = .ok (.iload_n 2, 1) := by decide +kernel
theorem dX12_highAt_1 : decode cX12_highAt 1 = .ok (.iload_n 3, 1) := by decide +kernel
theorem dX12_highAt_2 : decode cX12_highAt 2 = .ok (.iload_n 1, 1) := by decide +kernel
theorem dX12_highAt_3 : decode cX12_highAt 3 = .ok (.iconst 1, 1) := by decide +kernel
theorem dX12_highAt_4 : decode cX12_highAt 4 = .ok (.iadd, 1) := by decide +kernel
theorem dX12_highAt_5 : decode cX12_highAt 5 = .ok (.imul, 1) := by decide +kernel
theorem dX12_highAt_6 : decode cX12_highAt 6 = .ok (.if_icmp .lt 7, 3) := by decide +kernel
theorem dX12_highAt_9 : decode cX12_highAt 9 = .ok (.iconst 0, 1) := by decide +kernel
theorem dX12_highAt_10 : decode cX12_highAt 10 = .ok (.goto 9, 3) := by decide +kernel
theorem dX12_highAt_13 : decode cX12_highAt 13 = .ok (.aload_n 0, 1) := by decide +kernel
theorem dX12_highAt_14 : decode cX12_highAt 14 = .ok (.getfield 13, 3) := by decide +kernel
theorem dX12_highAt_17 : decode cX12_highAt 17 = .ok (.iload_n 1, 1) := by decide +kernel
theorem dX12_highAt_18 : decode cX12_highAt 18 = .ok (.iaload, 1) := by decide +kernel
theorem dX12_highAt_19 : decode cX12_highAt 19 = .ok (.ireturn, 1) := by decide +kernel
theorem dX12_hullsAt_0 : decode cX12_hullsAt 0 = .ok (.iconst 0, 1) := by decide +kernel
theorem dX12_hullsAt_1 : decode cX12_hullsAt 1 = .ok (.istore_n 2, 1) := by decide +kernel
theorem dX12_hullsAt_2 : decode cX12_hullsAt 2 = .ok (.iconst 0, 1) := by decide +kernel
theorem dX12_hullsAt_3 : decode cX12_hullsAt 3 = .ok (.istore_n 3, 1) := by decide +kernel
theorem dX12_hullsAt_4 : decode cX12_hullsAt 4 = .ok (.iload_n 3, 1) := by decide +kernel
theorem dX12_hullsAt_5 : decode cX12_hullsAt 5 = .ok (.aload_n 0, 1) := by decide +kernel
theorem dX12_hullsAt_6 : decode cX12_hullsAt 6 = .ok (.getfield 78, 3) := by decide +kernel
theorem dX12_hullsAt_9 : decode cX12_hullsAt 9 = .ok (.if_icmp .ge 31, 3) := by decide +kernel
theorem dX12_hullsAt_12 : decode cX12_hullsAt 12 = .ok (.iload_n 2, 1) := by decide +kernel
theorem dX12_hullsAt_13 : decode cX12_hullsAt 13 = .ok (.aload_n 0, 1) := by decide +kernel
theorem dX12_hullsAt_14 : decode cX12_hullsAt 14 = .ok (.getfield 16, 3) := by decide +kernel
theorem dX12_hullsAt_17 : decode cX12_hullsAt 17 = .ok (.iconst 4, 1) := by decide +kernel
theorem dX12_hullsAt_18 : decode cX12_hullsAt 18 = .ok (.iload_n 3, 1) := by decide +kernel
theorem dX12_hullsAt_19 : decode cX12_hullsAt 19 = .ok (.imul, 1) := by decide +kernel
theorem dX12_hullsAt_20 : decode cX12_hullsAt 20 = .ok (.iconst 2, 1) := by decide +kernel
theorem dX12_hullsAt_21 : decode cX12_hullsAt 21 = .ok (.iadd, 1) := by decide +kernel
theorem dX12_hullsAt_22 : decode cX12_hullsAt 22 = .ok (.iaload, 1) := by decide +kernel
theorem dX12_hullsAt_23 : decode cX12_hullsAt 23 = .ok (.iload_n 1, 1) := by decide +kernel
theorem dX12_hullsAt_24 : decode cX12_hullsAt 24 = .ok (.if_icmp .ne 7, 3) := by decide +kernel
theorem dX12_hullsAt_27 : decode cX12_hullsAt 27 = .ok (.iconst 1, 1) := by decide +kernel
theorem dX12_hullsAt_28 : decode cX12_hullsAt 28 = .ok (.goto 4, 3) := by decide +kernel
theorem dX12_hullsAt_31 : decode cX12_hullsAt 31 = .ok (.iconst 0, 1) := by decide +kernel
theorem dX12_hullsAt_32 : decode cX12_hullsAt 32 = .ok (.iadd, 1) := by decide +kernel
theorem dX12_hullsAt_33 : decode cX12_hullsAt 33 = .ok (.istore_n 2, 1) := by decide +kernel
theorem dX12_hullsAt_34 : decode cX12_hullsAt 34 = .ok (.iinc 3 1, 3) := by decide +kernel
theorem dX12_hullsAt_37 : decode cX12_hullsAt 37 = .ok (.goto (-33), 3) := by decide +kernel
theorem dX12_hullsAt_40 : decode cX12_hullsAt 40 = .ok (.iload_n 2, 1) := by decide +kernel
theorem dX12_hullsAt_41 : decode cX12_hullsAt 41 = .ok (.ireturn, 1) := by decide +kernel
theorem dX12_tellCell_0 : decode cX12_tellCell 0 = .ok (.iload_n 2, 1) := by decide +kernel
theorem dX12_tellCell_1 : decode cX12_tellCell 1 = .ok (.tableswitch 67 0 3 #[31, 45, 52, 61], 31) := by decide +kernel
theorem dX12_tellCell_32 : decode cX12_tellCell 32 = .ok (.aload_n 0, 1) := by decide +kernel
theorem dX12_tellCell_33 : decode cX12_tellCell 33 = .ok (.iload_n 1, 1) := by decide +kernel
theorem dX12_tellCell_34 : decode cX12_tellCell 34 = .ok (.aload_n 0, 1) := by decide +kernel
theorem dX12_tellCell_35 : decode cX12_tellCell 35 = .ok (.getfield 75, 3) := by decide +kernel
theorem dX12_tellCell_38 : decode cX12_tellCell 38 = .ok (.aload_n 0, 1) := by decide +kernel
theorem dX12_tellCell_39 : decode cX12_tellCell 39 = .ok (.getfield 72, 3) := by decide +kernel
theorem dX12_tellCell_42 : decode cX12_tellCell 42 = .ok (.invokevirtual 93, 3) := by decide +kernel
theorem dX12_tellCell_45 : decode cX12_tellCell 45 = .ok (.ireturn, 1) := by decide +kernel
theorem dX12_tellCell_46 : decode cX12_tellCell 46 = .ok (.aload_n 0, 1) := by decide +kernel
theorem dX12_tellCell_47 : decode cX12_tellCell 47 = .ok (.getfield 13, 3) := by decide +kernel
theorem dX12_tellCell_50 : decode cX12_tellCell 50 = .ok (.iload_n 1, 1) := by decide +kernel
theorem dX12_tellCell_51 : decode cX12_tellCell 51 = .ok (.iaload, 1) := by decide +kernel
theorem dX12_tellCell_52 : decode cX12_tellCell 52 = .ok (.ireturn, 1) := by decide +kernel
theorem dX12_tellCell_53 : decode cX12_tellCell 53 = .ok (.aload_n 0, 1) := by decide +kernel
theorem dX12_tellCell_54 : decode cX12_tellCell 54 = .ok (.getfield 72, 3) := by decide +kernel
theorem dX12_tellCell_57 : decode cX12_tellCell 57 = .ok (.iload_n 1, 1) := by decide +kernel
theorem dX12_tellCell_58 : decode cX12_tellCell 58 = .ok (.iconst 1, 1) := by decide +kernel
theorem dX12_tellCell_59 : decode cX12_tellCell 59 = .ok (.iadd, 1) := by decide +kernel
theorem dX12_tellCell_60 : decode cX12_tellCell 60 = .ok (.imul, 1) := by decide +kernel
theorem dX12_tellCell_61 : decode cX12_tellCell 61 = .ok (.ireturn, 1) := by decide +kernel
theorem dX12_tellCell_62 : decode cX12_tellCell 62 = .ok (.aload_n 0, 1) := by decide +kernel
theorem dX12_tellCell_63 : decode cX12_tellCell 63 = .ok (.iload_n 1, 1) := by decide +kernel
theorem dX12_tellCell_64 : decode cX12_tellCell 64 = .ok (.invokevirtual 97, 3) := by decide +kernel
theorem dX12_tellCell_67 : decode cX12_tellCell 67 = .ok (.ireturn, 1) := by decide +kernel
theorem dX12_tellCell_68 : decode cX12_tellCell 68 = .ok (.bipush (-102), 2) := by decide +kernel
theorem dX12_tellCell_70 : decode cX12_tellCell 70 = .ok (.ireturn, 1) := by decide +kernel
theorem dX12_cell_0 : decode cX12_cell 0 = .ok (.aload_n 0, 1) := by decide +kernel
theorem dX12_cell_1 : decode cX12_cell 1 = .ok (.iload_n 1, 1) := by decide +kernel
theorem dX12_cell_2 : decode cX12_cell 2 = .ok (.invokevirtual 101, 3) := by decide +kernel
theorem dX12_cell_5 : decode cX12_cell 5 = .ok (.ifCond .eq 12, 3) := by decide +kernel
theorem dX12_cell_8 : decode cX12_cell 8 = .ok (.aload_n 0, 1) := by decide +kernel
theorem dX12_cell_9 : decode cX12_cell 9 = .ok (.iload_n 1, 1) := by decide +kernel
theorem dX12_cell_10 : decode cX12_cell 10 = .ok (.iload_n 2, 1) := by decide +kernel
theorem dX12_cell_11 : decode cX12_cell 11 = .ok (.invokevirtual 105, 3) := by decide +kernel
theorem dX12_cell_14 : decode cX12_cell 14 = .ok (.goto 5, 3) := by decide +kernel
theorem dX12_cell_17 : decode cX12_cell 17 = .ok (.bipush (-101), 2) := by decide +kernel
theorem dX12_cell_19 : decode cX12_cell 19 = .ok (.ireturn, 1) := by decide +kernel
theorem dX12_wind_0 : decode cX12_wind 0 = .ok (.iload_n 1, 1) := by decide +kernel
theorem dX12_wind_1 : decode cX12_wind 1 = .ok (.i2l, 1) := by decide +kernel
theorem dX12_wind_2 : decode cX12_wind 2 = .ok (.lconst 0, 1) := by decide +kernel
theorem dX12_wind_3 : decode cX12_wind 3 = .ok (.ldc2_w 109, 3) := by decide +kernel
theorem dX12_wind_6 : decode cX12_wind 6 = .ok (.invokestatic 55, 3) := by decide +kernel
theorem dX12_wind_9 : decode cX12_wind 9 = .ok (.ifCond .ne 6, 3) := by decide +kernel
theorem dX12_wind_12 : decode cX12_wind 12 = .ok (.bipush (-102), 2) := by decide +kernel
theorem dX12_wind_14 : decode cX12_wind 14 = .ok (.ireturn, 1) := by decide +kernel
theorem dX12_wind_15 : decode cX12_wind 15 = .ok (.aload_n 0, 1) := by decide +kernel
theorem dX12_wind_16 : decode cX12_wind 16 = .ok (.invokevirtual 89, 3) := by decide +kernel
theorem dX12_wind_19 : decode cX12_wind 19 = .ok (.ifCond .eq 6, 3) := by decide +kernel
theorem dX12_wind_22 : decode cX12_wind 22 = .ok (.bipush (-103), 2) := by decide +kernel
theorem dX12_wind_24 : decode cX12_wind 24 = .ok (.ireturn, 1) := by decide +kernel
theorem dX12_wind_25 : decode cX12_wind 25 = .ok (.aload_n 0, 1) := by decide +kernel
theorem dX12_wind_26 : decode cX12_wind 26 = .ok (.getfield 50, 3) := by decide +kernel
theorem dX12_wind_29 : decode cX12_wind 29 = .ok (.istore_n 2, 1) := by decide +kernel
theorem dX12_wind_30 : decode cX12_wind 30 = .ok (.aload_n 0, 1) := by decide +kernel
theorem dX12_wind_31 : decode cX12_wind 31 = .ok (.iload_n 1, 1) := by decide +kernel
theorem dX12_wind_32 : decode cX12_wind 32 = .ok (.putfield 50, 3) := by decide +kernel
theorem dX12_wind_35 : decode cX12_wind 35 = .ok (.iload_n 2, 1) := by decide +kernel
theorem dX12_wind_36 : decode cX12_wind 36 = .ok (.ireturn, 1) := by decide +kernel
theorem dX12_pass_0 : decode cX12_pass 0 = .ok (.iload_n 1, 1) := by decide +kernel
theorem dX12_pass_1 : decode cX12_pass 1 = .ok (.i2l, 1) := by decide +kernel
theorem dX12_pass_2 : decode cX12_pass 2 = .ok (.lconst 1, 1) := by decide +kernel
theorem dX12_pass_3 : decode cX12_pass 3 = .ok (.ldc2_w 111, 3) := by decide +kernel
theorem dX12_pass_6 : decode cX12_pass 6 = .ok (.invokestatic 55, 3) := by decide +kernel
theorem dX12_pass_9 : decode cX12_pass 9 = .ok (.ifCond .ne 6, 3) := by decide +kernel
theorem dX12_pass_12 : decode cX12_pass 12 = .ok (.bipush (-102), 2) := by decide +kernel
theorem dX12_pass_14 : decode cX12_pass 14 = .ok (.ireturn, 1) := by decide +kernel
theorem dX12_pass_15 : decode cX12_pass 15 = .ok (.aload_n 0, 1) := by decide +kernel
theorem dX12_pass_16 : decode cX12_pass 16 = .ok (.invokevirtual 89, 3) := by decide +kernel
theorem dX12_pass_19 : decode cX12_pass 19 = .ok (.ifCond .ne 15, 3) := by decide +kernel
theorem dX12_pass_22 : decode cX12_pass 22 = .ok (.aload_n 0, 1) := by decide +kernel
theorem dX12_pass_23 : decode cX12_pass 23 = .ok (.getfield 75, 3) := by decide +kernel
theorem dX12_pass_26 : decode cX12_pass 26 = .ok (.iload_n 1, 1) := by decide +kernel
theorem dX12_pass_27 : decode cX12_pass 27 = .ok (.iadd, 1) := by decide +kernel
theorem dX12_pass_28 : decode cX12_pass 28 = .ok (.sipush 999, 3) := by decide +kernel
theorem dX12_pass_31 : decode cX12_pass 31 = .ok (.if_icmp .le 6, 3) := by decide +kernel
theorem dX12_pass_34 : decode cX12_pass 34 = .ok (.bipush (-103), 2) := by decide +kernel
theorem dX12_pass_36 : decode cX12_pass 36 = .ok (.ireturn, 1) := by decide +kernel
theorem dX12_pass_37 : decode cX12_pass 37 = .ok (.aload_n 0, 1) := by decide +kernel
theorem dX12_pass_38 : decode cX12_pass 38 = .ok (.dup, 1) := by decide +kernel
theorem dX12_pass_39 : decode cX12_pass 39 = .ok (.getfield 75, 3) := by decide +kernel
theorem dX12_pass_42 : decode cX12_pass 42 = .ok (.iload_n 1, 1) := by decide +kernel
theorem dX12_pass_43 : decode cX12_pass 43 = .ok (.iadd, 1) := by decide +kernel
theorem dX12_pass_44 : decode cX12_pass 44 = .ok (.putfield 75, 3) := by decide +kernel
theorem dX12_pass_47 : decode cX12_pass 47 = .ok (.aload_n 0, 1) := by decide +kernel
theorem dX12_pass_48 : decode cX12_pass 48 = .ok (.getfield 75, 3) := by decide +kernel
theorem dX12_pass_51 : decode cX12_pass 51 = .ok (.ireturn, 1) := by decide +kernel
theorem dX12_isHull_0 : decode cX12_isHull 0 = .ok (.iload_n 1, 1) := by decide +kernel
theorem dX12_isHull_1 : decode cX12_isHull 1 = .ok (.i2l, 1) := by decide +kernel
theorem dX12_isHull_2 : decode cX12_isHull 2 = .ok (.lconst 0, 1) := by decide +kernel
theorem dX12_isHull_3 : decode cX12_isHull 3 = .ok (.aload_n 0, 1) := by decide +kernel
theorem dX12_isHull_4 : decode cX12_isHull 4 = .ok (.getfield 78, 3) := by decide +kernel
theorem dX12_isHull_7 : decode cX12_isHull 7 = .ok (.iconst 1, 1) := by decide +kernel
theorem dX12_isHull_8 : decode cX12_isHull 8 = .ok (.isub, 1) := by decide +kernel
theorem dX12_isHull_9 : decode cX12_isHull 9 = .ok (.i2l, 1) := by decide +kernel
theorem dX12_isHull_10 : decode cX12_isHull 10 = .ok (.invokestatic 55, 3) := by decide +kernel
theorem dX12_isHull_13 : decode cX12_isHull 13 = .ok (.ireturn, 1) := by decide +kernel
theorem dX12_floats_0 : decode cX12_floats 0 = .ok (.aload_n 0, 1) := by decide +kernel
theorem dX12_floats_1 : decode cX12_floats 1 = .ok (.getfield 16, 3) := by decide +kernel
theorem dX12_floats_4 : decode cX12_floats 4 = .ok (.iconst 4, 1) := by decide +kernel
theorem dX12_floats_5 : decode cX12_floats 5 = .ok (.iload_n 1, 1) := by decide +kernel
theorem dX12_floats_6 : decode cX12_floats 6 = .ok (.imul, 1) := by decide +kernel
theorem dX12_floats_7 : decode cX12_floats 7 = .ok (.iaload, 1) := by decide +kernel
theorem dX12_floats_8 : decode cX12_floats 8 = .ok (.istore 5, 2) := by decide +kernel
theorem dX12_floats_10 : decode cX12_floats 10 = .ok (.aload_n 0, 1) := by decide +kernel
theorem dX12_floats_11 : decode cX12_floats 11 = .ok (.getfield 16, 3) := by decide +kernel
theorem dX12_floats_14 : decode cX12_floats 14 = .ok (.iconst 4, 1) := by decide +kernel
theorem dX12_floats_15 : decode cX12_floats 15 = .ok (.iload_n 1, 1) := by decide +kernel
theorem dX12_floats_16 : decode cX12_floats 16 = .ok (.imul, 1) := by decide +kernel
theorem dX12_floats_17 : decode cX12_floats 17 = .ok (.iconst 1, 1) := by decide +kernel
theorem dX12_floats_18 : decode cX12_floats 18 = .ok (.iadd, 1) := by decide +kernel
theorem dX12_floats_19 : decode cX12_floats 19 = .ok (.iaload, 1) := by decide +kernel
theorem dX12_floats_20 : decode cX12_floats 20 = .ok (.iload 5, 2) := by decide +kernel
theorem dX12_floats_22 : decode cX12_floats 22 = .ok (.iconst 1, 1) := by decide +kernel
theorem dX12_floats_23 : decode cX12_floats 23 = .ok (.if_icmp .eq 9, 3) := by decide +kernel
theorem dX12_floats_26 : decode cX12_floats 26 = .ok (.iload 5, 2) := by decide +kernel
theorem dX12_floats_28 : decode cX12_floats 28 = .ok (.iconst 4, 1) := by decide +kernel
theorem dX12_floats_29 : decode cX12_floats 29 = .ok (.if_icmp .ne 7, 3) := by decide +kernel
theorem dX12_floats_32 : decode cX12_floats 32 = .ok (.iconst 1, 1) := by decide +kernel
theorem dX12_floats_33 : decode cX12_floats 33 = .ok (.goto 4, 3) := by decide +kernel
theorem dX12_floats_36 : decode cX12_floats 36 = .ok (.iconst 0, 1) := by decide +kernel
theorem dX12_floats_37 : decode cX12_floats 37 = .ok (.isub, 1) := by decide +kernel
theorem dX12_floats_38 : decode cX12_floats 38 = .ok (.istore 6, 2) := by decide +kernel
theorem dX12_floats_40 : decode cX12_floats 40 = .ok (.iload 5, 2) := by decide +kernel
theorem dX12_floats_42 : decode cX12_floats 42 = .ok (.iconst 3, 1) := by decide +kernel
theorem dX12_floats_43 : decode cX12_floats 43 = .ok (.if_icmp .eq 16, 3) := by decide +kernel
theorem dX12_floats_46 : decode cX12_floats 46 = .ok (.aload_n 0, 1) := by decide +kernel
theorem dX12_floats_47 : decode cX12_floats 47 = .ok (.iload_n 2, 1) := by decide +kernel
theorem dX12_floats_48 : decode cX12_floats 48 = .ok (.iload_n 3, 1) := by decide +kernel
theorem dX12_floats_49 : decode cX12_floats 49 = .ok (.iload 4, 2) := by decide +kernel
theorem dX12_floats_51 : decode cX12_floats 51 = .ok (.invokevirtual 93, 3) := by decide +kernel
theorem dX12_floats_54 : decode cX12_floats 54 = .ok (.iload 6, 2) := by decide +kernel
theorem dX12_floats_56 : decode cX12_floats 56 = .ok (.if_icmp .lt 7, 3) := by decide +kernel
theorem dX12_floats_59 : decode cX12_floats 59 = .ok (.iconst 1, 1) := by decide +kernel
theorem dX12_floats_60 : decode cX12_floats 60 = .ok (.goto 4, 3) := by decide +kernel
theorem dX12_floats_63 : decode cX12_floats 63 = .ok (.iconst 0, 1) := by decide +kernel
theorem dX12_floats_64 : decode cX12_floats 64 = .ok (.ireturn, 1) := by decide +kernel
theorem dX12_beside_0 : decode cX12_beside 0 = .ok (.iload_n 0, 1) := by decide +kernel
theorem dX12_beside_1 : decode cX12_beside 1 = .ok (.iconst 4, 1) := by decide +kernel
theorem dX12_beside_2 : decode cX12_beside 2 = .ok (.irem, 1) := by decide +kernel
theorem dX12_beside_3 : decode cX12_beside 3 = .ok (.istore_n 2, 1) := by decide +kernel
theorem dX12_beside_4 : decode cX12_beside 4 = .ok (.iload_n 1, 1) := by decide +kernel
theorem dX12_beside_5 : decode cX12_beside 5 = .ok (.ifCond .ne 16, 3) := by decide +kernel
theorem dX12_beside_8 : decode cX12_beside 8 = .ok (.iload_n 2, 1) := by decide +kernel
theorem dX12_beside_9 : decode cX12_beside 9 = .ok (.iconst 3, 1) := by decide +kernel
theorem dX12_beside_10 : decode cX12_beside 10 = .ok (.if_icmp .ge 9, 3) := by decide +kernel
theorem dX12_beside_13 : decode cX12_beside 13 = .ok (.iload_n 0, 1) := by decide +kernel
theorem dX12_beside_14 : decode cX12_beside 14 = .ok (.iconst 1, 1) := by decide +kernel
theorem dX12_beside_15 : decode cX12_beside 15 = .ok (.iadd, 1) := by decide +kernel
theorem dX12_beside_16 : decode cX12_beside 16 = .ok (.goto 4, 3) := by decide +kernel
theorem dX12_beside_19 : decode cX12_beside 19 = .ok (.iconst (-1), 1) := by decide +kernel
theorem dX12_beside_20 : decode cX12_beside 20 = .ok (.ireturn, 1) := by decide +kernel
theorem dX12_beside_21 : decode cX12_beside 21 = .ok (.iload_n 1, 1) := by decide +kernel
theorem dX12_beside_22 : decode cX12_beside 22 = .ok (.iconst 2, 1) := by decide +kernel
theorem dX12_beside_23 : decode cX12_beside 23 = .ok (.if_icmp .ne 15, 3) := by decide +kernel
theorem dX12_beside_26 : decode cX12_beside 26 = .ok (.iload_n 2, 1) := by decide +kernel
theorem dX12_beside_27 : decode cX12_beside 27 = .ok (.ifCond .le 9, 3) := by decide +kernel
theorem dX12_beside_30 : decode cX12_beside 30 = .ok (.iload_n 0, 1) := by decide +kernel
theorem dX12_beside_31 : decode cX12_beside 31 = .ok (.iconst 1, 1) := by decide +kernel
theorem dX12_beside_32 : decode cX12_beside 32 = .ok (.isub, 1) := by decide +kernel
theorem dX12_beside_33 : decode cX12_beside 33 = .ok (.goto 4, 3) := by decide +kernel
theorem dX12_beside_36 : decode cX12_beside 36 = .ok (.iconst (-1), 1) := by decide +kernel
theorem dX12_beside_37 : decode cX12_beside 37 = .ok (.ireturn, 1) := by decide +kernel
theorem dX12_beside_38 : decode cX12_beside 38 = .ok (.iload_n 1, 1) := by decide +kernel
theorem dX12_beside_39 : decode cX12_beside 39 = .ok (.iconst 1, 1) := by decide +kernel
theorem dX12_beside_40 : decode cX12_beside 40 = .ok (.if_icmp .ne 19, 3) := by decide +kernel
theorem dX12_beside_43 : decode cX12_beside 43 = .ok (.iload_n 0, 1) := by decide +kernel
theorem dX12_beside_44 : decode cX12_beside 44 = .ok (.bipush 8, 2) := by decide +kernel
theorem dX12_beside_46 : decode cX12_beside 46 = .ok (.if_icmp .ge 9, 3) := by decide +kernel
theorem dX12_beside_49 : decode cX12_beside 49 = .ok (.iload_n 0, 1) := by decide +kernel
theorem dX12_beside_50 : decode cX12_beside 50 = .ok (.iconst 4, 1) := by decide +kernel
theorem dX12_beside_51 : decode cX12_beside 51 = .ok (.iadd, 1) := by decide +kernel
theorem dX12_beside_52 : decode cX12_beside 52 = .ok (.goto 19, 3) := by decide +kernel
theorem dX12_beside_55 : decode cX12_beside 55 = .ok (.iconst (-1), 1) := by decide +kernel
theorem dX12_beside_56 : decode cX12_beside 56 = .ok (.goto 15, 3) := by decide +kernel
theorem dX12_beside_59 : decode cX12_beside 59 = .ok (.iload_n 0, 1) := by decide +kernel
theorem dX12_beside_60 : decode cX12_beside 60 = .ok (.iconst 3, 1) := by decide +kernel
theorem dX12_beside_61 : decode cX12_beside 61 = .ok (.if_icmp .le 9, 3) := by decide +kernel
theorem dX12_beside_64 : decode cX12_beside 64 = .ok (.iload_n 0, 1) := by decide +kernel
theorem dX12_beside_65 : decode cX12_beside 65 = .ok (.iconst 4, 1) := by decide +kernel
theorem dX12_beside_66 : decode cX12_beside 66 = .ok (.isub, 1) := by decide +kernel
theorem dX12_beside_67 : decode cX12_beside 67 = .ok (.goto 4, 3) := by decide +kernel
theorem dX12_beside_70 : decode cX12_beside 70 = .ok (.iconst (-1), 1) := by decide +kernel
theorem dX12_beside_71 : decode cX12_beside 71 = .ok (.ireturn, 1) := by decide +kernel
theorem dX12_needs_0 : decode cX12_needs 0 = .ok (.iload_n 0, 1) := by decide +kernel
theorem dX12_needs_1 : decode cX12_needs 1 = .ok (.iconst 3, 1) := by decide +kernel
theorem dX12_needs_2 : decode cX12_needs 2 = .ok (.if_icmp .ne 7, 3) := by decide +kernel
theorem dX12_needs_5 : decode cX12_needs 5 = .ok (.iconst 1, 1) := by decide +kernel
theorem dX12_needs_6 : decode cX12_needs 6 = .ok (.goto 4, 3) := by decide +kernel
theorem dX12_needs_9 : decode cX12_needs 9 = .ok (.iconst 0, 1) := by decide +kernel
theorem dX12_needs_10 : decode cX12_needs 10 = .ok (.istore_n 3, 1) := by decide +kernel
theorem dX12_needs_11 : decode cX12_needs 11 = .ok (.iload_n 2, 1) := by decide +kernel
theorem dX12_needs_12 : decode cX12_needs 12 = .ok (.iconst 4, 1) := by decide +kernel
theorem dX12_needs_13 : decode cX12_needs 13 = .ok (.if_icmp .ne 16, 3) := by decide +kernel
theorem dX12_needs_16 : decode cX12_needs 16 = .ok (.iload_n 0, 1) := by decide +kernel
theorem dX12_needs_17 : decode cX12_needs 17 = .ok (.iconst 4, 1) := by decide +kernel
theorem dX12_needs_18 : decode cX12_needs 18 = .ok (.if_icmp .ne 7, 3) := by decide +kernel
theorem dX12_needs_21 : decode cX12_needs 21 = .ok (.iconst 2, 1) := by decide +kernel
theorem dX12_needs_22 : decode cX12_needs 22 = .ok (.goto 6, 3) := by decide +kernel
theorem dX12_needs_25 : decode cX12_needs 25 = .ok (.iconst 3, 1) := by decide +kernel
theorem dX12_needs_26 : decode cX12_needs 26 = .ok (.iload_n 3, 1) := by decide +kernel
theorem dX12_needs_27 : decode cX12_needs 27 = .ok (.iadd, 1) := by decide +kernel
theorem dX12_needs_28 : decode cX12_needs 28 = .ok (.ireturn, 1) := by decide +kernel
theorem dX12_needs_29 : decode cX12_needs 29 = .ok (.iload_n 1, 1) := by decide +kernel
theorem dX12_needs_30 : decode cX12_needs 30 = .ok (.iload_n 2, 1) := by decide +kernel
theorem dX12_needs_31 : decode cX12_needs 31 = .ok (.if_icmp .ne 7, 3) := by decide +kernel
theorem dX12_needs_34 : decode cX12_needs 34 = .ok (.iconst 1, 1) := by decide +kernel
theorem dX12_needs_35 : decode cX12_needs 35 = .ok (.iload_n 3, 1) := by decide +kernel
theorem dX12_needs_36 : decode cX12_needs 36 = .ok (.iadd, 1) := by decide +kernel
theorem dX12_needs_37 : decode cX12_needs 37 = .ok (.ireturn, 1) := by decide +kernel
theorem dX12_needs_38 : decode cX12_needs 38 = .ok (.iload_n 1, 1) := by decide +kernel
theorem dX12_needs_39 : decode cX12_needs 39 = .ok (.iload_n 2, 1) := by decide +kernel
theorem dX12_needs_40 : decode cX12_needs 40 = .ok (.iconst 2, 1) := by decide +kernel
theorem dX12_needs_41 : decode cX12_needs 41 = .ok (.iadd, 1) := by decide +kernel
theorem dX12_needs_42 : decode cX12_needs 42 = .ok (.iconst 4, 1) := by decide +kernel
theorem dX12_needs_43 : decode cX12_needs 43 = .ok (.irem, 1) := by decide +kernel
theorem dX12_needs_44 : decode cX12_needs 44 = .ok (.if_icmp .ne 23, 3) := by decide +kernel
theorem dX12_needs_47 : decode cX12_needs 47 = .ok (.iload_n 0, 1) := by decide +kernel
theorem dX12_needs_48 : decode cX12_needs 48 = .ok (.iconst 2, 1) := by decide +kernel
theorem dX12_needs_49 : decode cX12_needs 49 = .ok (.if_icmp .ne 7, 3) := by decide +kernel
theorem dX12_needs_52 : decode cX12_needs 52 = .ok (.iconst 4, 1) := by decide +kernel
theorem dX12_needs_53 : decode cX12_needs 53 = .ok (.goto 13, 3) := by decide +kernel
theorem dX12_needs_56 : decode cX12_needs 56 = .ok (.iload_n 0, 1) := by decide +kernel
theorem dX12_needs_57 : decode cX12_needs 57 = .ok (.iconst 4, 1) := by decide +kernel
theorem dX12_needs_58 : decode cX12_needs 58 = .ok (.if_icmp .ne 7, 3) := by decide +kernel
theorem dX12_needs_61 : decode cX12_needs 61 = .ok (.iconst 3, 1) := by decide +kernel
theorem dX12_needs_62 : decode cX12_needs 62 = .ok (.goto 4, 3) := by decide +kernel
theorem dX12_needs_65 : decode cX12_needs 65 = .ok (.iconst (-1), 1) := by decide +kernel
theorem dX12_needs_66 : decode cX12_needs 66 = .ok (.ireturn, 1) := by decide +kernel
theorem dX12_needs_67 : decode cX12_needs 67 = .ok (.iconst 2, 1) := by decide +kernel
theorem dX12_needs_68 : decode cX12_needs 68 = .ok (.iload_n 3, 1) := by decide +kernel
theorem dX12_needs_69 : decode cX12_needs 69 = .ok (.iadd, 1) := by decide +kernel
theorem dX12_needs_70 : decode cX12_needs 70 = .ok (.ireturn, 1) := by decide +kernel
theorem dX12_hoursOf_0 : decode cX12_hoursOf 0 = .ok (.iload_n 2, 1) := by decide +kernel
theorem dX12_hoursOf_1 : decode cX12_hoursOf 1 = .ok (.iload 4, 2) := by decide +kernel
theorem dX12_hoursOf_3 : decode cX12_hoursOf 3 = .ok (.invokestatic 113, 3) := by decide +kernel
theorem dX12_hoursOf_6 : decode cX12_hoursOf 6 = .ok (.istore 7, 2) := by decide +kernel
theorem dX12_hoursOf_8 : decode cX12_hoursOf 8 = .ok (.aload_n 0, 1) := by decide +kernel
theorem dX12_hoursOf_9 : decode cX12_hoursOf 9 = .ok (.getfield 16, 3) := by decide +kernel
theorem dX12_hoursOf_12 : decode cX12_hoursOf 12 = .ok (.iconst 4, 1) := by decide +kernel
theorem dX12_hoursOf_13 : decode cX12_hoursOf 13 = .ok (.iload_n 1, 1) := by decide +kernel
theorem dX12_hoursOf_14 : decode cX12_hoursOf 14 = .ok (.imul, 1) := by decide +kernel
theorem dX12_hoursOf_15 : decode cX12_hoursOf 15 = .ok (.iaload, 1) := by decide +kernel
theorem dX12_hoursOf_16 : decode cX12_hoursOf 16 = .ok (.iload 4, 2) := by decide +kernel
theorem dX12_hoursOf_18 : decode cX12_hoursOf 18 = .ok (.iload 5, 2) := by decide +kernel
theorem dX12_hoursOf_20 : decode cX12_hoursOf 20 = .ok (.invokestatic 116, 3) := by decide +kernel
theorem dX12_hoursOf_23 : decode cX12_hoursOf 23 = .ok (.istore 8, 2) := by decide +kernel
theorem dX12_hoursOf_25 : decode cX12_hoursOf 25 = .ok (.iload 7, 2) := by decide +kernel
theorem dX12_hoursOf_27 : decode cX12_hoursOf 27 = .ok (.iconst (-1), 1) := by decide +kernel
theorem dX12_hoursOf_28 : decode cX12_hoursOf 28 = .ok (.if_icmp .eq 25, 3) := by decide +kernel
theorem dX12_hoursOf_31 : decode cX12_hoursOf 31 = .ok (.iload 8, 2) := by decide +kernel
theorem dX12_hoursOf_33 : decode cX12_hoursOf 33 = .ok (.iconst (-1), 1) := by decide +kernel
theorem dX12_hoursOf_34 : decode cX12_hoursOf 34 = .ok (.if_icmp .eq 19, 3) := by decide +kernel
theorem dX12_hoursOf_37 : decode cX12_hoursOf 37 = .ok (.aload_n 0, 1) := by decide +kernel
theorem dX12_hoursOf_38 : decode cX12_hoursOf 38 = .ok (.iload_n 1, 1) := by decide +kernel
theorem dX12_hoursOf_39 : decode cX12_hoursOf 39 = .ok (.iload_n 2, 1) := by decide +kernel
theorem dX12_hoursOf_40 : decode cX12_hoursOf 40 = .ok (.iload_n 3, 1) := by decide +kernel
theorem dX12_hoursOf_41 : decode cX12_hoursOf 41 = .ok (.iload 6, 2) := by decide +kernel
theorem dX12_hoursOf_43 : decode cX12_hoursOf 43 = .ok (.invokevirtual 119, 3) := by decide +kernel
theorem dX12_hoursOf_46 : decode cX12_hoursOf 46 = .ok (.ifCond .eq 7, 3) := by decide +kernel
theorem dX12_hoursOf_49 : decode cX12_hoursOf 49 = .ok (.iconst 1, 1) := by decide +kernel
theorem dX12_hoursOf_50 : decode cX12_hoursOf 50 = .ok (.goto 4, 3) := by decide +kernel
theorem dX12_hoursOf_53 : decode cX12_hoursOf 53 = .ok (.iconst 0, 1) := by decide +kernel
theorem dX12_hoursOf_54 : decode cX12_hoursOf 54 = .ok (.istore 9, 2) := by decide +kernel
theorem dX12_hoursOf_56 : decode cX12_hoursOf 56 = .ok (.iload 9, 2) := by decide +kernel
theorem dX12_hoursOf_58 : decode cX12_hoursOf 58 = .ok (.ifCond .eq 24, 3) := by decide +kernel
theorem dX12_hoursOf_61 : decode cX12_hoursOf 61 = .ok (.aload_n 0, 1) := by decide +kernel
theorem dX12_hoursOf_62 : decode cX12_hoursOf 62 = .ok (.iload_n 1, 1) := by decide +kernel
theorem dX12_hoursOf_63 : decode cX12_hoursOf 63 = .ok (.iload 7, 2) := by decide +kernel
theorem dX12_hoursOf_65 : decode cX12_hoursOf 65 = .ok (.iload_n 3, 1) := by decide +kernel
theorem dX12_hoursOf_66 : decode cX12_hoursOf 66 = .ok (.iload 8, 2) := by decide +kernel
theorem dX12_hoursOf_68 : decode cX12_hoursOf 68 = .ok (.iadd, 1) := by decide +kernel
theorem dX12_hoursOf_69 : decode cX12_hoursOf 69 = .ok (.iload 6, 2) := by decide +kernel
theorem dX12_hoursOf_71 : decode cX12_hoursOf 71 = .ok (.invokevirtual 119, 3) := by decide +kernel
theorem dX12_hoursOf_74 : decode cX12_hoursOf 74 = .ok (.ifCond .eq 8, 3) := by decide +kernel
theorem dX12_hoursOf_77 : decode cX12_hoursOf 77 = .ok (.iload 8, 2) := by decide +kernel
theorem dX12_hoursOf_79 : decode cX12_hoursOf 79 = .ok (.goto 4, 3) := by decide +kernel
theorem dX12_hoursOf_82 : decode cX12_hoursOf 82 = .ok (.iconst (-1), 1) := by decide +kernel
theorem dX12_hoursOf_83 : decode cX12_hoursOf 83 = .ok (.ireturn, 1) := by decide +kernel
theorem dX12_hull_0 : decode cX12_hull 0 = .ok (.iload_n 1, 1) := by decide +kernel
theorem dX12_hull_1 : decode cX12_hull 1 = .ok (.i2l, 1) := by decide +kernel
theorem dX12_hull_2 : decode cX12_hull 2 = .ok (.lconst 0, 1) := by decide +kernel
theorem dX12_hull_3 : decode cX12_hull 3 = .ok (.ldc2_w 109, 3) := by decide +kernel
theorem dX12_hull_6 : decode cX12_hull 6 = .ok (.invokestatic 55, 3) := by decide +kernel
theorem dX12_hull_9 : decode cX12_hull 9 = .ok (.ifCond .eq 15, 3) := by decide +kernel
theorem dX12_hull_12 : decode cX12_hull 12 = .ok (.iload_n 2, 1) := by decide +kernel
theorem dX12_hull_13 : decode cX12_hull 13 = .ok (.i2l, 1) := by decide +kernel
theorem dX12_hull_14 : decode cX12_hull 14 = .ok (.lconst 1, 1) := by decide +kernel
theorem dX12_hull_15 : decode cX12_hull 15 = .ok (.ldc2_w 62, 3) := by decide +kernel
theorem dX12_hull_18 : decode cX12_hull 18 = .ok (.invokestatic 55, 3) := by decide +kernel
theorem dX12_hull_21 : decode cX12_hull 21 = .ok (.ifCond .ne 6, 3) := by decide +kernel
theorem dX12_hull_24 : decode cX12_hull 24 = .ok (.bipush (-102), 2) := by decide +kernel
theorem dX12_hull_26 : decode cX12_hull 26 = .ok (.ireturn, 1) := by decide +kernel
theorem dX12_hull_27 : decode cX12_hull 27 = .ok (.aload_n 0, 1) := by decide +kernel
theorem dX12_hull_28 : decode cX12_hull 28 = .ok (.iload_n 3, 1) := by decide +kernel
theorem dX12_hull_29 : decode cX12_hull 29 = .ok (.invokevirtual 101, 3) := by decide +kernel
theorem dX12_hull_32 : decode cX12_hull 32 = .ok (.ifCond .ne 6, 3) := by decide +kernel
theorem dX12_hull_35 : decode cX12_hull 35 = .ok (.bipush (-101), 2) := by decide +kernel
theorem dX12_hull_37 : decode cX12_hull 37 = .ok (.ireturn, 1) := by decide +kernel
theorem dX12_hull_38 : decode cX12_hull 38 = .ok (.aload_n 0, 1) := by decide +kernel
theorem dX12_hull_39 : decode cX12_hull 39 = .ok (.getfield 78, 3) := by decide +kernel
theorem dX12_hull_42 : decode cX12_hull 42 = .ok (.iconst 3, 1) := by decide +kernel
theorem dX12_hull_43 : decode cX12_hull 43 = .ok (.if_icmp .ne 6, 3) := by decide +kernel
theorem dX12_hull_46 : decode cX12_hull 46 = .ok (.bipush (-104), 2) := by decide +kernel
theorem dX12_hull_48 : decode cX12_hull 48 = .ok (.ireturn, 1) := by decide +kernel
theorem dX12_hull_49 : decode cX12_hull 49 = .ok (.aload_n 0, 1) := by decide +kernel
theorem dX12_hull_50 : decode cX12_hull 50 = .ok (.getfield 16, 3) := by decide +kernel
theorem dX12_hull_53 : decode cX12_hull 53 = .ok (.iconst 4, 1) := by decide +kernel
theorem dX12_hull_54 : decode cX12_hull 54 = .ok (.aload_n 0, 1) := by decide +kernel
theorem dX12_hull_55 : decode cX12_hull 55 = .ok (.getfield 78, 3) := by decide +kernel
theorem dX12_hull_58 : decode cX12_hull 58 = .ok (.imul, 1) := by decide +kernel
theorem dX12_hull_59 : decode cX12_hull 59 = .ok (.iload_n 1, 1) := by decide +kernel
theorem dX12_hull_60 : decode cX12_hull 60 = .ok (.iastore, 1) := by decide +kernel
theorem dX12_hull_61 : decode cX12_hull 61 = .ok (.aload_n 0, 1) := by decide +kernel
theorem dX12_hull_62 : decode cX12_hull 62 = .ok (.getfield 16, 3) := by decide +kernel
theorem dX12_hull_65 : decode cX12_hull 65 = .ok (.iconst 4, 1) := by decide +kernel
theorem dX12_hull_66 : decode cX12_hull 66 = .ok (.aload_n 0, 1) := by decide +kernel
theorem dX12_hull_67 : decode cX12_hull 67 = .ok (.getfield 78, 3) := by decide +kernel
theorem dX12_hull_70 : decode cX12_hull 70 = .ok (.imul, 1) := by decide +kernel
theorem dX12_hull_71 : decode cX12_hull 71 = .ok (.iconst 1, 1) := by decide +kernel
theorem dX12_hull_72 : decode cX12_hull 72 = .ok (.iadd, 1) := by decide +kernel
theorem dX12_hull_73 : decode cX12_hull 73 = .ok (.iload_n 2, 1) := by decide +kernel
theorem dX12_hull_74 : decode cX12_hull 74 = .ok (.iastore, 1) := by decide +kernel
theorem dX12_hull_75 : decode cX12_hull 75 = .ok (.aload_n 0, 1) := by decide +kernel
theorem dX12_hull_76 : decode cX12_hull 76 = .ok (.getfield 16, 3) := by decide +kernel
theorem dX12_hull_79 : decode cX12_hull 79 = .ok (.iconst 4, 1) := by decide +kernel
theorem dX12_hull_80 : decode cX12_hull 80 = .ok (.aload_n 0, 1) := by decide +kernel
theorem dX12_hull_81 : decode cX12_hull 81 = .ok (.getfield 78, 3) := by decide +kernel
theorem dX12_hull_84 : decode cX12_hull 84 = .ok (.imul, 1) := by decide +kernel
theorem dX12_hull_85 : decode cX12_hull 85 = .ok (.iconst 2, 1) := by decide +kernel
theorem dX12_hull_86 : decode cX12_hull 86 = .ok (.iadd, 1) := by decide +kernel
theorem dX12_hull_87 : decode cX12_hull 87 = .ok (.iload_n 3, 1) := by decide +kernel
theorem dX12_hull_88 : decode cX12_hull 88 = .ok (.iastore, 1) := by decide +kernel
theorem dX12_hull_89 : decode cX12_hull 89 = .ok (.aload_n 0, 1) := by decide +kernel
theorem dX12_hull_90 : decode cX12_hull 90 = .ok (.getfield 16, 3) := by decide +kernel
theorem dX12_hull_93 : decode cX12_hull 93 = .ok (.iconst 4, 1) := by decide +kernel
theorem dX12_hull_94 : decode cX12_hull 94 = .ok (.aload_n 0, 1) := by decide +kernel
theorem dX12_hull_95 : decode cX12_hull 95 = .ok (.getfield 78, 3) := by decide +kernel
theorem dX12_hull_98 : decode cX12_hull 98 = .ok (.imul, 1) := by decide +kernel
theorem dX12_hull_99 : decode cX12_hull 99 = .ok (.iconst 3, 1) := by decide +kernel
theorem dX12_hull_100 : decode cX12_hull 100 = .ok (.iadd, 1) := by decide +kernel
theorem dX12_hull_101 : decode cX12_hull 101 = .ok (.iconst 0, 1) := by decide +kernel
theorem dX12_hull_102 : decode cX12_hull 102 = .ok (.iastore, 1) := by decide +kernel
theorem dX12_hull_103 : decode cX12_hull 103 = .ok (.aload_n 0, 1) := by decide +kernel
theorem dX12_hull_104 : decode cX12_hull 104 = .ok (.dup, 1) := by decide +kernel
theorem dX12_hull_105 : decode cX12_hull 105 = .ok (.getfield 78, 3) := by decide +kernel
theorem dX12_hull_108 : decode cX12_hull 108 = .ok (.iconst 1, 1) := by decide +kernel
theorem dX12_hull_109 : decode cX12_hull 109 = .ok (.iadd, 1) := by decide +kernel
theorem dX12_hull_110 : decode cX12_hull 110 = .ok (.putfield 78, 3) := by decide +kernel
theorem dX12_hull_113 : decode cX12_hull 113 = .ok (.aload_n 0, 1) := by decide +kernel
theorem dX12_hull_114 : decode cX12_hull 114 = .ok (.getfield 78, 3) := by decide +kernel
theorem dX12_hull_117 : decode cX12_hull 117 = .ok (.iconst 1, 1) := by decide +kernel
theorem dX12_hull_118 : decode cX12_hull 118 = .ok (.isub, 1) := by decide +kernel
theorem dX12_hull_119 : decode cX12_hull 119 = .ok (.ireturn, 1) := by decide +kernel
theorem dX12_isStranded_0 : decode cX12_isStranded 0 = .ok (.aload_n 0, 1) := by decide +kernel
theorem dX12_isStranded_1 : decode cX12_isStranded 1 = .ok (.iload_n 1, 1) := by decide +kernel
theorem dX12_isStranded_2 : decode cX12_isStranded 2 = .ok (.aload_n 0, 1) := by decide +kernel
theorem dX12_isStranded_3 : decode cX12_isStranded 3 = .ok (.getfield 16, 3) := by decide +kernel
theorem dX12_isStranded_6 : decode cX12_isStranded 6 = .ok (.iconst 4, 1) := by decide +kernel
theorem dX12_isStranded_7 : decode cX12_isStranded 7 = .ok (.iload_n 1, 1) := by decide +kernel
theorem dX12_isStranded_8 : decode cX12_isStranded 8 = .ok (.imul, 1) := by decide +kernel
theorem dX12_isStranded_9 : decode cX12_isStranded 9 = .ok (.iconst 2, 1) := by decide +kernel
theorem dX12_isStranded_10 : decode cX12_isStranded 10 = .ok (.iadd, 1) := by decide +kernel
theorem dX12_isStranded_11 : decode cX12_isStranded 11 = .ok (.iaload, 1) := by decide +kernel
theorem dX12_isStranded_12 : decode cX12_isStranded 12 = .ok (.aload_n 0, 1) := by decide +kernel
theorem dX12_isStranded_13 : decode cX12_isStranded 13 = .ok (.getfield 75, 3) := by decide +kernel
theorem dX12_isStranded_16 : decode cX12_isStranded 16 = .ok (.aload_n 0, 1) := by decide +kernel
theorem dX12_isStranded_17 : decode cX12_isStranded 17 = .ok (.getfield 72, 3) := by decide +kernel
theorem dX12_isStranded_20 : decode cX12_isStranded 20 = .ok (.invokevirtual 119, 3) := by decide +kernel
theorem dX12_isStranded_23 : decode cX12_isStranded 23 = .ok (.ifCond .ne 7, 3) := by decide +kernel
theorem dX12_isStranded_26 : decode cX12_isStranded 26 = .ok (.iconst 1, 1) := by decide +kernel
theorem dX12_isStranded_27 : decode cX12_isStranded 27 = .ok (.goto 4, 3) := by decide +kernel
theorem dX12_isStranded_30 : decode cX12_isStranded 30 = .ok (.iconst 0, 1) := by decide +kernel
theorem dX12_isStranded_31 : decode cX12_isStranded 31 = .ok (.ireturn, 1) := by decide +kernel
theorem dX12_tell_0 : decode cX12_tell 0 = .ok (.iload_n 2, 1) := by decide +kernel
theorem dX12_tell_1 : decode cX12_tell 1 = .ok (.i2l, 1) := by decide +kernel
theorem dX12_tell_2 : decode cX12_tell 2 = .ok (.ldc2_w 123, 3) := by decide +kernel
theorem dX12_tell_5 : decode cX12_tell 5 = .ok (.ldc2_w 125, 3) := by decide +kernel
theorem dX12_tell_8 : decode cX12_tell 8 = .ok (.invokestatic 55, 3) := by decide +kernel
theorem dX12_tell_11 : decode cX12_tell 11 = .ok (.ifCond .eq 35, 3) := by decide +kernel
theorem dX12_tell_14 : decode cX12_tell 14 = .ok (.aload_n 0, 1) := by decide +kernel
theorem dX12_tell_15 : decode cX12_tell 15 = .ok (.iload_n 1, 1) := by decide +kernel
theorem dX12_tell_16 : decode cX12_tell 16 = .ok (.aload_n 0, 1) := by decide +kernel
theorem dX12_tell_17 : decode cX12_tell 17 = .ok (.getfield 16, 3) := by decide +kernel
theorem dX12_tell_20 : decode cX12_tell 20 = .ok (.iconst 4, 1) := by decide +kernel
theorem dX12_tell_21 : decode cX12_tell 21 = .ok (.iload_n 1, 1) := by decide +kernel
theorem dX12_tell_22 : decode cX12_tell 22 = .ok (.imul, 1) := by decide +kernel
theorem dX12_tell_23 : decode cX12_tell 23 = .ok (.iconst 2, 1) := by decide +kernel
theorem dX12_tell_24 : decode cX12_tell 24 = .ok (.iadd, 1) := by decide +kernel
theorem dX12_tell_25 : decode cX12_tell 25 = .ok (.iaload, 1) := by decide +kernel
theorem dX12_tell_26 : decode cX12_tell 26 = .ok (.aload_n 0, 1) := by decide +kernel
theorem dX12_tell_27 : decode cX12_tell 27 = .ok (.getfield 75, 3) := by decide +kernel
theorem dX12_tell_30 : decode cX12_tell 30 = .ok (.iload_n 2, 1) := by decide +kernel
theorem dX12_tell_31 : decode cX12_tell 31 = .ok (.bipush 10, 2) := by decide +kernel
theorem dX12_tell_33 : decode cX12_tell 33 = .ok (.isub, 1) := by decide +kernel
theorem dX12_tell_34 : decode cX12_tell 34 = .ok (.aload_n 0, 1) := by decide +kernel
theorem dX12_tell_35 : decode cX12_tell 35 = .ok (.getfield 50, 3) := by decide +kernel
theorem dX12_tell_38 : decode cX12_tell 38 = .ok (.aload_n 0, 1) := by decide +kernel
theorem dX12_tell_39 : decode cX12_tell 39 = .ok (.getfield 72, 3) := by decide +kernel
theorem dX12_tell_42 : decode cX12_tell 42 = .ok (.invokevirtual 127, 3) := by decide +kernel
theorem dX12_tell_45 : decode cX12_tell 45 = .ok (.ireturn, 1) := by decide +kernel
theorem dX12_tell_46 : decode cX12_tell 46 = .ok (.iload_n 2, 1) := by decide +kernel
theorem dX12_tell_47 : decode cX12_tell 47 = .ok (.tableswitch 69 0 4 #[33, 33, 33, 44, 58], 33) := by decide +kernel
theorem dX12_tell_80 : decode cX12_tell 80 = .ok (.aload_n 0, 1) := by decide +kernel
theorem dX12_tell_81 : decode cX12_tell 81 = .ok (.getfield 16, 3) := by decide +kernel
theorem dX12_tell_84 : decode cX12_tell 84 = .ok (.iconst 4, 1) := by decide +kernel
theorem dX12_tell_85 : decode cX12_tell 85 = .ok (.iload_n 1, 1) := by decide +kernel
theorem dX12_tell_86 : decode cX12_tell 86 = .ok (.imul, 1) := by decide +kernel
theorem dX12_tell_87 : decode cX12_tell 87 = .ok (.iload_n 2, 1) := by decide +kernel
theorem dX12_tell_88 : decode cX12_tell 88 = .ok (.iadd, 1) := by decide +kernel
theorem dX12_tell_89 : decode cX12_tell 89 = .ok (.iaload, 1) := by decide +kernel
theorem dX12_tell_90 : decode cX12_tell 90 = .ok (.ireturn, 1) := by decide +kernel
theorem dX12_tell_91 : decode cX12_tell 91 = .ok (.aload_n 0, 1) := by decide +kernel
theorem dX12_tell_92 : decode cX12_tell 92 = .ok (.iload_n 1, 1) := by decide +kernel
theorem dX12_tell_93 : decode cX12_tell 93 = .ok (.invokevirtual 131, 3) := by decide +kernel
theorem dX12_tell_96 : decode cX12_tell 96 = .ok (.ifCond .eq 7, 3) := by decide +kernel
theorem dX12_tell_99 : decode cX12_tell 99 = .ok (.iconst 1, 1) := by decide +kernel
theorem dX12_tell_100 : decode cX12_tell 100 = .ok (.goto 4, 3) := by decide +kernel
theorem dX12_tell_103 : decode cX12_tell 103 = .ok (.iconst 0, 1) := by decide +kernel
theorem dX12_tell_104 : decode cX12_tell 104 = .ok (.ireturn, 1) := by decide +kernel
theorem dX12_tell_105 : decode cX12_tell 105 = .ok (.aload_n 0, 1) := by decide +kernel
theorem dX12_tell_106 : decode cX12_tell 106 = .ok (.getfield 16, 3) := by decide +kernel
theorem dX12_tell_109 : decode cX12_tell 109 = .ok (.iconst 4, 1) := by decide +kernel
theorem dX12_tell_110 : decode cX12_tell 110 = .ok (.iload_n 1, 1) := by decide +kernel
theorem dX12_tell_111 : decode cX12_tell 111 = .ok (.imul, 1) := by decide +kernel
theorem dX12_tell_112 : decode cX12_tell 112 = .ok (.iconst 3, 1) := by decide +kernel
theorem dX12_tell_113 : decode cX12_tell 113 = .ok (.iadd, 1) := by decide +kernel
theorem dX12_tell_114 : decode cX12_tell 114 = .ok (.iaload, 1) := by decide +kernel
theorem dX12_tell_115 : decode cX12_tell 115 = .ok (.ireturn, 1) := by decide +kernel
theorem dX12_tell_116 : decode cX12_tell 116 = .ok (.bipush (-102), 2) := by decide +kernel
theorem dX12_tell_118 : decode cX12_tell 118 = .ok (.ireturn, 1) := by decide +kernel
theorem dX12_about_0 : decode cX12_about 0 = .ok (.aload_n 0, 1) := by decide +kernel
theorem dX12_about_1 : decode cX12_about 1 = .ok (.iload_n 1, 1) := by decide +kernel
theorem dX12_about_2 : decode cX12_about 2 = .ok (.invokevirtual 134, 3) := by decide +kernel
theorem dX12_about_5 : decode cX12_about 5 = .ok (.ifCond .eq 12, 3) := by decide +kernel
theorem dX12_about_8 : decode cX12_about 8 = .ok (.aload_n 0, 1) := by decide +kernel
theorem dX12_about_9 : decode cX12_about 9 = .ok (.iload_n 1, 1) := by decide +kernel
theorem dX12_about_10 : decode cX12_about 10 = .ok (.iload_n 2, 1) := by decide +kernel
theorem dX12_about_11 : decode cX12_about 11 = .ok (.invokevirtual 137, 3) := by decide +kernel
theorem dX12_about_14 : decode cX12_about 14 = .ok (.goto 5, 3) := by decide +kernel
theorem dX12_about_17 : decode cX12_about 17 = .ok (.bipush (-101), 2) := by decide +kernel
theorem dX12_about_19 : decode cX12_about 19 = .ok (.ireturn, 1) := by decide +kernel
theorem dX12_as_0 : decode cX12_as 0 = .ok (.aload_n 0, 1) := by decide +kernel
theorem dX12_as_1 : decode cX12_as 1 = .ok (.iload_n 1, 1) := by decide +kernel
theorem dX12_as_2 : decode cX12_as 2 = .ok (.invokevirtual 134, 3) := by decide +kernel
theorem dX12_as_5 : decode cX12_as 5 = .ok (.ifCond .ne 6, 3) := by decide +kernel
theorem dX12_as_8 : decode cX12_as 8 = .ok (.bipush (-101), 2) := by decide +kernel
theorem dX12_as_10 : decode cX12_as 10 = .ok (.ireturn, 1) := by decide +kernel
theorem dX12_as_11 : decode cX12_as 11 = .ok (.iload_n 2, 1) := by decide +kernel
theorem dX12_as_12 : decode cX12_as 12 = .ok (.i2l, 1) := by decide +kernel
theorem dX12_as_13 : decode cX12_as 13 = .ok (.lconst 0, 1) := by decide +kernel
theorem dX12_as_14 : decode cX12_as 14 = .ok (.ldc2_w 109, 3) := by decide +kernel
theorem dX12_as_17 : decode cX12_as 17 = .ok (.invokestatic 55, 3) := by decide +kernel
theorem dX12_as_20 : decode cX12_as 20 = .ok (.ifCond .ne 6, 3) := by decide +kernel
theorem dX12_as_23 : decode cX12_as 23 = .ok (.bipush (-102), 2) := by decide +kernel
theorem dX12_as_25 : decode cX12_as 25 = .ok (.ireturn, 1) := by decide +kernel
theorem dX12_as_26 : decode cX12_as 26 = .ok (.aload_n 0, 1) := by decide +kernel
theorem dX12_as_27 : decode cX12_as 27 = .ok (.getfield 16, 3) := by decide +kernel
theorem dX12_as_30 : decode cX12_as 30 = .ok (.iconst 4, 1) := by decide +kernel
theorem dX12_as_31 : decode cX12_as 31 = .ok (.iload_n 1, 1) := by decide +kernel
theorem dX12_as_32 : decode cX12_as 32 = .ok (.imul, 1) := by decide +kernel
theorem dX12_as_33 : decode cX12_as 33 = .ok (.iaload, 1) := by decide +kernel
theorem dX12_as_34 : decode cX12_as 34 = .ok (.istore_n 3, 1) := by decide +kernel
theorem dX12_as_35 : decode cX12_as 35 = .ok (.iload_n 2, 1) := by decide +kernel
theorem dX12_as_36 : decode cX12_as 36 = .ok (.ifCond .eq 18, 3) := by decide +kernel
theorem dX12_as_39 : decode cX12_as 39 = .ok (.iload_n 2, 1) := by decide +kernel
theorem dX12_as_40 : decode cX12_as 40 = .ok (.iload_n 3, 1) := by decide +kernel
theorem dX12_as_41 : decode cX12_as 41 = .ok (.if_icmp .eq 13, 3) := by decide +kernel
theorem dX12_as_44 : decode cX12_as 44 = .ok (.iload_n 2, 1) := by decide +kernel
theorem dX12_as_45 : decode cX12_as 45 = .ok (.iconst 1, 1) := by decide +kernel
theorem dX12_as_46 : decode cX12_as 46 = .ok (.if_icmp .ne 12, 3) := by decide +kernel
theorem dX12_as_49 : decode cX12_as 49 = .ok (.iload_n 3, 1) := by decide +kernel
theorem dX12_as_50 : decode cX12_as 50 = .ok (.iconst 4, 1) := by decide +kernel
theorem dX12_as_51 : decode cX12_as 51 = .ok (.if_icmp .ne 7, 3) := by decide +kernel
theorem dX12_as_54 : decode cX12_as 54 = .ok (.iconst 1, 1) := by decide +kernel
theorem dX12_as_55 : decode cX12_as 55 = .ok (.goto 4, 3) := by decide +kernel
theorem dX12_as_58 : decode cX12_as 58 = .ok (.iconst 0, 1) := by decide +kernel
theorem dX12_as_59 : decode cX12_as 59 = .ok (.istore 4, 2) := by decide +kernel
theorem dX12_as_61 : decode cX12_as 61 = .ok (.iload 4, 2) := by decide +kernel
theorem dX12_as_63 : decode cX12_as 63 = .ok (.ifCond .eq 7, 3) := by decide +kernel
theorem dX12_as_66 : decode cX12_as 66 = .ok (.iload_n 1, 1) := by decide +kernel
theorem dX12_as_67 : decode cX12_as 67 = .ok (.goto 4, 3) := by decide +kernel
theorem dX12_as_70 : decode cX12_as 70 = .ok (.iconst (-1), 1) := by decide +kernel
theorem dX12_as_71 : decode cX12_as 71 = .ok (.ireturn, 1) := by decide +kernel
theorem dX12_sail_0 : decode cX12_sail 0 = .ok (.aload_n 0, 1) := by decide +kernel
theorem dX12_sail_1 : decode cX12_sail 1 = .ok (.iload_n 1, 1) := by decide +kernel
theorem dX12_sail_2 : decode cX12_sail 2 = .ok (.invokevirtual 134, 3) := by decide +kernel
theorem dX12_sail_5 : decode cX12_sail 5 = .ok (.ifCond .ne 6, 3) := by decide +kernel
theorem dX12_sail_8 : decode cX12_sail 8 = .ok (.bipush (-101), 2) := by decide +kernel
theorem dX12_sail_10 : decode cX12_sail 10 = .ok (.ireturn, 1) := by decide +kernel
theorem dX12_sail_11 : decode cX12_sail 11 = .ok (.iload_n 2, 1) := by decide +kernel
theorem dX12_sail_12 : decode cX12_sail 12 = .ok (.i2l, 1) := by decide +kernel
theorem dX12_sail_13 : decode cX12_sail 13 = .ok (.lconst 0, 1) := by decide +kernel
theorem dX12_sail_14 : decode cX12_sail 14 = .ok (.ldc2_w 140, 3) := by decide +kernel
theorem dX12_sail_17 : decode cX12_sail 17 = .ok (.invokestatic 55, 3) := by decide +kernel
theorem dX12_sail_20 : decode cX12_sail 20 = .ok (.ifCond .ne 6, 3) := by decide +kernel
theorem dX12_sail_23 : decode cX12_sail 23 = .ok (.bipush (-102), 2) := by decide +kernel
theorem dX12_sail_25 : decode cX12_sail 25 = .ok (.ireturn, 1) := by decide +kernel
theorem dX12_sail_26 : decode cX12_sail 26 = .ok (.aload_n 0, 1) := by decide +kernel
theorem dX12_sail_27 : decode cX12_sail 27 = .ok (.iload_n 1, 1) := by decide +kernel
theorem dX12_sail_28 : decode cX12_sail 28 = .ok (.aload_n 0, 1) := by decide +kernel
theorem dX12_sail_29 : decode cX12_sail 29 = .ok (.getfield 16, 3) := by decide +kernel
theorem dX12_sail_32 : decode cX12_sail 32 = .ok (.iconst 4, 1) := by decide +kernel
theorem dX12_sail_33 : decode cX12_sail 33 = .ok (.iload_n 1, 1) := by decide +kernel
theorem dX12_sail_34 : decode cX12_sail 34 = .ok (.imul, 1) := by decide +kernel
theorem dX12_sail_35 : decode cX12_sail 35 = .ok (.iconst 2, 1) := by decide +kernel
theorem dX12_sail_36 : decode cX12_sail 36 = .ok (.iadd, 1) := by decide +kernel
theorem dX12_sail_37 : decode cX12_sail 37 = .ok (.iaload, 1) := by decide +kernel
theorem dX12_sail_38 : decode cX12_sail 38 = .ok (.aload_n 0, 1) := by decide +kernel
theorem dX12_sail_39 : decode cX12_sail 39 = .ok (.getfield 75, 3) := by decide +kernel
theorem dX12_sail_42 : decode cX12_sail 42 = .ok (.iload_n 2, 1) := by decide +kernel
theorem dX12_sail_43 : decode cX12_sail 43 = .ok (.aload_n 0, 1) := by decide +kernel
theorem dX12_sail_44 : decode cX12_sail 44 = .ok (.getfield 50, 3) := by decide +kernel
theorem dX12_sail_47 : decode cX12_sail 47 = .ok (.aload_n 0, 1) := by decide +kernel
theorem dX12_sail_48 : decode cX12_sail 48 = .ok (.getfield 72, 3) := by decide +kernel
theorem dX12_sail_51 : decode cX12_sail 51 = .ok (.invokevirtual 127, 3) := by decide +kernel
theorem dX12_sail_54 : decode cX12_sail 54 = .ok (.istore_n 3, 1) := by decide +kernel
theorem dX12_sail_55 : decode cX12_sail 55 = .ok (.iload_n 3, 1) := by decide +kernel
theorem dX12_sail_56 : decode cX12_sail 56 = .ok (.iconst (-1), 1) := by decide +kernel
theorem dX12_sail_57 : decode cX12_sail 57 = .ok (.if_icmp .eq 15, 3) := by decide +kernel
theorem dX12_sail_60 : decode cX12_sail 60 = .ok (.aload_n 0, 1) := by decide +kernel
theorem dX12_sail_61 : decode cX12_sail 61 = .ok (.getfield 75, 3) := by decide +kernel
theorem dX12_sail_64 : decode cX12_sail 64 = .ok (.iload_n 3, 1) := by decide +kernel
theorem dX12_sail_65 : decode cX12_sail 65 = .ok (.iadd, 1) := by decide +kernel
theorem dX12_sail_66 : decode cX12_sail 66 = .ok (.sipush 999, 3) := by decide +kernel
theorem dX12_sail_69 : decode cX12_sail 69 = .ok (.if_icmp .le 6, 3) := by decide +kernel
theorem dX12_sail_72 : decode cX12_sail 72 = .ok (.bipush (-103), 2) := by decide +kernel
theorem dX12_sail_74 : decode cX12_sail 74 = .ok (.ireturn, 1) := by decide +kernel
theorem dX12_sail_75 : decode cX12_sail 75 = .ok (.aload_n 0, 1) := by decide +kernel
theorem dX12_sail_76 : decode cX12_sail 76 = .ok (.getfield 16, 3) := by decide +kernel
theorem dX12_sail_79 : decode cX12_sail 79 = .ok (.iconst 4, 1) := by decide +kernel
theorem dX12_sail_80 : decode cX12_sail 80 = .ok (.iload_n 1, 1) := by decide +kernel
theorem dX12_sail_81 : decode cX12_sail 81 = .ok (.imul, 1) := by decide +kernel
theorem dX12_sail_82 : decode cX12_sail 82 = .ok (.iconst 2, 1) := by decide +kernel
theorem dX12_sail_83 : decode cX12_sail 83 = .ok (.iadd, 1) := by decide +kernel
theorem dX12_sail_84 : decode cX12_sail 84 = .ok (.aload_n 0, 1) := by decide +kernel
theorem dX12_sail_85 : decode cX12_sail 85 = .ok (.getfield 16, 3) := by decide +kernel
theorem dX12_sail_88 : decode cX12_sail 88 = .ok (.iconst 4, 1) := by decide +kernel
theorem dX12_sail_89 : decode cX12_sail 89 = .ok (.iload_n 1, 1) := by decide +kernel
theorem dX12_sail_90 : decode cX12_sail 90 = .ok (.imul, 1) := by decide +kernel
theorem dX12_sail_91 : decode cX12_sail 91 = .ok (.iconst 2, 1) := by decide +kernel
theorem dX12_sail_92 : decode cX12_sail 92 = .ok (.iadd, 1) := by decide +kernel
theorem dX12_sail_93 : decode cX12_sail 93 = .ok (.iaload, 1) := by decide +kernel
theorem dX12_sail_94 : decode cX12_sail 94 = .ok (.iload_n 2, 1) := by decide +kernel
theorem dX12_sail_95 : decode cX12_sail 95 = .ok (.invokestatic 113, 3) := by decide +kernel
theorem dX12_sail_98 : decode cX12_sail 98 = .ok (.iastore, 1) := by decide +kernel
theorem dX12_sail_99 : decode cX12_sail 99 = .ok (.aload_n 0, 1) := by decide +kernel
theorem dX12_sail_100 : decode cX12_sail 100 = .ok (.getfield 16, 3) := by decide +kernel
theorem dX12_sail_103 : decode cX12_sail 103 = .ok (.iconst 4, 1) := by decide +kernel
theorem dX12_sail_104 : decode cX12_sail 104 = .ok (.iload_n 1, 1) := by decide +kernel
theorem dX12_sail_105 : decode cX12_sail 105 = .ok (.imul, 1) := by decide +kernel
theorem dX12_sail_106 : decode cX12_sail 106 = .ok (.iconst 3, 1) := by decide +kernel
theorem dX12_sail_107 : decode cX12_sail 107 = .ok (.iadd, 1) := by decide +kernel
theorem dX12_sail_108 : decode cX12_sail 108 = .ok (.dup2, 1) := by decide +kernel
theorem dX12_sail_109 : decode cX12_sail 109 = .ok (.iaload, 1) := by decide +kernel
theorem dX12_sail_110 : decode cX12_sail 110 = .ok (.iload_n 3, 1) := by decide +kernel
theorem dX12_sail_111 : decode cX12_sail 111 = .ok (.iadd, 1) := by decide +kernel
theorem dX12_sail_112 : decode cX12_sail 112 = .ok (.iastore, 1) := by decide +kernel
theorem dX12_sail_113 : decode cX12_sail 113 = .ok (.aload_n 0, 1) := by decide +kernel
theorem dX12_sail_114 : decode cX12_sail 114 = .ok (.dup, 1) := by decide +kernel
theorem dX12_sail_115 : decode cX12_sail 115 = .ok (.getfield 75, 3) := by decide +kernel
theorem dX12_sail_118 : decode cX12_sail 118 = .ok (.iload_n 3, 1) := by decide +kernel
theorem dX12_sail_119 : decode cX12_sail 119 = .ok (.iadd, 1) := by decide +kernel
theorem dX12_sail_120 : decode cX12_sail 120 = .ok (.putfield 75, 3) := by decide +kernel
theorem dX12_sail_123 : decode cX12_sail 123 = .ok (.aload_n 0, 1) := by decide +kernel
theorem dX12_sail_124 : decode cX12_sail 124 = .ok (.getfield 75, 3) := by decide +kernel
theorem dX12_sail_127 : decode cX12_sail 127 = .ok (.ireturn, 1) := by decide +kernel
theorem dX12_layVoyage_0 : decode cX12_layVoyage 0 = .ok (.aload_n 0, 1) := by decide +kernel
theorem dX12_layVoyage_1 : decode cX12_layVoyage 1 = .ok (.getfield 16, 3) := by decide +kernel
theorem dX12_layVoyage_4 : decode cX12_layVoyage 4 = .ok (.iconst 4, 1) := by decide +kernel
theorem dX12_layVoyage_5 : decode cX12_layVoyage 5 = .ok (.iload_n 1, 1) := by decide +kernel
theorem dX12_layVoyage_6 : decode cX12_layVoyage 6 = .ok (.imul, 1) := by decide +kernel
theorem dX12_layVoyage_7 : decode cX12_layVoyage 7 = .ok (.iconst 2, 1) := by decide +kernel
theorem dX12_layVoyage_8 : decode cX12_layVoyage 8 = .ok (.iadd, 1) := by decide +kernel
theorem dX12_layVoyage_9 : decode cX12_layVoyage 9 = .ok (.iaload, 1) := by decide +kernel
theorem dX12_layVoyage_10 : decode cX12_layVoyage 10 = .ok (.istore 5, 2) := by decide +kernel
theorem dX12_layVoyage_12 : decode cX12_layVoyage 12 = .ok (.iconst 0, 1) := by decide +kernel
theorem dX12_layVoyage_13 : decode cX12_layVoyage 13 = .ok (.istore 6, 2) := by decide +kernel
theorem dX12_layVoyage_15 : decode cX12_layVoyage 15 = .ok (.iload 6, 2) := by decide +kernel
theorem dX12_layVoyage_17 : decode cX12_layVoyage 17 = .ok (.bipush 12, 2) := by decide +kernel
theorem dX12_layVoyage_19 : decode cX12_layVoyage 19 = .ok (.if_icmp .ge 37, 3) := by decide +kernel
theorem dX12_layVoyage_22 : decode cX12_layVoyage 22 = .ok (.aload_n 0, 1) := by decide +kernel
theorem dX12_layVoyage_23 : decode cX12_layVoyage 23 = .ok (.getfield 19, 3) := by decide +kernel
theorem dX12_layVoyage_26 : decode cX12_layVoyage 26 = .ok (.iload 6, 2) := by decide +kernel
theorem dX12_layVoyage_28 : decode cX12_layVoyage 28 = .ok (.iload 6, 2) := by decide +kernel
theorem dX12_layVoyage_30 : decode cX12_layVoyage 30 = .ok (.iload 5, 2) := by decide +kernel
theorem dX12_layVoyage_32 : decode cX12_layVoyage 32 = .ok (.if_icmp .ne 7, 3) := by decide +kernel
theorem dX12_layVoyage_35 : decode cX12_layVoyage 35 = .ok (.iload_n 2, 1) := by decide +kernel
theorem dX12_layVoyage_36 : decode cX12_layVoyage 36 = .ok (.goto 5, 3) := by decide +kernel
theorem dX12_layVoyage_39 : decode cX12_layVoyage 39 = .ok (.ldc 142, 2) := by decide +kernel
theorem dX12_layVoyage_41 : decode cX12_layVoyage 41 = .ok (.iastore, 1) := by decide +kernel
theorem dX12_layVoyage_42 : decode cX12_layVoyage 42 = .ok (.aload_n 0, 1) := by decide +kernel
theorem dX12_layVoyage_43 : decode cX12_layVoyage 43 = .ok (.getfield 22, 3) := by decide +kernel
theorem dX12_layVoyage_46 : decode cX12_layVoyage 46 = .ok (.iload 6, 2) := by decide +kernel
theorem dX12_layVoyage_48 : decode cX12_layVoyage 48 = .ok (.iconst (-1), 1) := by decide +kernel
theorem dX12_layVoyage_49 : decode cX12_layVoyage 49 = .ok (.iastore, 1) := by decide +kernel
theorem dX12_layVoyage_50 : decode cX12_layVoyage 50 = .ok (.iinc 6 1, 3) := by decide +kernel
theorem dX12_layVoyage_53 : decode cX12_layVoyage 53 = .ok (.goto (-38), 3) := by decide +kernel
theorem dX12_layVoyage_56 : decode cX12_layVoyage 56 = .ok (.iconst 1, 1) := by decide +kernel
theorem dX12_layVoyage_57 : decode cX12_layVoyage 57 = .ok (.istore 6, 2) := by decide +kernel
theorem dX12_layVoyage_59 : decode cX12_layVoyage 59 = .ok (.iload 6, 2) := by decide +kernel
theorem dX12_layVoyage_61 : decode cX12_layVoyage 61 = .ok (.ifCond .eq 230, 3) := by decide +kernel
theorem dX12_layVoyage_64 : decode cX12_layVoyage 64 = .ok (.iconst 0, 1) := by decide +kernel
theorem dX12_layVoyage_65 : decode cX12_layVoyage 65 = .ok (.istore 6, 2) := by decide +kernel
theorem dX12_layVoyage_67 : decode cX12_layVoyage 67 = .ok (.iconst 0, 1) := by decide +kernel
theorem dX12_layVoyage_68 : decode cX12_layVoyage 68 = .ok (.istore 7, 2) := by decide +kernel
theorem dX12_layVoyage_70 : decode cX12_layVoyage 70 = .ok (.iload 7, 2) := by decide +kernel
theorem dX12_layVoyage_72 : decode cX12_layVoyage 72 = .ok (.bipush 48, 2) := by decide +kernel
theorem dX12_layVoyage_74 : decode cX12_layVoyage 74 = .ok (.if_icmp .ge 214, 3) := by decide +kernel
theorem dX12_layVoyage_77 : decode cX12_layVoyage 77 = .ok (.iload 7, 2) := by decide +kernel
theorem dX12_layVoyage_79 : decode cX12_layVoyage 79 = .ok (.iconst 4, 1) := by decide +kernel
theorem dX12_layVoyage_80 : decode cX12_layVoyage 80 = .ok (.idiv, 1) := by decide +kernel
theorem dX12_layVoyage_81 : decode cX12_layVoyage 81 = .ok (.istore 8, 2) := by decide +kernel
theorem dX12_layVoyage_83 : decode cX12_layVoyage 83 = .ok (.aload_n 0, 1) := by decide +kernel
theorem dX12_layVoyage_84 : decode cX12_layVoyage 84 = .ok (.getfield 19, 3) := by decide +kernel
theorem dX12_layVoyage_87 : decode cX12_layVoyage 87 = .ok (.iload 8, 2) := by decide +kernel
theorem dX12_layVoyage_89 : decode cX12_layVoyage 89 = .ok (.iaload, 1) := by decide +kernel
theorem dX12_layVoyage_90 : decode cX12_layVoyage 90 = .ok (.ldc 142, 2) := by decide +kernel
theorem dX12_layVoyage_92 : decode cX12_layVoyage 92 = .ok (.if_icmp .ne 7, 3) := by decide +kernel
theorem dX12_layVoyage_95 : decode cX12_layVoyage 95 = .ok (.iconst (-1), 1) := by decide +kernel
theorem dX12_layVoyage_96 : decode cX12_layVoyage 96 = .ok (.goto 24, 3) := by decide +kernel
theorem dX12_layVoyage_99 : decode cX12_layVoyage 99 = .ok (.aload_n 0, 1) := by decide +kernel
theorem dX12_layVoyage_100 : decode cX12_layVoyage 100 = .ok (.iload_n 1, 1) := by decide +kernel
theorem dX12_layVoyage_101 : decode cX12_layVoyage 101 = .ok (.iload 8, 2) := by decide +kernel
theorem dX12_layVoyage_103 : decode cX12_layVoyage 103 = .ok (.aload_n 0, 1) := by decide +kernel
theorem dX12_layVoyage_104 : decode cX12_layVoyage 104 = .ok (.getfield 19, 3) := by decide +kernel
theorem dX12_layVoyage_107 : decode cX12_layVoyage 107 = .ok (.iload 8, 2) := by decide +kernel
theorem dX12_layVoyage_109 : decode cX12_layVoyage 109 = .ok (.iaload, 1) := by decide +kernel
theorem dX12_layVoyage_110 : decode cX12_layVoyage 110 = .ok (.iload 7, 2) := by decide +kernel
theorem dX12_layVoyage_112 : decode cX12_layVoyage 112 = .ok (.iconst 4, 1) := by decide +kernel
theorem dX12_layVoyage_113 : decode cX12_layVoyage 113 = .ok (.irem, 1) := by decide +kernel
theorem dX12_layVoyage_114 : decode cX12_layVoyage 114 = .ok (.iload_n 3, 1) := by decide +kernel
theorem dX12_layVoyage_115 : decode cX12_layVoyage 115 = .ok (.iload 4, 2) := by decide +kernel
theorem dX12_layVoyage_117 : decode cX12_layVoyage 117 = .ok (.invokevirtual 127, 3) := by decide +kernel
theorem dX12_layVoyage_120 : decode cX12_layVoyage 120 = .ok (.istore 9, 2) := by decide +kernel
theorem dX12_layVoyage_122 : decode cX12_layVoyage 122 = .ok (.iload 9, 2) := by decide +kernel
theorem dX12_layVoyage_124 : decode cX12_layVoyage 124 = .ok (.iconst (-1), 1) := by decide +kernel
theorem dX12_layVoyage_125 : decode cX12_layVoyage 125 = .ok (.if_icmp .eq 157, 3) := by decide +kernel
theorem dX12_layVoyage_128 : decode cX12_layVoyage 128 = .ok (.iload 8, 2) := by decide +kernel
theorem dX12_layVoyage_130 : decode cX12_layVoyage 130 = .ok (.iload 7, 2) := by decide +kernel
theorem dX12_layVoyage_132 : decode cX12_layVoyage 132 = .ok (.iconst 4, 1) := by decide +kernel
theorem dX12_layVoyage_133 : decode cX12_layVoyage 133 = .ok (.irem, 1) := by decide +kernel
theorem dX12_layVoyage_134 : decode cX12_layVoyage 134 = .ok (.invokestatic 113, 3) := by decide +kernel
theorem dX12_layVoyage_137 : decode cX12_layVoyage 137 = .ok (.istore 10, 2) := by decide +kernel
theorem dX12_layVoyage_139 : decode cX12_layVoyage 139 = .ok (.aload_n 0, 1) := by decide +kernel
theorem dX12_layVoyage_140 : decode cX12_layVoyage 140 = .ok (.getfield 19, 3) := by decide +kernel
theorem dX12_layVoyage_143 : decode cX12_layVoyage 143 = .ok (.iload 8, 2) := by decide +kernel
theorem dX12_layVoyage_145 : decode cX12_layVoyage 145 = .ok (.iaload, 1) := by decide +kernel
theorem dX12_layVoyage_146 : decode cX12_layVoyage 146 = .ok (.iload 9, 2) := by decide +kernel
theorem dX12_layVoyage_148 : decode cX12_layVoyage 148 = .ok (.iadd, 1) := by decide +kernel
theorem dX12_layVoyage_149 : decode cX12_layVoyage 149 = .ok (.istore 11, 2) := by decide +kernel
theorem dX12_layVoyage_151 : decode cX12_layVoyage 151 = .ok (.iload 8, 2) := by decide +kernel
theorem dX12_layVoyage_153 : decode cX12_layVoyage 153 = .ok (.iload 5, 2) := by decide +kernel
theorem dX12_layVoyage_155 : decode cX12_layVoyage 155 = .ok (.if_icmp .ne 10, 3) := by decide +kernel
theorem dX12_layVoyage_158 : decode cX12_layVoyage 158 = .ok (.iload 7, 2) := by decide +kernel
theorem dX12_layVoyage_160 : decode cX12_layVoyage 160 = .ok (.iconst 4, 1) := by decide +kernel
theorem dX12_layVoyage_161 : decode cX12_layVoyage 161 = .ok (.irem, 1) := by decide +kernel
theorem dX12_layVoyage_162 : decode cX12_layVoyage 162 = .ok (.goto 10, 3) := by decide +kernel
theorem dX12_layVoyage_165 : decode cX12_layVoyage 165 = .ok (.aload_n 0, 1) := by decide +kernel
theorem dX12_layVoyage_166 : decode cX12_layVoyage 166 = .ok (.getfield 22, 3) := by decide +kernel
theorem dX12_layVoyage_169 : decode cX12_layVoyage 169 = .ok (.iload 8, 2) := by decide +kernel
theorem dX12_layVoyage_171 : decode cX12_layVoyage 171 = .ok (.iaload, 1) := by decide +kernel
theorem dX12_layVoyage_172 : decode cX12_layVoyage 172 = .ok (.istore 12, 2) := by decide +kernel
theorem dX12_layVoyage_174 : decode cX12_layVoyage 174 = .ok (.iload 11, 2) := by decide +kernel
theorem dX12_layVoyage_176 : decode cX12_layVoyage 176 = .ok (.aload_n 0, 1) := by decide +kernel
theorem dX12_layVoyage_177 : decode cX12_layVoyage 177 = .ok (.getfield 19, 3) := by decide +kernel
theorem dX12_layVoyage_180 : decode cX12_layVoyage 180 = .ok (.iload 10, 2) := by decide +kernel
theorem dX12_layVoyage_182 : decode cX12_layVoyage 182 = .ok (.iaload, 1) := by decide +kernel
theorem dX12_layVoyage_183 : decode cX12_layVoyage 183 = .ok (.if_icmp .lt 27, 3) := by decide +kernel
theorem dX12_layVoyage_186 : decode cX12_layVoyage 186 = .ok (.iload 11, 2) := by decide +kernel
theorem dX12_layVoyage_188 : decode cX12_layVoyage 188 = .ok (.aload_n 0, 1) := by decide +kernel
theorem dX12_layVoyage_189 : decode cX12_layVoyage 189 = .ok (.getfield 19, 3) := by decide +kernel
theorem dX12_layVoyage_192 : decode cX12_layVoyage 192 = .ok (.iload 10, 2) := by decide +kernel
theorem dX12_layVoyage_194 : decode cX12_layVoyage 194 = .ok (.iaload, 1) := by decide +kernel
theorem dX12_layVoyage_195 : decode cX12_layVoyage 195 = .ok (.if_icmp .ne 19, 3) := by decide +kernel
theorem dX12_layVoyage_198 : decode cX12_layVoyage 198 = .ok (.iload 12, 2) := by decide +kernel
theorem dX12_layVoyage_200 : decode cX12_layVoyage 200 = .ok (.aload_n 0, 1) := by decide +kernel
theorem dX12_layVoyage_201 : decode cX12_layVoyage 201 = .ok (.getfield 22, 3) := by decide +kernel
theorem dX12_layVoyage_204 : decode cX12_layVoyage 204 = .ok (.iload 10, 2) := by decide +kernel
theorem dX12_layVoyage_206 : decode cX12_layVoyage 206 = .ok (.iaload, 1) := by decide +kernel
theorem dX12_layVoyage_207 : decode cX12_layVoyage 207 = .ok (.if_icmp .ge 7, 3) := by decide +kernel
theorem dX12_layVoyage_210 : decode cX12_layVoyage 210 = .ok (.iconst 1, 1) := by decide +kernel
theorem dX12_layVoyage_211 : decode cX12_layVoyage 211 = .ok (.goto 4, 3) := by decide +kernel
theorem dX12_layVoyage_214 : decode cX12_layVoyage 214 = .ok (.iconst 0, 1) := by decide +kernel
theorem dX12_layVoyage_215 : decode cX12_layVoyage 215 = .ok (.istore 13, 2) := by decide +kernel
theorem dX12_layVoyage_217 : decode cX12_layVoyage 217 = .ok (.aload_n 0, 1) := by decide +kernel
theorem dX12_layVoyage_218 : decode cX12_layVoyage 218 = .ok (.getfield 19, 3) := by decide +kernel
theorem dX12_layVoyage_221 : decode cX12_layVoyage 221 = .ok (.iload 10, 2) := by decide +kernel
theorem dX12_layVoyage_223 : decode cX12_layVoyage 223 = .ok (.iload 13, 2) := by decide +kernel
theorem dX12_layVoyage_225 : decode cX12_layVoyage 225 = .ok (.ifCond .eq 8, 3) := by decide +kernel
theorem dX12_layVoyage_228 : decode cX12_layVoyage 228 = .ok (.iload 11, 2) := by decide +kernel
theorem dX12_layVoyage_230 : decode cX12_layVoyage 230 = .ok (.goto 10, 3) := by decide +kernel
theorem dX12_layVoyage_233 : decode cX12_layVoyage 233 = .ok (.aload_n 0, 1) := by decide +kernel
theorem dX12_layVoyage_234 : decode cX12_layVoyage 234 = .ok (.getfield 19, 3) := by decide +kernel
theorem dX12_layVoyage_237 : decode cX12_layVoyage 237 = .ok (.iload 10, 2) := by decide +kernel
theorem dX12_layVoyage_239 : decode cX12_layVoyage 239 = .ok (.iaload, 1) := by decide +kernel
theorem dX12_layVoyage_240 : decode cX12_layVoyage 240 = .ok (.iastore, 1) := by decide +kernel
theorem dX12_layVoyage_241 : decode cX12_layVoyage 241 = .ok (.aload_n 0, 1) := by decide +kernel
theorem dX12_layVoyage_242 : decode cX12_layVoyage 242 = .ok (.getfield 22, 3) := by decide +kernel
theorem dX12_layVoyage_245 : decode cX12_layVoyage 245 = .ok (.iload 10, 2) := by decide +kernel
theorem dX12_layVoyage_247 : decode cX12_layVoyage 247 = .ok (.iload 13, 2) := by decide +kernel
theorem dX12_layVoyage_249 : decode cX12_layVoyage 249 = .ok (.ifCond .eq 8, 3) := by decide +kernel
theorem dX12_layVoyage_252 : decode cX12_layVoyage 252 = .ok (.iload 12, 2) := by decide +kernel
theorem dX12_layVoyage_254 : decode cX12_layVoyage 254 = .ok (.goto 10, 3) := by decide +kernel
theorem dX12_layVoyage_257 : decode cX12_layVoyage 257 = .ok (.aload_n 0, 1) := by decide +kernel
theorem dX12_layVoyage_258 : decode cX12_layVoyage 258 = .ok (.getfield 22, 3) := by decide +kernel
theorem dX12_layVoyage_261 : decode cX12_layVoyage 261 = .ok (.iload 10, 2) := by decide +kernel
theorem dX12_layVoyage_263 : decode cX12_layVoyage 263 = .ok (.iaload, 1) := by decide +kernel
theorem dX12_layVoyage_264 : decode cX12_layVoyage 264 = .ok (.iastore, 1) := by decide +kernel
theorem dX12_layVoyage_265 : decode cX12_layVoyage 265 = .ok (.iload 6, 2) := by decide +kernel
theorem dX12_layVoyage_267 : decode cX12_layVoyage 267 = .ok (.ifCond .ne 8, 3) := by decide +kernel
theorem dX12_layVoyage_270 : decode cX12_layVoyage 270 = .ok (.iload 13, 2) := by decide +kernel
theorem dX12_layVoyage_272 : decode cX12_layVoyage 272 = .ok (.ifCond .eq 7, 3) := by decide +kernel
theorem dX12_layVoyage_275 : decode cX12_layVoyage 275 = .ok (.iconst 1, 1) := by decide +kernel
theorem dX12_layVoyage_276 : decode cX12_layVoyage 276 = .ok (.goto 4, 3) := by decide +kernel
theorem dX12_layVoyage_279 : decode cX12_layVoyage 279 = .ok (.iconst 0, 1) := by decide +kernel
theorem dX12_layVoyage_280 : decode cX12_layVoyage 280 = .ok (.istore 6, 2) := by decide +kernel
theorem dX12_layVoyage_282 : decode cX12_layVoyage 282 = .ok (.iinc 7 1, 3) := by decide +kernel
theorem dX12_layVoyage_285 : decode cX12_layVoyage 285 = .ok (.goto (-215), 3) := by decide +kernel
theorem dX12_layVoyage_288 : decode cX12_layVoyage 288 = .ok (.goto (-229), 3) := by decide +kernel
theorem dX12_layVoyage_291 : decode cX12_layVoyage 291 = .ok (.return_, 1) := by decide +kernel
theorem dX12_hourBy_0 : decode cX12_hourBy 0 = .ok (.aload_n 0, 1) := by decide +kernel
theorem dX12_hourBy_1 : decode cX12_hourBy 1 = .ok (.iload_n 1, 1) := by decide +kernel
theorem dX12_hourBy_2 : decode cX12_hourBy 2 = .ok (.iload_n 3, 1) := by decide +kernel
theorem dX12_hourBy_3 : decode cX12_hourBy 3 = .ok (.iload 4, 2) := by decide +kernel
theorem dX12_hourBy_5 : decode cX12_hourBy 5 = .ok (.iload 5, 2) := by decide +kernel
theorem dX12_hourBy_7 : decode cX12_hourBy 7 = .ok (.invokevirtual 143, 3) := by decide +kernel
theorem dX12_hourBy_10 : decode cX12_hourBy 10 = .ok (.aload_n 0, 1) := by decide +kernel
theorem dX12_hourBy_11 : decode cX12_hourBy 11 = .ok (.getfield 19, 3) := by decide +kernel
theorem dX12_hourBy_14 : decode cX12_hourBy 14 = .ok (.iload_n 2, 1) := by decide +kernel
theorem dX12_hourBy_15 : decode cX12_hourBy 15 = .ok (.iaload, 1) := by decide +kernel
theorem dX12_hourBy_16 : decode cX12_hourBy 16 = .ok (.ldc 142, 2) := by decide +kernel
theorem dX12_hourBy_18 : decode cX12_hourBy 18 = .ok (.if_icmp .ne 7, 3) := by decide +kernel
theorem dX12_hourBy_21 : decode cX12_hourBy 21 = .ok (.iconst (-1), 1) := by decide +kernel
theorem dX12_hourBy_22 : decode cX12_hourBy 22 = .ok (.goto 9, 3) := by decide +kernel
theorem dX12_hourBy_25 : decode cX12_hourBy 25 = .ok (.aload_n 0, 1) := by decide +kernel
theorem dX12_hourBy_26 : decode cX12_hourBy 26 = .ok (.getfield 19, 3) := by decide +kernel
theorem dX12_hourBy_29 : decode cX12_hourBy 29 = .ok (.iload_n 2, 1) := by decide +kernel
theorem dX12_hourBy_30 : decode cX12_hourBy 30 = .ok (.iaload, 1) := by decide +kernel
theorem dX12_hourBy_31 : decode cX12_hourBy 31 = .ok (.ireturn, 1) := by decide +kernel
theorem dX12_voyage_0 : decode cX12_voyage 0 = .ok (.aload_n 0, 1) := by decide +kernel
theorem dX12_voyage_1 : decode cX12_voyage 1 = .ok (.iload_n 1, 1) := by decide +kernel
theorem dX12_voyage_2 : decode cX12_voyage 2 = .ok (.invokevirtual 134, 3) := by decide +kernel
theorem dX12_voyage_5 : decode cX12_voyage 5 = .ok (.ifCond .eq 11, 3) := by decide +kernel
theorem dX12_voyage_8 : decode cX12_voyage 8 = .ok (.aload_n 0, 1) := by decide +kernel
theorem dX12_voyage_9 : decode cX12_voyage 9 = .ok (.iload_n 2, 1) := by decide +kernel
theorem dX12_voyage_10 : decode cX12_voyage 10 = .ok (.invokevirtual 101, 3) := by decide +kernel
theorem dX12_voyage_13 : decode cX12_voyage 13 = .ok (.ifCond .ne 6, 3) := by decide +kernel
theorem dX12_voyage_16 : decode cX12_voyage 16 = .ok (.bipush (-101), 2) := by decide +kernel
theorem dX12_voyage_18 : decode cX12_voyage 18 = .ok (.ireturn, 1) := by decide +kernel
theorem dX12_voyage_19 : decode cX12_voyage 19 = .ok (.iload_n 3, 1) := by decide +kernel
theorem dX12_voyage_20 : decode cX12_voyage 20 = .ok (.i2l, 1) := by decide +kernel
theorem dX12_voyage_21 : decode cX12_voyage 21 = .ok (.lconst 0, 1) := by decide +kernel
theorem dX12_voyage_22 : decode cX12_voyage 22 = .ok (.lconst 1, 1) := by decide +kernel
theorem dX12_voyage_23 : decode cX12_voyage 23 = .ok (.invokestatic 55, 3) := by decide +kernel
theorem dX12_voyage_26 : decode cX12_voyage 26 = .ok (.ifCond .ne 6, 3) := by decide +kernel
theorem dX12_voyage_29 : decode cX12_voyage 29 = .ok (.bipush (-102), 2) := by decide +kernel
theorem dX12_voyage_31 : decode cX12_voyage 31 = .ok (.ireturn, 1) := by decide +kernel
theorem dX12_voyage_32 : decode cX12_voyage 32 = .ok (.aload_n 0, 1) := by decide +kernel
theorem dX12_voyage_33 : decode cX12_voyage 33 = .ok (.iload_n 1, 1) := by decide +kernel
theorem dX12_voyage_34 : decode cX12_voyage 34 = .ok (.iload_n 2, 1) := by decide +kernel
theorem dX12_voyage_35 : decode cX12_voyage 35 = .ok (.aload_n 0, 1) := by decide +kernel
theorem dX12_voyage_36 : decode cX12_voyage 36 = .ok (.getfield 75, 3) := by decide +kernel
theorem dX12_voyage_39 : decode cX12_voyage 39 = .ok (.aload_n 0, 1) := by decide +kernel
theorem dX12_voyage_40 : decode cX12_voyage 40 = .ok (.getfield 50, 3) := by decide +kernel
theorem dX12_voyage_43 : decode cX12_voyage 43 = .ok (.aload_n 0, 1) := by decide +kernel
theorem dX12_voyage_44 : decode cX12_voyage 44 = .ok (.getfield 72, 3) := by decide +kernel
theorem dX12_voyage_47 : decode cX12_voyage 47 = .ok (.invokevirtual 147, 3) := by decide +kernel
theorem dX12_voyage_50 : decode cX12_voyage 50 = .ok (.istore 4, 2) := by decide +kernel
theorem dX12_voyage_52 : decode cX12_voyage 52 = .ok (.iload_n 3, 1) := by decide +kernel
theorem dX12_voyage_53 : decode cX12_voyage 53 = .ok (.ifCond .ne 8, 3) := by decide +kernel
theorem dX12_voyage_56 : decode cX12_voyage 56 = .ok (.iload 4, 2) := by decide +kernel
theorem dX12_voyage_58 : decode cX12_voyage 58 = .ok (.goto 9, 3) := by decide +kernel
theorem dX12_voyage_61 : decode cX12_voyage 61 = .ok (.aload_n 0, 1) := by decide +kernel
theorem dX12_voyage_62 : decode cX12_voyage 62 = .ok (.getfield 22, 3) := by decide +kernel
theorem dX12_voyage_65 : decode cX12_voyage 65 = .ok (.iload_n 2, 1) := by decide +kernel
theorem dX12_voyage_66 : decode cX12_voyage 66 = .ok (.iaload, 1) := by decide +kernel
theorem dX12_voyage_67 : decode cX12_voyage 67 = .ok (.ireturn, 1) := by decide +kernel
theorem dX12_latest_0 : decode cX12_latest 0 = .ok (.aload_n 0, 1) := by decide +kernel
theorem dX12_latest_1 : decode cX12_latest 1 = .ok (.iload_n 1, 1) := by decide +kernel
theorem dX12_latest_2 : decode cX12_latest 2 = .ok (.invokevirtual 134, 3) := by decide +kernel
theorem dX12_latest_5 : decode cX12_latest 5 = .ok (.ifCond .eq 11, 3) := by decide +kernel
theorem dX12_latest_8 : decode cX12_latest 8 = .ok (.aload_n 0, 1) := by decide +kernel
theorem dX12_latest_9 : decode cX12_latest 9 = .ok (.iload_n 2, 1) := by decide +kernel
theorem dX12_latest_10 : decode cX12_latest 10 = .ok (.invokevirtual 101, 3) := by decide +kernel
end
section
theorem dX12_latest_13 : decode cX12_latest 13 = .ok (.ifCond .ne 6, 3) := by decide +kernel
theorem dX12_latest_16 : decode cX12_latest 16 = .ok (.bipush (-101), 2) := by decide +kernel
theorem dX12_latest_18 : decode cX12_latest 18 = .ok (.ireturn, 1) := by decide +kernel
theorem dX12_latest_19 : decode cX12_latest 19 = .ok (.iconst 1, 1) := by decide +kernel
theorem dX12_latest_20 : decode cX12_latest 20 = .ok (.istore_n 3, 1) := by decide +kernel
theorem dX12_latest_21 : decode cX12_latest 21 = .ok (.iload_n 3, 1) := by decide +kernel
theorem dX12_latest_22 : decode cX12_latest 22 = .ok (.bipush 10, 2) := by decide +kernel
theorem dX12_latest_24 : decode cX12_latest 24 = .ok (.if_icmp .ge 30, 3) := by decide +kernel
theorem dX12_latest_27 : decode cX12_latest 27 = .ok (.aload_n 0, 1) := by decide +kernel
theorem dX12_latest_28 : decode cX12_latest 28 = .ok (.iload_n 1, 1) := by decide +kernel
theorem dX12_latest_29 : decode cX12_latest 29 = .ok (.iload_n 2, 1) := by decide +kernel
theorem dX12_latest_30 : decode cX12_latest 30 = .ok (.aload_n 0, 1) := by decide +kernel
theorem dX12_latest_31 : decode cX12_latest 31 = .ok (.getfield 75, 3) := by decide +kernel
theorem dX12_latest_34 : decode cX12_latest 34 = .ok (.aload_n 0, 1) := by decide +kernel
theorem dX12_latest_35 : decode cX12_latest 35 = .ok (.getfield 50, 3) := by decide +kernel
theorem dX12_latest_38 : decode cX12_latest 38 = .ok (.iload_n 3, 1) := by decide +kernel
theorem dX12_latest_39 : decode cX12_latest 39 = .ok (.invokevirtual 147, 3) := by decide +kernel
theorem dX12_latest_42 : decode cX12_latest 42 = .ok (.iconst (-1), 1) := by decide +kernel
theorem dX12_latest_43 : decode cX12_latest 43 = .ok (.if_icmp .eq 5, 3) := by decide +kernel
theorem dX12_latest_46 : decode cX12_latest 46 = .ok (.iload_n 3, 1) := by decide +kernel
theorem dX12_latest_47 : decode cX12_latest 47 = .ok (.ireturn, 1) := by decide +kernel
theorem dX12_latest_48 : decode cX12_latest 48 = .ok (.iinc 3 1, 3) := by decide +kernel
theorem dX12_latest_51 : decode cX12_latest 51 = .ok (.goto (-30), 3) := by decide +kernel
theorem dX12_latest_54 : decode cX12_latest 54 = .ok (.iconst (-1), 1) := by decide +kernel
theorem dX12_latest_55 : decode cX12_latest 55 = .ok (.ireturn, 1) := by decide +kernel
theorem dX12_isOrder_0 : decode cX12_isOrder 0 = .ok (.iload_n 1, 1) := by decide +kernel
theorem dX12_isOrder_1 : decode cX12_isOrder 1 = .ok (.istore_n 2, 1) := by decide +kernel
theorem dX12_isOrder_2 : decode cX12_isOrder 2 = .ok (.iconst 0, 1) := by decide +kernel
theorem dX12_isOrder_3 : decode cX12_isOrder 3 = .ok (.istore_n 3, 1) := by decide +kernel
theorem dX12_isOrder_4 : decode cX12_isOrder 4 = .ok (.aload_n 0, 1) := by decide +kernel
theorem dX12_isOrder_5 : decode cX12_isOrder 5 = .ok (.getfield 78, 3) := by decide +kernel
theorem dX12_isOrder_8 : decode cX12_isOrder 8 = .ok (.iconst 1, 1) := by decide +kernel
theorem dX12_isOrder_9 : decode cX12_isOrder 9 = .ok (.isub, 1) := by decide +kernel
theorem dX12_isOrder_10 : decode cX12_isOrder 10 = .ok (.istore 4, 2) := by decide +kernel
theorem dX12_isOrder_12 : decode cX12_isOrder 12 = .ok (.iload 4, 2) := by decide +kernel
theorem dX12_isOrder_14 : decode cX12_isOrder 14 = .ok (.ifCond .lt 41, 3) := by decide +kernel
theorem dX12_isOrder_17 : decode cX12_isOrder 17 = .ok (.aload_n 0, 1) := by decide +kernel
theorem dX12_isOrder_18 : decode cX12_isOrder 18 = .ok (.getfield 25, 3) := by decide +kernel
theorem dX12_isOrder_21 : decode cX12_isOrder 21 = .ok (.iload 4, 2) := by decide +kernel
theorem dX12_isOrder_23 : decode cX12_isOrder 23 = .ok (.iload_n 2, 1) := by decide +kernel
theorem dX12_isOrder_24 : decode cX12_isOrder 24 = .ok (.aload_n 0, 1) := by decide +kernel
theorem dX12_isOrder_25 : decode cX12_isOrder 25 = .ok (.getfield 78, 3) := by decide +kernel
theorem dX12_isOrder_28 : decode cX12_isOrder 28 = .ok (.irem, 1) := by decide +kernel
theorem dX12_isOrder_29 : decode cX12_isOrder 29 = .ok (.iastore, 1) := by decide +kernel
theorem dX12_isOrder_30 : decode cX12_isOrder 30 = .ok (.iload_n 3, 1) := by decide +kernel
theorem dX12_isOrder_31 : decode cX12_isOrder 31 = .ok (.iconst 1, 1) := by decide +kernel
theorem dX12_isOrder_32 : decode cX12_isOrder 32 = .ok (.aload_n 0, 1) := by decide +kernel
theorem dX12_isOrder_33 : decode cX12_isOrder 33 = .ok (.getfield 25, 3) := by decide +kernel
theorem dX12_isOrder_36 : decode cX12_isOrder 36 = .ok (.iload 4, 2) := by decide +kernel
theorem dX12_isOrder_38 : decode cX12_isOrder 38 = .ok (.iaload, 1) := by decide +kernel
theorem dX12_isOrder_39 : decode cX12_isOrder 39 = .ok (.ishl, 1) := by decide +kernel
theorem dX12_isOrder_40 : decode cX12_isOrder 40 = .ok (.ior, 1) := by decide +kernel
theorem dX12_isOrder_41 : decode cX12_isOrder 41 = .ok (.istore_n 3, 1) := by decide +kernel
theorem dX12_isOrder_42 : decode cX12_isOrder 42 = .ok (.iload_n 2, 1) := by decide +kernel
theorem dX12_isOrder_43 : decode cX12_isOrder 43 = .ok (.aload_n 0, 1) := by decide +kernel
theorem dX12_isOrder_44 : decode cX12_isOrder 44 = .ok (.getfield 78, 3) := by decide +kernel
theorem dX12_isOrder_47 : decode cX12_isOrder 47 = .ok (.idiv, 1) := by decide +kernel
theorem dX12_isOrder_48 : decode cX12_isOrder 48 = .ok (.istore_n 2, 1) := by decide +kernel
theorem dX12_isOrder_49 : decode cX12_isOrder 49 = .ok (.iinc 4 (-1), 3) := by decide +kernel
theorem dX12_isOrder_52 : decode cX12_isOrder 52 = .ok (.goto (-40), 3) := by decide +kernel
theorem dX12_isOrder_55 : decode cX12_isOrder 55 = .ok (.iload_n 3, 1) := by decide +kernel
theorem dX12_isOrder_56 : decode cX12_isOrder 56 = .ok (.iconst 1, 1) := by decide +kernel
theorem dX12_isOrder_57 : decode cX12_isOrder 57 = .ok (.aload_n 0, 1) := by decide +kernel
theorem dX12_isOrder_58 : decode cX12_isOrder 58 = .ok (.getfield 78, 3) := by decide +kernel
theorem dX12_isOrder_61 : decode cX12_isOrder 61 = .ok (.ishl, 1) := by decide +kernel
theorem dX12_isOrder_62 : decode cX12_isOrder 62 = .ok (.iconst 1, 1) := by decide +kernel
theorem dX12_isOrder_63 : decode cX12_isOrder 63 = .ok (.isub, 1) := by decide +kernel
theorem dX12_isOrder_64 : decode cX12_isOrder 64 = .ok (.if_icmp .ne 7, 3) := by decide +kernel
theorem dX12_isOrder_67 : decode cX12_isOrder 67 = .ok (.iconst 1, 1) := by decide +kernel
theorem dX12_isOrder_68 : decode cX12_isOrder 68 = .ok (.goto 4, 3) := by decide +kernel
theorem dX12_isOrder_71 : decode cX12_isOrder 71 = .ok (.iconst 0, 1) := by decide +kernel
theorem dX12_isOrder_72 : decode cX12_isOrder 72 = .ok (.ireturn, 1) := by decide +kernel
theorem dX12_layHome_0 : decode cX12_layHome 0 = .ok (.aload_n 0, 1) := by decide +kernel
theorem dX12_layHome_1 : decode cX12_layHome 1 = .ok (.getfield 78, 3) := by decide +kernel
theorem dX12_layHome_4 : decode cX12_layHome 4 = .ok (.ifCond .ne 7, 3) := by decide +kernel
theorem dX12_layHome_7 : decode cX12_layHome 7 = .ok (.iconst 1, 1) := by decide +kernel
theorem dX12_layHome_8 : decode cX12_layHome 8 = .ok (.goto 29, 3) := by decide +kernel
theorem dX12_layHome_11 : decode cX12_layHome 11 = .ok (.aload_n 0, 1) := by decide +kernel
theorem dX12_layHome_12 : decode cX12_layHome 12 = .ok (.getfield 78, 3) := by decide +kernel
theorem dX12_layHome_15 : decode cX12_layHome 15 = .ok (.iconst 1, 1) := by decide +kernel
theorem dX12_layHome_16 : decode cX12_layHome 16 = .ok (.if_icmp .ne 7, 3) := by decide +kernel
theorem dX12_layHome_19 : decode cX12_layHome 19 = .ok (.iconst 1, 1) := by decide +kernel
theorem dX12_layHome_20 : decode cX12_layHome 20 = .ok (.goto 17, 3) := by decide +kernel
theorem dX12_layHome_23 : decode cX12_layHome 23 = .ok (.aload_n 0, 1) := by decide +kernel
theorem dX12_layHome_24 : decode cX12_layHome 24 = .ok (.getfield 78, 3) := by decide +kernel
theorem dX12_layHome_27 : decode cX12_layHome 27 = .ok (.iconst 2, 1) := by decide +kernel
theorem dX12_layHome_28 : decode cX12_layHome 28 = .ok (.if_icmp .ne 7, 3) := by decide +kernel
theorem dX12_layHome_31 : decode cX12_layHome 31 = .ok (.iconst 4, 1) := by decide +kernel
theorem dX12_layHome_32 : decode cX12_layHome 32 = .ok (.goto 5, 3) := by decide +kernel
theorem dX12_layHome_35 : decode cX12_layHome 35 = .ok (.bipush 27, 2) := by decide +kernel
theorem dX12_layHome_37 : decode cX12_layHome 37 = .ok (.istore_n 2, 1) := by decide +kernel
theorem dX12_layHome_38 : decode cX12_layHome 38 = .ok (.aload_n 0, 1) := by decide +kernel
theorem dX12_layHome_39 : decode cX12_layHome 39 = .ok (.iconst (-1), 1) := by decide +kernel
theorem dX12_layHome_40 : decode cX12_layHome 40 = .ok (.putfield 151, 3) := by decide +kernel
theorem dX12_layHome_43 : decode cX12_layHome 43 = .ok (.aload_n 0, 1) := by decide +kernel
theorem dX12_layHome_44 : decode cX12_layHome 44 = .ok (.iconst 0, 1) := by decide +kernel
theorem dX12_layHome_45 : decode cX12_layHome 45 = .ok (.putfield 154, 3) := by decide +kernel
theorem dX12_layHome_48 : decode cX12_layHome 48 = .ok (.iconst 0, 1) := by decide +kernel
theorem dX12_layHome_49 : decode cX12_layHome 49 = .ok (.istore_n 3, 1) := by decide +kernel
theorem dX12_layHome_50 : decode cX12_layHome 50 = .ok (.iload_n 3, 1) := by decide +kernel
theorem dX12_layHome_51 : decode cX12_layHome 51 = .ok (.iload_n 2, 1) := by decide +kernel
theorem dX12_layHome_52 : decode cX12_layHome 52 = .ok (.if_icmp .ge 149, 3) := by decide +kernel
theorem dX12_layHome_55 : decode cX12_layHome 55 = .ok (.aload_n 0, 1) := by decide +kernel
theorem dX12_layHome_56 : decode cX12_layHome 56 = .ok (.iload_n 3, 1) := by decide +kernel
theorem dX12_layHome_57 : decode cX12_layHome 57 = .ok (.invokevirtual 157, 3) := by decide +kernel
theorem dX12_layHome_60 : decode cX12_layHome 60 = .ok (.ifCond .eq 135, 3) := by decide +kernel
theorem dX12_layHome_63 : decode cX12_layHome 63 = .ok (.iconst 0, 1) := by decide +kernel
theorem dX12_layHome_64 : decode cX12_layHome 64 = .ok (.istore 4, 2) := by decide +kernel
theorem dX12_layHome_66 : decode cX12_layHome 66 = .ok (.aload_n 0, 1) := by decide +kernel
theorem dX12_layHome_67 : decode cX12_layHome 67 = .ok (.getfield 75, 3) := by decide +kernel
theorem dX12_layHome_70 : decode cX12_layHome 70 = .ok (.istore 5, 2) := by decide +kernel
theorem dX12_layHome_72 : decode cX12_layHome 72 = .ok (.iconst 0, 1) := by decide +kernel
theorem dX12_layHome_73 : decode cX12_layHome 73 = .ok (.istore 6, 2) := by decide +kernel
theorem dX12_layHome_75 : decode cX12_layHome 75 = .ok (.iload 6, 2) := by decide +kernel
theorem dX12_layHome_77 : decode cX12_layHome 77 = .ok (.aload_n 0, 1) := by decide +kernel
theorem dX12_layHome_78 : decode cX12_layHome 78 = .ok (.getfield 78, 3) := by decide +kernel
theorem dX12_layHome_81 : decode cX12_layHome 81 = .ok (.if_icmp .ge 64, 3) := by decide +kernel
theorem dX12_layHome_84 : decode cX12_layHome 84 = .ok (.aload_n 0, 1) := by decide +kernel
theorem dX12_layHome_85 : decode cX12_layHome 85 = .ok (.aload_n 0, 1) := by decide +kernel
theorem dX12_layHome_86 : decode cX12_layHome 86 = .ok (.getfield 25, 3) := by decide +kernel
theorem dX12_layHome_89 : decode cX12_layHome 89 = .ok (.iload 6, 2) := by decide +kernel
theorem dX12_layHome_91 : decode cX12_layHome 91 = .ok (.iaload, 1) := by decide +kernel
theorem dX12_layHome_92 : decode cX12_layHome 92 = .ok (.iload_n 1, 1) := by decide +kernel
theorem dX12_layHome_93 : decode cX12_layHome 93 = .ok (.iload 5, 2) := by decide +kernel
theorem dX12_layHome_95 : decode cX12_layHome 95 = .ok (.aload_n 0, 1) := by decide +kernel
theorem dX12_layHome_96 : decode cX12_layHome 96 = .ok (.getfield 50, 3) := by decide +kernel
theorem dX12_layHome_99 : decode cX12_layHome 99 = .ok (.aload_n 0, 1) := by decide +kernel
theorem dX12_layHome_100 : decode cX12_layHome 100 = .ok (.getfield 72, 3) := by decide +kernel
theorem dX12_layHome_103 : decode cX12_layHome 103 = .ok (.invokevirtual 147, 3) := by decide +kernel
theorem dX12_layHome_106 : decode cX12_layHome 106 = .ok (.istore 7, 2) := by decide +kernel
theorem dX12_layHome_108 : decode cX12_layHome 108 = .ok (.iload 4, 2) := by decide +kernel
theorem dX12_layHome_110 : decode cX12_layHome 110 = .ok (.iload 7, 2) := by decide +kernel
theorem dX12_layHome_112 : decode cX12_layHome 112 = .ok (.iconst (-1), 1) := by decide +kernel
theorem dX12_layHome_113 : decode cX12_layHome 113 = .ok (.if_icmp .ne 7, 3) := by decide +kernel
theorem dX12_layHome_116 : decode cX12_layHome 116 = .ok (.iconst 0, 1) := by decide +kernel
theorem dX12_layHome_117 : decode cX12_layHome 117 = .ok (.goto 4, 3) := by decide +kernel
theorem dX12_layHome_120 : decode cX12_layHome 120 = .ok (.iconst 1, 1) := by decide +kernel
theorem dX12_layHome_121 : decode cX12_layHome 121 = .ok (.iadd, 1) := by decide +kernel
theorem dX12_layHome_122 : decode cX12_layHome 122 = .ok (.istore 4, 2) := by decide +kernel
theorem dX12_layHome_124 : decode cX12_layHome 124 = .ok (.iload 7, 2) := by decide +kernel
theorem dX12_layHome_126 : decode cX12_layHome 126 = .ok (.iconst (-1), 1) := by decide +kernel
theorem dX12_layHome_127 : decode cX12_layHome 127 = .ok (.if_icmp .ne 8, 3) := by decide +kernel
theorem dX12_layHome_130 : decode cX12_layHome 130 = .ok (.iload 5, 2) := by decide +kernel
theorem dX12_layHome_132 : decode cX12_layHome 132 = .ok (.goto 5, 3) := by decide +kernel
theorem dX12_layHome_135 : decode cX12_layHome 135 = .ok (.iload 7, 2) := by decide +kernel
theorem dX12_layHome_137 : decode cX12_layHome 137 = .ok (.istore 5, 2) := by decide +kernel
theorem dX12_layHome_139 : decode cX12_layHome 139 = .ok (.iinc 6 1, 3) := by decide +kernel
theorem dX12_layHome_142 : decode cX12_layHome 142 = .ok (.goto (-67), 3) := by decide +kernel
theorem dX12_layHome_145 : decode cX12_layHome 145 = .ok (.iload 4, 2) := by decide +kernel
theorem dX12_layHome_147 : decode cX12_layHome 147 = .ok (.aload_n 0, 1) := by decide +kernel
theorem dX12_layHome_148 : decode cX12_layHome 148 = .ok (.getfield 151, 3) := by decide +kernel
theorem dX12_layHome_151 : decode cX12_layHome 151 = .ok (.if_icmp .gt 21, 3) := by decide +kernel
theorem dX12_layHome_154 : decode cX12_layHome 154 = .ok (.iload 4, 2) := by decide +kernel
theorem dX12_layHome_156 : decode cX12_layHome 156 = .ok (.aload_n 0, 1) := by decide +kernel
theorem dX12_layHome_157 : decode cX12_layHome 157 = .ok (.getfield 151, 3) := by decide +kernel
theorem dX12_layHome_160 : decode cX12_layHome 160 = .ok (.if_icmp .ne 35, 3) := by decide +kernel
theorem dX12_layHome_163 : decode cX12_layHome 163 = .ok (.iload 5, 2) := by decide +kernel
theorem dX12_layHome_165 : decode cX12_layHome 165 = .ok (.aload_n 0, 1) := by decide +kernel
theorem dX12_layHome_166 : decode cX12_layHome 166 = .ok (.getfield 154, 3) := by decide +kernel
theorem dX12_layHome_169 : decode cX12_layHome 169 = .ok (.if_icmp .ge 26, 3) := by decide +kernel
theorem dX12_layHome_172 : decode cX12_layHome 172 = .ok (.aload_n 0, 1) := by decide +kernel
theorem dX12_layHome_173 : decode cX12_layHome 173 = .ok (.iload 4, 2) := by decide +kernel
theorem dX12_layHome_175 : decode cX12_layHome 175 = .ok (.putfield 151, 3) := by decide +kernel
theorem dX12_layHome_178 : decode cX12_layHome 178 = .ok (.aload_n 0, 1) := by decide +kernel
theorem dX12_layHome_179 : decode cX12_layHome 179 = .ok (.iload 5, 2) := by decide +kernel
theorem dX12_layHome_181 : decode cX12_layHome 181 = .ok (.putfield 154, 3) := by decide +kernel
theorem dX12_layHome_184 : decode cX12_layHome 184 = .ok (.aload_n 0, 1) := by decide +kernel
theorem dX12_layHome_185 : decode cX12_layHome 185 = .ok (.getfield 25, 3) := by decide +kernel
theorem dX12_layHome_188 : decode cX12_layHome 188 = .ok (.aload_n 0, 1) := by decide +kernel
theorem dX12_layHome_189 : decode cX12_layHome 189 = .ok (.getfield 28, 3) := by decide +kernel
theorem dX12_layHome_192 : decode cX12_layHome 192 = .ok (.invokestatic 160, 3) := by decide +kernel
theorem dX12_layHome_195 : decode cX12_layHome 195 = .ok (.iinc 3 1, 3) := by decide +kernel
theorem dX12_layHome_198 : decode cX12_layHome 198 = .ok (.goto (-148), 3) := by decide +kernel
theorem dX12_layHome_201 : decode cX12_layHome 201 = .ok (.return_, 1) := by decide +kernel
theorem dX12_home_0 : decode cX12_home 0 = .ok (.aload_n 0, 1) := by decide +kernel
theorem dX12_home_1 : decode cX12_home 1 = .ok (.iload_n 1, 1) := by decide +kernel
theorem dX12_home_2 : decode cX12_home 2 = .ok (.invokevirtual 101, 3) := by decide +kernel
theorem dX12_home_5 : decode cX12_home 5 = .ok (.ifCond .ne 6, 3) := by decide +kernel
theorem dX12_home_8 : decode cX12_home 8 = .ok (.bipush (-101), 2) := by decide +kernel
theorem dX12_home_10 : decode cX12_home 10 = .ok (.ireturn, 1) := by decide +kernel
theorem dX12_home_11 : decode cX12_home 11 = .ok (.iload_n 2, 1) := by decide +kernel
theorem dX12_home_12 : decode cX12_home 12 = .ok (.i2l, 1) := by decide +kernel
theorem dX12_home_13 : decode cX12_home 13 = .ok (.lconst 0, 1) := by decide +kernel
theorem dX12_home_14 : decode cX12_home 14 = .ok (.lconst 1, 1) := by decide +kernel
theorem dX12_home_15 : decode cX12_home 15 = .ok (.invokestatic 55, 3) := by decide +kernel
theorem dX12_home_18 : decode cX12_home 18 = .ok (.ifCond .ne 20, 3) := by decide +kernel
theorem dX12_home_21 : decode cX12_home 21 = .ok (.iload_n 2, 1) := by decide +kernel
theorem dX12_home_22 : decode cX12_home 22 = .ok (.i2l, 1) := by decide +kernel
theorem dX12_home_23 : decode cX12_home 23 = .ok (.ldc2_w 123, 3) := by decide +kernel
theorem dX12_home_26 : decode cX12_home 26 = .ok (.ldc2_w 164, 3) := by decide +kernel
theorem dX12_home_29 : decode cX12_home 29 = .ok (.invokestatic 55, 3) := by decide +kernel
theorem dX12_home_32 : decode cX12_home 32 = .ok (.ifCond .ne 6, 3) := by decide +kernel
theorem dX12_home_35 : decode cX12_home 35 = .ok (.bipush (-102), 2) := by decide +kernel
theorem dX12_home_37 : decode cX12_home 37 = .ok (.ireturn, 1) := by decide +kernel
theorem dX12_home_38 : decode cX12_home 38 = .ok (.aload_n 0, 1) := by decide +kernel
theorem dX12_home_39 : decode cX12_home 39 = .ok (.iload_n 1, 1) := by decide +kernel
theorem dX12_home_40 : decode cX12_home 40 = .ok (.invokevirtual 166, 3) := by decide +kernel
theorem dX12_home_43 : decode cX12_home 43 = .ok (.iload_n 2, 1) := by decide +kernel
theorem dX12_home_44 : decode cX12_home 44 = .ok (.ifCond .ne 10, 3) := by decide +kernel
theorem dX12_home_47 : decode cX12_home 47 = .ok (.aload_n 0, 1) := by decide +kernel
theorem dX12_home_48 : decode cX12_home 48 = .ok (.getfield 151, 3) := by decide +kernel
theorem dX12_home_51 : decode cX12_home 51 = .ok (.goto 39, 3) := by decide +kernel
theorem dX12_home_54 : decode cX12_home 54 = .ok (.iload_n 2, 1) := by decide +kernel
theorem dX12_home_55 : decode cX12_home 55 = .ok (.iconst 1, 1) := by decide +kernel
theorem dX12_home_56 : decode cX12_home 56 = .ok (.if_icmp .ne 10, 3) := by decide +kernel
theorem dX12_home_59 : decode cX12_home 59 = .ok (.aload_n 0, 1) := by decide +kernel
theorem dX12_home_60 : decode cX12_home 60 = .ok (.getfield 154, 3) := by decide +kernel
theorem dX12_home_63 : decode cX12_home 63 = .ok (.goto 27, 3) := by decide +kernel
theorem dX12_home_66 : decode cX12_home 66 = .ok (.iload_n 2, 1) := by decide +kernel
theorem dX12_home_67 : decode cX12_home 67 = .ok (.bipush 10, 2) := by decide +kernel
theorem dX12_home_69 : decode cX12_home 69 = .ok (.isub, 1) := by decide +kernel
theorem dX12_home_70 : decode cX12_home 70 = .ok (.aload_n 0, 1) := by decide +kernel
theorem dX12_home_71 : decode cX12_home 71 = .ok (.getfield 78, 3) := by decide +kernel
theorem dX12_home_74 : decode cX12_home 74 = .ok (.if_icmp .ge 15, 3) := by decide +kernel
theorem dX12_home_77 : decode cX12_home 77 = .ok (.aload_n 0, 1) := by decide +kernel
theorem dX12_home_78 : decode cX12_home 78 = .ok (.getfield 28, 3) := by decide +kernel
theorem dX12_home_81 : decode cX12_home 81 = .ok (.iload_n 2, 1) := by decide +kernel
theorem dX12_home_82 : decode cX12_home 82 = .ok (.bipush 10, 2) := by decide +kernel
theorem dX12_home_84 : decode cX12_home 84 = .ok (.isub, 1) := by decide +kernel
theorem dX12_home_85 : decode cX12_home 85 = .ok (.iaload, 1) := by decide +kernel
theorem dX12_home_86 : decode cX12_home 86 = .ok (.goto 4, 3) := by decide +kernel
theorem dX12_home_89 : decode cX12_home 89 = .ok (.iconst (-1), 1) := by decide +kernel
theorem dX12_home_90 : decode cX12_home 90 = .ok (.ireturn, 1) := by decide +kernel
theorem dX12_bestWind_0 : decode cX12_bestWind 0 = .ok (.aload_n 0, 1) := by decide +kernel
theorem dX12_bestWind_1 : decode cX12_bestWind 1 = .ok (.iload_n 1, 1) := by decide +kernel
theorem dX12_bestWind_2 : decode cX12_bestWind 2 = .ok (.invokevirtual 134, 3) := by decide +kernel
theorem dX12_bestWind_5 : decode cX12_bestWind 5 = .ok (.ifCond .eq 11, 3) := by decide +kernel
theorem dX12_bestWind_8 : decode cX12_bestWind 8 = .ok (.aload_n 0, 1) := by decide +kernel
theorem dX12_bestWind_9 : decode cX12_bestWind 9 = .ok (.iload_n 2, 1) := by decide +kernel
theorem dX12_bestWind_10 : decode cX12_bestWind 10 = .ok (.invokevirtual 101, 3) := by decide +kernel
theorem dX12_bestWind_13 : decode cX12_bestWind 13 = .ok (.ifCond .ne 6, 3) := by decide +kernel
theorem dX12_bestWind_16 : decode cX12_bestWind 16 = .ok (.bipush (-101), 2) := by decide +kernel
theorem dX12_bestWind_18 : decode cX12_bestWind 18 = .ok (.ireturn, 1) := by decide +kernel
theorem dX12_bestWind_19 : decode cX12_bestWind 19 = .ok (.iconst (-1), 1) := by decide +kernel
theorem dX12_bestWind_20 : decode cX12_bestWind 20 = .ok (.istore_n 3, 1) := by decide +kernel
theorem dX12_bestWind_21 : decode cX12_bestWind 21 = .ok (.ldc 142, 2) := by decide +kernel
theorem dX12_bestWind_23 : decode cX12_bestWind 23 = .ok (.istore 4, 2) := by decide +kernel
theorem dX12_bestWind_25 : decode cX12_bestWind 25 = .ok (.iconst 0, 1) := by decide +kernel
theorem dX12_bestWind_26 : decode cX12_bestWind 26 = .ok (.istore 5, 2) := by decide +kernel
theorem dX12_bestWind_28 : decode cX12_bestWind 28 = .ok (.iload 5, 2) := by decide +kernel
theorem dX12_bestWind_30 : decode cX12_bestWind 30 = .ok (.iconst 5, 1) := by decide +kernel
theorem dX12_bestWind_31 : decode cX12_bestWind 31 = .ok (.if_icmp .ge 73, 3) := by decide +kernel
theorem dX12_bestWind_34 : decode cX12_bestWind 34 = .ok (.aload_n 0, 1) := by decide +kernel
theorem dX12_bestWind_35 : decode cX12_bestWind 35 = .ok (.iload_n 1, 1) := by decide +kernel
theorem dX12_bestWind_36 : decode cX12_bestWind 36 = .ok (.iload_n 2, 1) := by decide +kernel
theorem dX12_bestWind_37 : decode cX12_bestWind 37 = .ok (.aload_n 0, 1) := by decide +kernel
theorem dX12_bestWind_38 : decode cX12_bestWind 38 = .ok (.getfield 75, 3) := by decide +kernel
theorem dX12_bestWind_41 : decode cX12_bestWind 41 = .ok (.iload 5, 2) := by decide +kernel
theorem dX12_bestWind_43 : decode cX12_bestWind 43 = .ok (.aload_n 0, 1) := by decide +kernel
theorem dX12_bestWind_44 : decode cX12_bestWind 44 = .ok (.getfield 72, 3) := by decide +kernel
theorem dX12_bestWind_47 : decode cX12_bestWind 47 = .ok (.invokevirtual 147, 3) := by decide +kernel
theorem dX12_bestWind_50 : decode cX12_bestWind 50 = .ok (.istore 6, 2) := by decide +kernel
theorem dX12_bestWind_52 : decode cX12_bestWind 52 = .ok (.iload 6, 2) := by decide +kernel
theorem dX12_bestWind_54 : decode cX12_bestWind 54 = .ok (.iconst (-1), 1) := by decide +kernel
theorem dX12_bestWind_55 : decode cX12_bestWind 55 = .ok (.if_icmp .eq 14, 3) := by decide +kernel
theorem dX12_bestWind_58 : decode cX12_bestWind 58 = .ok (.iload 6, 2) := by decide +kernel
theorem dX12_bestWind_60 : decode cX12_bestWind 60 = .ok (.iload 4, 2) := by decide +kernel
theorem dX12_bestWind_62 : decode cX12_bestWind 62 = .ok (.if_icmp .ge 7, 3) := by decide +kernel
theorem dX12_bestWind_65 : decode cX12_bestWind 65 = .ok (.iconst 1, 1) := by decide +kernel
theorem dX12_bestWind_66 : decode cX12_bestWind 66 = .ok (.goto 4, 3) := by decide +kernel
theorem dX12_bestWind_69 : decode cX12_bestWind 69 = .ok (.iconst 0, 1) := by decide +kernel
theorem dX12_bestWind_70 : decode cX12_bestWind 70 = .ok (.istore 7, 2) := by decide +kernel
theorem dX12_bestWind_72 : decode cX12_bestWind 72 = .ok (.iload 7, 2) := by decide +kernel
theorem dX12_bestWind_74 : decode cX12_bestWind 74 = .ok (.ifCond .eq 8, 3) := by decide +kernel
theorem dX12_bestWind_77 : decode cX12_bestWind 77 = .ok (.iload 5, 2) := by decide +kernel
theorem dX12_bestWind_79 : decode cX12_bestWind 79 = .ok (.goto 4, 3) := by decide +kernel
theorem dX12_bestWind_82 : decode cX12_bestWind 82 = .ok (.iload_n 3, 1) := by decide +kernel
theorem dX12_bestWind_83 : decode cX12_bestWind 83 = .ok (.istore_n 3, 1) := by decide +kernel
theorem dX12_bestWind_84 : decode cX12_bestWind 84 = .ok (.iload 7, 2) := by decide +kernel
theorem dX12_bestWind_86 : decode cX12_bestWind 86 = .ok (.ifCond .eq 8, 3) := by decide +kernel
theorem dX12_bestWind_89 : decode cX12_bestWind 89 = .ok (.iload 6, 2) := by decide +kernel
theorem dX12_bestWind_91 : decode cX12_bestWind 91 = .ok (.goto 5, 3) := by decide +kernel
theorem dX12_bestWind_94 : decode cX12_bestWind 94 = .ok (.iload 4, 2) := by decide +kernel
theorem dX12_bestWind_96 : decode cX12_bestWind 96 = .ok (.istore 4, 2) := by decide +kernel
theorem dX12_bestWind_98 : decode cX12_bestWind 98 = .ok (.iinc 5 1, 3) := by decide +kernel
theorem dX12_bestWind_101 : decode cX12_bestWind 101 = .ok (.goto (-73), 3) := by decide +kernel
theorem dX12_bestWind_104 : decode cX12_bestWind 104 = .ok (.iload_n 3, 1) := by decide +kernel
theorem dX12_bestWind_105 : decode cX12_bestWind 105 = .ok (.ireturn, 1) := by decide +kernel
theorem dX12_see_0 : decode cX12_see 0 = .ok (.aload_n 0, 1) := by decide +kernel
theorem dX12_see_1 : decode cX12_see 1 = .ok (.iload_n 1, 1) := by decide +kernel
theorem dX12_see_2 : decode cX12_see 2 = .ok (.invokevirtual 134, 3) := by decide +kernel
theorem dX12_see_5 : decode cX12_see 5 = .ok (.ifCond .eq 11, 3) := by decide +kernel
theorem dX12_see_8 : decode cX12_see 8 = .ok (.aload_n 0, 1) := by decide +kernel
theorem dX12_see_9 : decode cX12_see 9 = .ok (.iload_n 2, 1) := by decide +kernel
theorem dX12_see_10 : decode cX12_see 10 = .ok (.invokevirtual 101, 3) := by decide +kernel
theorem dX12_see_13 : decode cX12_see 13 = .ok (.ifCond .ne 6, 3) := by decide +kernel
theorem dX12_see_16 : decode cX12_see 16 = .ok (.bipush (-101), 2) := by decide +kernel
theorem dX12_see_18 : decode cX12_see 18 = .ok (.ireturn, 1) := by decide +kernel
theorem dX12_see_19 : decode cX12_see 19 = .ok (.iload_n 3, 1) := by decide +kernel
theorem dX12_see_20 : decode cX12_see 20 = .ok (.i2l, 1) := by decide +kernel
theorem dX12_see_21 : decode cX12_see 21 = .ok (.lconst 0, 1) := by decide +kernel
theorem dX12_see_22 : decode cX12_see 22 = .ok (.ldc2_w 170, 3) := by decide +kernel
theorem dX12_see_25 : decode cX12_see 25 = .ok (.invokestatic 55, 3) := by decide +kernel
theorem dX12_see_28 : decode cX12_see 28 = .ok (.ifCond .ne 6, 3) := by decide +kernel
theorem dX12_see_31 : decode cX12_see 31 = .ok (.bipush (-102), 2) := by decide +kernel
theorem dX12_see_33 : decode cX12_see 33 = .ok (.ireturn, 1) := by decide +kernel
theorem dX12_see_34 : decode cX12_see 34 = .ok (.aload_n 0, 1) := by decide +kernel
theorem dX12_see_35 : decode cX12_see 35 = .ok (.getfield 81, 3) := by decide +kernel
theorem dX12_see_38 : decode cX12_see 38 = .ok (.bipush 6, 2) := by decide +kernel
theorem dX12_see_40 : decode cX12_see 40 = .ok (.if_icmp .ne 6, 3) := by decide +kernel
theorem dX12_see_43 : decode cX12_see 43 = .ok (.bipush (-104), 2) := by decide +kernel
theorem dX12_see_45 : decode cX12_see 45 = .ok (.ireturn, 1) := by decide +kernel
theorem dX12_see_46 : decode cX12_see 46 = .ok (.aload_n 0, 1) := by decide +kernel
theorem dX12_see_47 : decode cX12_see 47 = .ok (.getfield 31, 3) := by decide +kernel
theorem dX12_see_50 : decode cX12_see 50 = .ok (.iconst 3, 1) := by decide +kernel
theorem dX12_see_51 : decode cX12_see 51 = .ok (.aload_n 0, 1) := by decide +kernel
theorem dX12_see_52 : decode cX12_see 52 = .ok (.getfield 81, 3) := by decide +kernel
theorem dX12_see_55 : decode cX12_see 55 = .ok (.imul, 1) := by decide +kernel
theorem dX12_see_56 : decode cX12_see 56 = .ok (.iload_n 1, 1) := by decide +kernel
theorem dX12_see_57 : decode cX12_see 57 = .ok (.iastore, 1) := by decide +kernel
theorem dX12_see_58 : decode cX12_see 58 = .ok (.aload_n 0, 1) := by decide +kernel
theorem dX12_see_59 : decode cX12_see 59 = .ok (.getfield 31, 3) := by decide +kernel
theorem dX12_see_62 : decode cX12_see 62 = .ok (.iconst 3, 1) := by decide +kernel
theorem dX12_see_63 : decode cX12_see 63 = .ok (.aload_n 0, 1) := by decide +kernel
theorem dX12_see_64 : decode cX12_see 64 = .ok (.getfield 81, 3) := by decide +kernel
theorem dX12_see_67 : decode cX12_see 67 = .ok (.imul, 1) := by decide +kernel
theorem dX12_see_68 : decode cX12_see 68 = .ok (.iconst 1, 1) := by decide +kernel
theorem dX12_see_69 : decode cX12_see 69 = .ok (.iadd, 1) := by decide +kernel
theorem dX12_see_70 : decode cX12_see 70 = .ok (.iload_n 2, 1) := by decide +kernel
theorem dX12_see_71 : decode cX12_see 71 = .ok (.iastore, 1) := by decide +kernel
theorem dX12_see_72 : decode cX12_see 72 = .ok (.aload_n 0, 1) := by decide +kernel
theorem dX12_see_73 : decode cX12_see 73 = .ok (.getfield 31, 3) := by decide +kernel
theorem dX12_see_76 : decode cX12_see 76 = .ok (.iconst 3, 1) := by decide +kernel
theorem dX12_see_77 : decode cX12_see 77 = .ok (.aload_n 0, 1) := by decide +kernel
theorem dX12_see_78 : decode cX12_see 78 = .ok (.getfield 81, 3) := by decide +kernel
theorem dX12_see_81 : decode cX12_see 81 = .ok (.imul, 1) := by decide +kernel
theorem dX12_see_82 : decode cX12_see 82 = .ok (.iconst 2, 1) := by decide +kernel
theorem dX12_see_83 : decode cX12_see 83 = .ok (.iadd, 1) := by decide +kernel
theorem dX12_see_84 : decode cX12_see 84 = .ok (.iload_n 3, 1) := by decide +kernel
theorem dX12_see_85 : decode cX12_see 85 = .ok (.iastore, 1) := by decide +kernel
theorem dX12_see_86 : decode cX12_see 86 = .ok (.aload_n 0, 1) := by decide +kernel
theorem dX12_see_87 : decode cX12_see 87 = .ok (.dup, 1) := by decide +kernel
theorem dX12_see_88 : decode cX12_see 88 = .ok (.getfield 81, 3) := by decide +kernel
theorem dX12_see_91 : decode cX12_see 91 = .ok (.iconst 1, 1) := by decide +kernel
theorem dX12_see_92 : decode cX12_see 92 = .ok (.iadd, 1) := by decide +kernel
theorem dX12_see_93 : decode cX12_see 93 = .ok (.putfield 81, 3) := by decide +kernel
theorem dX12_see_96 : decode cX12_see 96 = .ok (.aload_n 0, 1) := by decide +kernel
theorem dX12_see_97 : decode cX12_see 97 = .ok (.getfield 81, 3) := by decide +kernel
theorem dX12_see_100 : decode cX12_see 100 = .ok (.ireturn, 1) := by decide +kernel
theorem dX12_forget_0 : decode cX12_forget 0 = .ok (.aload_n 0, 1) := by decide +kernel
theorem dX12_forget_1 : decode cX12_forget 1 = .ok (.getfield 81, 3) := by decide +kernel
theorem dX12_forget_4 : decode cX12_forget 4 = .ok (.istore_n 1, 1) := by decide +kernel
theorem dX12_forget_5 : decode cX12_forget 5 = .ok (.aload_n 0, 1) := by decide +kernel
theorem dX12_forget_6 : decode cX12_forget 6 = .ok (.iconst 0, 1) := by decide +kernel
theorem dX12_forget_7 : decode cX12_forget 7 = .ok (.putfield 81, 3) := by decide +kernel
theorem dX12_forget_10 : decode cX12_forget 10 = .ok (.iload_n 1, 1) := by decide +kernel
theorem dX12_forget_11 : decode cX12_forget 11 = .ok (.ireturn, 1) := by decide +kernel
theorem dX12_seenAt_0 : decode cX12_seenAt 0 = .ok (.sipush 4095, 3) := by decide +kernel
theorem dX12_seenAt_3 : decode cX12_seenAt 3 = .ok (.istore_n 3, 1) := by decide +kernel
theorem dX12_seenAt_4 : decode cX12_seenAt 4 = .ok (.iconst 0, 1) := by decide +kernel
theorem dX12_seenAt_5 : decode cX12_seenAt 5 = .ok (.istore 4, 2) := by decide +kernel
theorem dX12_seenAt_7 : decode cX12_seenAt 7 = .ok (.iload 4, 2) := by decide +kernel
theorem dX12_seenAt_9 : decode cX12_seenAt 9 = .ok (.aload_n 0, 1) := by decide +kernel
theorem dX12_seenAt_10 : decode cX12_seenAt 10 = .ok (.getfield 81, 3) := by decide +kernel
theorem dX12_seenAt_13 : decode cX12_seenAt 13 = .ok (.if_icmp .ge 59, 3) := by decide +kernel
theorem dX12_seenAt_16 : decode cX12_seenAt 16 = .ok (.iload_n 3, 1) := by decide +kernel
theorem dX12_seenAt_17 : decode cX12_seenAt 17 = .ok (.aload_n 0, 1) := by decide +kernel
theorem dX12_seenAt_18 : decode cX12_seenAt 18 = .ok (.getfield 31, 3) := by decide +kernel
theorem dX12_seenAt_21 : decode cX12_seenAt 21 = .ok (.iconst 3, 1) := by decide +kernel
theorem dX12_seenAt_22 : decode cX12_seenAt 22 = .ok (.iload 4, 2) := by decide +kernel
theorem dX12_seenAt_24 : decode cX12_seenAt 24 = .ok (.imul, 1) := by decide +kernel
theorem dX12_seenAt_25 : decode cX12_seenAt 25 = .ok (.iaload, 1) := by decide +kernel
theorem dX12_seenAt_26 : decode cX12_seenAt 26 = .ok (.iload_n 1, 1) := by decide +kernel
theorem dX12_seenAt_27 : decode cX12_seenAt 27 = .ok (.if_icmp .ne 34, 3) := by decide +kernel
theorem dX12_seenAt_30 : decode cX12_seenAt 30 = .ok (.aload_n 0, 1) := by decide +kernel
theorem dX12_seenAt_31 : decode cX12_seenAt 31 = .ok (.getfield 31, 3) := by decide +kernel
theorem dX12_seenAt_34 : decode cX12_seenAt 34 = .ok (.iconst 3, 1) := by decide +kernel
theorem dX12_seenAt_35 : decode cX12_seenAt 35 = .ok (.iload 4, 2) := by decide +kernel
theorem dX12_seenAt_37 : decode cX12_seenAt 37 = .ok (.imul, 1) := by decide +kernel
theorem dX12_seenAt_38 : decode cX12_seenAt 38 = .ok (.iconst 2, 1) := by decide +kernel
theorem dX12_seenAt_39 : decode cX12_seenAt 39 = .ok (.iadd, 1) := by decide +kernel
theorem dX12_seenAt_40 : decode cX12_seenAt 40 = .ok (.iaload, 1) := by decide +kernel
theorem dX12_seenAt_41 : decode cX12_seenAt 41 = .ok (.iload_n 2, 1) := by decide +kernel
theorem dX12_seenAt_42 : decode cX12_seenAt 42 = .ok (.if_icmp .ne 19, 3) := by decide +kernel
theorem dX12_seenAt_45 : decode cX12_seenAt 45 = .ok (.iconst 1, 1) := by decide +kernel
theorem dX12_seenAt_46 : decode cX12_seenAt 46 = .ok (.aload_n 0, 1) := by decide +kernel
theorem dX12_seenAt_47 : decode cX12_seenAt 47 = .ok (.getfield 31, 3) := by decide +kernel
theorem dX12_seenAt_50 : decode cX12_seenAt 50 = .ok (.iconst 3, 1) := by decide +kernel
theorem dX12_seenAt_51 : decode cX12_seenAt 51 = .ok (.iload 4, 2) := by decide +kernel
theorem dX12_seenAt_53 : decode cX12_seenAt 53 = .ok (.imul, 1) := by decide +kernel
theorem dX12_seenAt_54 : decode cX12_seenAt 54 = .ok (.iconst 1, 1) := by decide +kernel
theorem dX12_seenAt_55 : decode cX12_seenAt 55 = .ok (.iadd, 1) := by decide +kernel
theorem dX12_seenAt_56 : decode cX12_seenAt 56 = .ok (.iaload, 1) := by decide +kernel
theorem dX12_seenAt_57 : decode cX12_seenAt 57 = .ok (.ishl, 1) := by decide +kernel
theorem dX12_seenAt_58 : decode cX12_seenAt 58 = .ok (.goto 6, 3) := by decide +kernel
theorem dX12_seenAt_61 : decode cX12_seenAt 61 = .ok (.sipush 4095, 3) := by decide +kernel
theorem dX12_seenAt_64 : decode cX12_seenAt 64 = .ok (.iand, 1) := by decide +kernel
theorem dX12_seenAt_65 : decode cX12_seenAt 65 = .ok (.istore_n 3, 1) := by decide +kernel
theorem dX12_seenAt_66 : decode cX12_seenAt 66 = .ok (.iinc 4 1, 3) := by decide +kernel
theorem dX12_seenAt_69 : decode cX12_seenAt 69 = .ok (.goto (-62), 3) := by decide +kernel
theorem dX12_seenAt_72 : decode cX12_seenAt 72 = .ok (.iload_n 3, 1) := by decide +kernel
theorem dX12_seenAt_73 : decode cX12_seenAt 73 = .ok (.ireturn, 1) := by decide +kernel
theorem dX12_isSeenBetween_0 : decode cX12_isSeenBetween 0 = .ok (.iconst 0, 1) := by decide +kernel
theorem dX12_isSeenBetween_1 : decode cX12_isSeenBetween 1 = .ok (.istore 4, 2) := by decide +kernel
theorem dX12_isSeenBetween_3 : decode cX12_isSeenBetween 3 = .ok (.iconst 0, 1) := by decide +kernel
theorem dX12_isSeenBetween_4 : decode cX12_isSeenBetween 4 = .ok (.istore 5, 2) := by decide +kernel
theorem dX12_isSeenBetween_6 : decode cX12_isSeenBetween 6 = .ok (.iload 5, 2) := by decide +kernel
theorem dX12_isSeenBetween_8 : decode cX12_isSeenBetween 8 = .ok (.aload_n 0, 1) := by decide +kernel
theorem dX12_isSeenBetween_9 : decode cX12_isSeenBetween 9 = .ok (.getfield 81, 3) := by decide +kernel
theorem dX12_isSeenBetween_12 : decode cX12_isSeenBetween 12 = .ok (.if_icmp .ge 64, 3) := by decide +kernel
theorem dX12_isSeenBetween_15 : decode cX12_isSeenBetween 15 = .ok (.iload 4, 2) := by decide +kernel
theorem dX12_isSeenBetween_17 : decode cX12_isSeenBetween 17 = .ok (.ifCond .ne 46, 3) := by decide +kernel
theorem dX12_isSeenBetween_20 : decode cX12_isSeenBetween 20 = .ok (.aload_n 0, 1) := by decide +kernel
theorem dX12_isSeenBetween_21 : decode cX12_isSeenBetween 21 = .ok (.getfield 31, 3) := by decide +kernel
theorem dX12_isSeenBetween_24 : decode cX12_isSeenBetween 24 = .ok (.iconst 3, 1) := by decide +kernel
theorem dX12_isSeenBetween_25 : decode cX12_isSeenBetween 25 = .ok (.iload 5, 2) := by decide +kernel
theorem dX12_isSeenBetween_27 : decode cX12_isSeenBetween 27 = .ok (.imul, 1) := by decide +kernel
theorem dX12_isSeenBetween_28 : decode cX12_isSeenBetween 28 = .ok (.iaload, 1) := by decide +kernel
theorem dX12_isSeenBetween_29 : decode cX12_isSeenBetween 29 = .ok (.iload_n 1, 1) := by decide +kernel
theorem dX12_isSeenBetween_30 : decode cX12_isSeenBetween 30 = .ok (.if_icmp .ne 37, 3) := by decide +kernel
theorem dX12_isSeenBetween_33 : decode cX12_isSeenBetween 33 = .ok (.aload_n 0, 1) := by decide +kernel
theorem dX12_isSeenBetween_34 : decode cX12_isSeenBetween 34 = .ok (.getfield 31, 3) := by decide +kernel
theorem dX12_isSeenBetween_37 : decode cX12_isSeenBetween 37 = .ok (.iconst 3, 1) := by decide +kernel
theorem dX12_isSeenBetween_38 : decode cX12_isSeenBetween 38 = .ok (.iload 5, 2) := by decide +kernel
theorem dX12_isSeenBetween_40 : decode cX12_isSeenBetween 40 = .ok (.imul, 1) := by decide +kernel
theorem dX12_isSeenBetween_41 : decode cX12_isSeenBetween 41 = .ok (.iconst 2, 1) := by decide +kernel
theorem dX12_isSeenBetween_42 : decode cX12_isSeenBetween 42 = .ok (.iadd, 1) := by decide +kernel
theorem dX12_isSeenBetween_43 : decode cX12_isSeenBetween 43 = .ok (.iaload, 1) := by decide +kernel
theorem dX12_isSeenBetween_44 : decode cX12_isSeenBetween 44 = .ok (.iload_n 2, 1) := by decide +kernel
theorem dX12_isSeenBetween_45 : decode cX12_isSeenBetween 45 = .ok (.if_icmp .le 22, 3) := by decide +kernel
theorem dX12_isSeenBetween_48 : decode cX12_isSeenBetween 48 = .ok (.aload_n 0, 1) := by decide +kernel
theorem dX12_isSeenBetween_49 : decode cX12_isSeenBetween 49 = .ok (.getfield 31, 3) := by decide +kernel
theorem dX12_isSeenBetween_52 : decode cX12_isSeenBetween 52 = .ok (.iconst 3, 1) := by decide +kernel
theorem dX12_isSeenBetween_53 : decode cX12_isSeenBetween 53 = .ok (.iload 5, 2) := by decide +kernel
theorem dX12_isSeenBetween_55 : decode cX12_isSeenBetween 55 = .ok (.imul, 1) := by decide +kernel
theorem dX12_isSeenBetween_56 : decode cX12_isSeenBetween 56 = .ok (.iconst 2, 1) := by decide +kernel
theorem dX12_isSeenBetween_57 : decode cX12_isSeenBetween 57 = .ok (.iadd, 1) := by decide +kernel
theorem dX12_isSeenBetween_58 : decode cX12_isSeenBetween 58 = .ok (.iaload, 1) := by decide +kernel
theorem dX12_isSeenBetween_59 : decode cX12_isSeenBetween 59 = .ok (.iload_n 3, 1) := by decide +kernel
theorem dX12_isSeenBetween_60 : decode cX12_isSeenBetween 60 = .ok (.if_icmp .ge 7, 3) := by decide +kernel
theorem dX12_isSeenBetween_63 : decode cX12_isSeenBetween 63 = .ok (.iconst 1, 1) := by decide +kernel
theorem dX12_isSeenBetween_64 : decode cX12_isSeenBetween 64 = .ok (.goto 4, 3) := by decide +kernel
theorem dX12_isSeenBetween_67 : decode cX12_isSeenBetween 67 = .ok (.iconst 0, 1) := by decide +kernel
theorem dX12_isSeenBetween_68 : decode cX12_isSeenBetween 68 = .ok (.istore 4, 2) := by decide +kernel
theorem dX12_isSeenBetween_70 : decode cX12_isSeenBetween 70 = .ok (.iinc 5 1, 3) := by decide +kernel
theorem dX12_isSeenBetween_73 : decode cX12_isSeenBetween 73 = .ok (.goto (-67), 3) := by decide +kernel
theorem dX12_isSeenBetween_76 : decode cX12_isSeenBetween 76 = .ok (.iload 4, 2) := by decide +kernel
theorem dX12_isSeenBetween_78 : decode cX12_isSeenBetween 78 = .ok (.ireturn, 1) := by decide +kernel
theorem dX12_canStart_0 : decode cX12_canStart 0 = .ok (.iconst 0, 1) := by decide +kernel
theorem dX12_canStart_1 : decode cX12_canStart 1 = .ok (.istore_n 3, 1) := by decide +kernel
theorem dX12_canStart_2 : decode cX12_canStart 2 = .ok (.iload_n 3, 1) := by decide +kernel
theorem dX12_canStart_3 : decode cX12_canStart 3 = .ok (.bipush 48, 2) := by decide +kernel
theorem dX12_canStart_5 : decode cX12_canStart 5 = .ok (.if_icmp .ge 16, 3) := by decide +kernel
theorem dX12_canStart_8 : decode cX12_canStart 8 = .ok (.aload_n 0, 1) := by decide +kernel
theorem dX12_canStart_9 : decode cX12_canStart 9 = .ok (.getfield 34, 3) := by decide +kernel
theorem dX12_canStart_12 : decode cX12_canStart 12 = .ok (.iload_n 3, 1) := by decide +kernel
theorem dX12_canStart_13 : decode cX12_canStart 13 = .ok (.iconst 0, 1) := by decide +kernel
theorem dX12_canStart_14 : decode cX12_canStart 14 = .ok (.iastore, 1) := by decide +kernel
theorem dX12_canStart_15 : decode cX12_canStart 15 = .ok (.iinc 3 1, 3) := by decide +kernel
theorem dX12_canStart_18 : decode cX12_canStart 18 = .ok (.goto (-16), 3) := by decide +kernel
theorem dX12_canStart_21 : decode cX12_canStart 21 = .ok (.aload_n 0, 1) := by decide +kernel
theorem dX12_canStart_22 : decode cX12_canStart 22 = .ok (.getfield 34, 3) := by decide +kernel
theorem dX12_canStart_25 : decode cX12_canStart 25 = .ok (.iconst 0, 1) := by decide +kernel
theorem dX12_canStart_26 : decode cX12_canStart 26 = .ok (.iconst 1, 1) := by decide +kernel
theorem dX12_canStart_27 : decode cX12_canStart 27 = .ok (.iload_n 2, 1) := by decide +kernel
theorem dX12_canStart_28 : decode cX12_canStart 28 = .ok (.ishl, 1) := by decide +kernel
theorem dX12_canStart_29 : decode cX12_canStart 29 = .ok (.iastore, 1) := by decide +kernel
theorem dX12_canStart_30 : decode cX12_canStart 30 = .ok (.iconst 0, 1) := by decide +kernel
theorem dX12_canStart_31 : decode cX12_canStart 31 = .ok (.istore_n 3, 1) := by decide +kernel
theorem dX12_canStart_32 : decode cX12_canStart 32 = .ok (.iload_n 3, 1) := by decide +kernel
theorem dX12_canStart_33 : decode cX12_canStart 33 = .ok (.bipush 40, 2) := by decide +kernel
theorem dX12_canStart_35 : decode cX12_canStart 35 = .ok (.if_icmp .gt 158, 3) := by decide +kernel
theorem dX12_canStart_38 : decode cX12_canStart 38 = .ok (.aload_n 0, 1) := by decide +kernel
theorem dX12_canStart_39 : decode cX12_canStart 39 = .ok (.getfield 34, 3) := by decide +kernel
theorem dX12_canStart_42 : decode cX12_canStart 42 = .ok (.iload_n 3, 1) := by decide +kernel
theorem dX12_canStart_43 : decode cX12_canStart 43 = .ok (.dup2, 1) := by decide +kernel
theorem dX12_canStart_44 : decode cX12_canStart 44 = .ok (.iaload, 1) := by decide +kernel
theorem dX12_canStart_45 : decode cX12_canStart 45 = .ok (.aload_n 0, 1) := by decide +kernel
theorem dX12_canStart_46 : decode cX12_canStart 46 = .ok (.iload_n 1, 1) := by decide +kernel
theorem dX12_canStart_47 : decode cX12_canStart 47 = .ok (.iload_n 3, 1) := by decide +kernel
theorem dX12_canStart_48 : decode cX12_canStart 48 = .ok (.invokevirtual 172, 3) := by decide +kernel
theorem dX12_canStart_51 : decode cX12_canStart 51 = .ok (.iand, 1) := by decide +kernel
theorem dX12_canStart_52 : decode cX12_canStart 52 = .ok (.iastore, 1) := by decide +kernel
theorem dX12_canStart_53 : decode cX12_canStart 53 = .ok (.aload_n 0, 1) := by decide +kernel
theorem dX12_canStart_54 : decode cX12_canStart 54 = .ok (.getfield 34, 3) := by decide +kernel
theorem dX12_canStart_57 : decode cX12_canStart 57 = .ok (.iload_n 3, 1) := by decide +kernel
theorem dX12_canStart_58 : decode cX12_canStart 58 = .ok (.iconst 1, 1) := by decide +kernel
theorem dX12_canStart_59 : decode cX12_canStart 59 = .ok (.iadd, 1) := by decide +kernel
theorem dX12_canStart_60 : decode cX12_canStart 60 = .ok (.dup2, 1) := by decide +kernel
theorem dX12_canStart_61 : decode cX12_canStart 61 = .ok (.iaload, 1) := by decide +kernel
theorem dX12_canStart_62 : decode cX12_canStart 62 = .ok (.aload_n 0, 1) := by decide +kernel
theorem dX12_canStart_63 : decode cX12_canStart 63 = .ok (.getfield 34, 3) := by decide +kernel
theorem dX12_canStart_66 : decode cX12_canStart 66 = .ok (.iload_n 3, 1) := by decide +kernel
theorem dX12_canStart_67 : decode cX12_canStart 67 = .ok (.iaload, 1) := by decide +kernel
theorem dX12_canStart_68 : decode cX12_canStart 68 = .ok (.ior, 1) := by decide +kernel
theorem dX12_canStart_69 : decode cX12_canStart 69 = .ok (.iastore, 1) := by decide +kernel
theorem dX12_canStart_70 : decode cX12_canStart 70 = .ok (.iconst 0, 1) := by decide +kernel
theorem dX12_canStart_71 : decode cX12_canStart 71 = .ok (.istore 4, 2) := by decide +kernel
theorem dX12_canStart_73 : decode cX12_canStart 73 = .ok (.iload 4, 2) := by decide +kernel
theorem dX12_canStart_75 : decode cX12_canStart 75 = .ok (.bipush 48, 2) := by decide +kernel
theorem dX12_canStart_77 : decode cX12_canStart 77 = .ok (.if_icmp .ge 110, 3) := by decide +kernel
theorem dX12_canStart_80 : decode cX12_canStart 80 = .ok (.aload_n 0, 1) := by decide +kernel
theorem dX12_canStart_81 : decode cX12_canStart 81 = .ok (.getfield 34, 3) := by decide +kernel
theorem dX12_canStart_84 : decode cX12_canStart 84 = .ok (.iload_n 3, 1) := by decide +kernel
theorem dX12_canStart_85 : decode cX12_canStart 85 = .ok (.iaload, 1) := by decide +kernel
theorem dX12_canStart_86 : decode cX12_canStart 86 = .ok (.iload 4, 2) := by decide +kernel
theorem dX12_canStart_88 : decode cX12_canStart 88 = .ok (.iconst 4, 1) := by decide +kernel
theorem dX12_canStart_89 : decode cX12_canStart 89 = .ok (.idiv, 1) := by decide +kernel
theorem dX12_canStart_90 : decode cX12_canStart 90 = .ok (.ishr, 1) := by decide +kernel
theorem dX12_canStart_91 : decode cX12_canStart 91 = .ok (.iconst 1, 1) := by decide +kernel
theorem dX12_canStart_92 : decode cX12_canStart 92 = .ok (.iand, 1) := by decide +kernel
theorem dX12_canStart_93 : decode cX12_canStart 93 = .ok (.iconst 1, 1) := by decide +kernel
theorem dX12_canStart_94 : decode cX12_canStart 94 = .ok (.if_icmp .ne 7, 3) := by decide +kernel
theorem dX12_canStart_97 : decode cX12_canStart 97 = .ok (.iconst 1, 1) := by decide +kernel
theorem dX12_canStart_98 : decode cX12_canStart 98 = .ok (.goto 4, 3) := by decide +kernel
theorem dX12_canStart_101 : decode cX12_canStart 101 = .ok (.iconst 0, 1) := by decide +kernel
theorem dX12_canStart_102 : decode cX12_canStart 102 = .ok (.istore 5, 2) := by decide +kernel
theorem dX12_canStart_104 : decode cX12_canStart 104 = .ok (.iload 5, 2) := by decide +kernel
theorem dX12_canStart_106 : decode cX12_canStart 106 = .ok (.ifCond .eq 28, 3) := by decide +kernel
theorem dX12_canStart_109 : decode cX12_canStart 109 = .ok (.aload_n 0, 1) := by decide +kernel
theorem dX12_canStart_110 : decode cX12_canStart 110 = .ok (.iload_n 1, 1) := by decide +kernel
theorem dX12_canStart_111 : decode cX12_canStart 111 = .ok (.iload 4, 2) := by decide +kernel
theorem dX12_canStart_113 : decode cX12_canStart 113 = .ok (.iconst 4, 1) := by decide +kernel
theorem dX12_canStart_114 : decode cX12_canStart 114 = .ok (.idiv, 1) := by decide +kernel
theorem dX12_canStart_115 : decode cX12_canStart 115 = .ok (.iload_n 3, 1) := by decide +kernel
theorem dX12_canStart_116 : decode cX12_canStart 116 = .ok (.iload 4, 2) := by decide +kernel
theorem dX12_canStart_118 : decode cX12_canStart 118 = .ok (.iconst 4, 1) := by decide +kernel
theorem dX12_canStart_119 : decode cX12_canStart 119 = .ok (.irem, 1) := by decide +kernel
theorem dX12_canStart_120 : decode cX12_canStart 120 = .ok (.aload_n 0, 1) := by decide +kernel
theorem dX12_canStart_121 : decode cX12_canStart 121 = .ok (.getfield 50, 3) := by decide +kernel
theorem dX12_canStart_124 : decode cX12_canStart 124 = .ok (.aload_n 0, 1) := by decide +kernel
theorem dX12_canStart_125 : decode cX12_canStart 125 = .ok (.getfield 72, 3) := by decide +kernel
theorem dX12_canStart_128 : decode cX12_canStart 128 = .ok (.invokevirtual 127, 3) := by decide +kernel
theorem dX12_canStart_131 : decode cX12_canStart 131 = .ok (.goto 4, 3) := by decide +kernel
theorem dX12_canStart_134 : decode cX12_canStart 134 = .ok (.iconst (-1), 1) := by decide +kernel
theorem dX12_canStart_135 : decode cX12_canStart 135 = .ok (.istore 6, 2) := by decide +kernel
theorem dX12_canStart_137 : decode cX12_canStart 137 = .ok (.iload 6, 2) := by decide +kernel
theorem dX12_canStart_139 : decode cX12_canStart 139 = .ok (.iconst (-1), 1) := by decide +kernel
theorem dX12_canStart_140 : decode cX12_canStart 140 = .ok (.if_icmp .eq 41, 3) := by decide +kernel
theorem dX12_canStart_143 : decode cX12_canStart 143 = .ok (.aload_n 0, 1) := by decide +kernel
theorem dX12_canStart_144 : decode cX12_canStart 144 = .ok (.iload_n 1, 1) := by decide +kernel
theorem dX12_canStart_145 : decode cX12_canStart 145 = .ok (.iload_n 3, 1) := by decide +kernel
theorem dX12_canStart_146 : decode cX12_canStart 146 = .ok (.iload_n 3, 1) := by decide +kernel
theorem dX12_canStart_147 : decode cX12_canStart 147 = .ok (.iload 6, 2) := by decide +kernel
theorem dX12_canStart_149 : decode cX12_canStart 149 = .ok (.iadd, 1) := by decide +kernel
theorem dX12_canStart_150 : decode cX12_canStart 150 = .ok (.invokevirtual 175, 3) := by decide +kernel
theorem dX12_canStart_153 : decode cX12_canStart 153 = .ok (.ifCond .ne 28, 3) := by decide +kernel
theorem dX12_canStart_156 : decode cX12_canStart 156 = .ok (.aload_n 0, 1) := by decide +kernel
theorem dX12_canStart_157 : decode cX12_canStart 157 = .ok (.getfield 34, 3) := by decide +kernel
theorem dX12_canStart_160 : decode cX12_canStart 160 = .ok (.iload_n 3, 1) := by decide +kernel
theorem dX12_canStart_161 : decode cX12_canStart 161 = .ok (.iload 6, 2) := by decide +kernel
theorem dX12_canStart_163 : decode cX12_canStart 163 = .ok (.iadd, 1) := by decide +kernel
theorem dX12_canStart_164 : decode cX12_canStart 164 = .ok (.dup2, 1) := by decide +kernel
theorem dX12_canStart_165 : decode cX12_canStart 165 = .ok (.iaload, 1) := by decide +kernel
theorem dX12_canStart_166 : decode cX12_canStart 166 = .ok (.iconst 1, 1) := by decide +kernel
theorem dX12_canStart_167 : decode cX12_canStart 167 = .ok (.iload 4, 2) := by decide +kernel
theorem dX12_canStart_169 : decode cX12_canStart 169 = .ok (.iconst 4, 1) := by decide +kernel
theorem dX12_canStart_170 : decode cX12_canStart 170 = .ok (.idiv, 1) := by decide +kernel
theorem dX12_canStart_171 : decode cX12_canStart 171 = .ok (.iload 4, 2) := by decide +kernel
theorem dX12_canStart_173 : decode cX12_canStart 173 = .ok (.iconst 4, 1) := by decide +kernel
theorem dX12_canStart_174 : decode cX12_canStart 174 = .ok (.irem, 1) := by decide +kernel
theorem dX12_canStart_175 : decode cX12_canStart 175 = .ok (.invokestatic 113, 3) := by decide +kernel
theorem dX12_canStart_178 : decode cX12_canStart 178 = .ok (.ishl, 1) := by decide +kernel
theorem dX12_canStart_179 : decode cX12_canStart 179 = .ok (.ior, 1) := by decide +kernel
theorem dX12_canStart_180 : decode cX12_canStart 180 = .ok (.iastore, 1) := by decide +kernel
theorem dX12_canStart_181 : decode cX12_canStart 181 = .ok (.iinc 4 1, 3) := by decide +kernel
theorem dX12_canStart_184 : decode cX12_canStart 184 = .ok (.goto (-111), 3) := by decide +kernel
theorem dX12_canStart_187 : decode cX12_canStart 187 = .ok (.iinc 3 1, 3) := by decide +kernel
theorem dX12_canStart_190 : decode cX12_canStart 190 = .ok (.goto (-158), 3) := by decide +kernel
theorem dX12_canStart_193 : decode cX12_canStart 193 = .ok (.aload_n 0, 1) := by decide +kernel
theorem dX12_canStart_194 : decode cX12_canStart 194 = .ok (.getfield 34, 3) := by decide +kernel
theorem dX12_canStart_197 : decode cX12_canStart 197 = .ok (.bipush 40, 2) := by decide +kernel
theorem dX12_canStart_199 : decode cX12_canStart 199 = .ok (.iaload, 1) := by decide +kernel
theorem dX12_canStart_200 : decode cX12_canStart 200 = .ok (.ifCond .eq 7, 3) := by decide +kernel
theorem dX12_canStart_203 : decode cX12_canStart 203 = .ok (.iconst 1, 1) := by decide +kernel
theorem dX12_canStart_204 : decode cX12_canStart 204 = .ok (.goto 4, 3) := by decide +kernel
theorem dX12_canStart_207 : decode cX12_canStart 207 = .ok (.iconst 0, 1) := by decide +kernel
theorem dX12_canStart_208 : decode cX12_canStart 208 = .ok (.ireturn, 1) := by decide +kernel
theorem dX12_startOf_0 : decode cX12_startOf 0 = .ok (.iconst 0, 1) := by decide +kernel
theorem dX12_startOf_1 : decode cX12_startOf 1 = .ok (.istore_n 2, 1) := by decide +kernel
theorem dX12_startOf_2 : decode cX12_startOf 2 = .ok (.iconst 0, 1) := by decide +kernel
theorem dX12_startOf_3 : decode cX12_startOf 3 = .ok (.istore_n 3, 1) := by decide +kernel
theorem dX12_startOf_4 : decode cX12_startOf 4 = .ok (.iload_n 3, 1) := by decide +kernel
theorem dX12_startOf_5 : decode cX12_startOf 5 = .ok (.bipush 12, 2) := by decide +kernel
theorem dX12_startOf_7 : decode cX12_startOf 7 = .ok (.if_icmp .ge 28, 3) := by decide +kernel
theorem dX12_startOf_10 : decode cX12_startOf 10 = .ok (.iload_n 2, 1) := by decide +kernel
theorem dX12_startOf_11 : decode cX12_startOf 11 = .ok (.aload_n 0, 1) := by decide +kernel
theorem dX12_startOf_12 : decode cX12_startOf 12 = .ok (.iload_n 1, 1) := by decide +kernel
theorem dX12_startOf_13 : decode cX12_startOf 13 = .ok (.iload_n 3, 1) := by decide +kernel
theorem dX12_startOf_14 : decode cX12_startOf 14 = .ok (.invokevirtual 179, 3) := by decide +kernel
theorem dX12_startOf_17 : decode cX12_startOf 17 = .ok (.ifCond .eq 9, 3) := by decide +kernel
theorem dX12_startOf_20 : decode cX12_startOf 20 = .ok (.iconst 1, 1) := by decide +kernel
theorem dX12_startOf_21 : decode cX12_startOf 21 = .ok (.iload_n 3, 1) := by decide +kernel
theorem dX12_startOf_22 : decode cX12_startOf 22 = .ok (.ishl, 1) := by decide +kernel
theorem dX12_startOf_23 : decode cX12_startOf 23 = .ok (.goto 4, 3) := by decide +kernel
theorem dX12_startOf_26 : decode cX12_startOf 26 = .ok (.iconst 0, 1) := by decide +kernel
theorem dX12_startOf_27 : decode cX12_startOf 27 = .ok (.ior, 1) := by decide +kernel
theorem dX12_startOf_28 : decode cX12_startOf 28 = .ok (.istore_n 2, 1) := by decide +kernel
theorem dX12_startOf_29 : decode cX12_startOf 29 = .ok (.iinc 3 1, 3) := by decide +kernel
theorem dX12_startOf_32 : decode cX12_startOf 32 = .ok (.goto (-28), 3) := by decide +kernel
theorem dX12_startOf_35 : decode cX12_startOf 35 = .ok (.iload_n 2, 1) := by decide +kernel
theorem dX12_startOf_36 : decode cX12_startOf 36 = .ok (.ireturn, 1) := by decide +kernel
theorem dX12_start_0 : decode cX12_start 0 = .ok (.aload_n 0, 1) := by decide +kernel
theorem dX12_start_1 : decode cX12_start 1 = .ok (.iload_n 1, 1) := by decide +kernel
theorem dX12_start_2 : decode cX12_start 2 = .ok (.invokevirtual 134, 3) := by decide +kernel
theorem dX12_start_5 : decode cX12_start 5 = .ok (.ifCond .eq 11, 3) := by decide +kernel
theorem dX12_start_8 : decode cX12_start 8 = .ok (.aload_n 0, 1) := by decide +kernel
theorem dX12_start_9 : decode cX12_start 9 = .ok (.iload_n 1, 1) := by decide +kernel
theorem dX12_start_10 : decode cX12_start 10 = .ok (.invokevirtual 182, 3) := by decide +kernel
theorem dX12_start_13 : decode cX12_start 13 = .ok (.goto 5, 3) := by decide +kernel
theorem dX12_start_16 : decode cX12_start 16 = .ok (.bipush (-101), 2) := by decide +kernel
theorem dX12_start_18 : decode cX12_start 18 = .ok (.ireturn, 1) := by decide +kernel
theorem dX12_draw_0 : decode cX12_draw 0 = .ok (.aload_n 0, 1) := by decide +kernel
theorem dX12_draw_1 : decode cX12_draw 1 = .ok (.ldc2_w 185, 3) := by decide +kernel
theorem dX12_draw_4 : decode cX12_draw 4 = .ok (.aload_n 0, 1) := by decide +kernel
theorem dX12_draw_5 : decode cX12_draw 5 = .ok (.getfield 187, 3) := by decide +kernel
theorem dX12_draw_8 : decode cX12_draw 8 = .ok (.i2l, 1) := by decide +kernel
theorem dX12_draw_9 : decode cX12_draw 9 = .ok (.lmul, 1) := by decide +kernel
theorem dX12_draw_10 : decode cX12_draw 10 = .ok (.ldc2_w 190, 3) := by decide +kernel
theorem dX12_draw_13 : decode cX12_draw 13 = .ok (.ladd, 1) := by decide +kernel
theorem dX12_draw_14 : decode cX12_draw 14 = .ok (.ldc2_w 192, 3) := by decide +kernel
theorem dX12_draw_17 : decode cX12_draw 17 = .ok (.land, 1) := by decide +kernel
theorem dX12_draw_18 : decode cX12_draw 18 = .ok (.l2i, 1) := by decide +kernel
theorem dX12_draw_19 : decode cX12_draw 19 = .ok (.putfield 187, 3) := by decide +kernel
theorem dX12_draw_22 : decode cX12_draw 22 = .ok (.aload_n 0, 1) := by decide +kernel
theorem dX12_draw_23 : decode cX12_draw 23 = .ok (.getfield 187, 3) := by decide +kernel
theorem dX12_draw_26 : decode cX12_draw 26 = .ok (.ldc 194, 2) := by decide +kernel
theorem dX12_draw_28 : decode cX12_draw 28 = .ok (.idiv, 1) := by decide +kernel
theorem dX12_draw_29 : decode cX12_draw 29 = .ok (.iload_n 1, 1) := by decide +kernel
theorem dX12_draw_30 : decode cX12_draw 30 = .ok (.irem, 1) := by decide +kernel
theorem dX12_draw_31 : decode cX12_draw 31 = .ok (.ireturn, 1) := by decide +kernel
theorem dX12_strandedMany_0 : decode cX12_strandedMany 0 = .ok (.iconst 0, 1) := by decide +kernel
theorem dX12_strandedMany_1 : decode cX12_strandedMany 1 = .ok (.istore_n 1, 1) := by decide +kernel
theorem dX12_strandedMany_2 : decode cX12_strandedMany 2 = .ok (.iconst 0, 1) := by decide +kernel
theorem dX12_strandedMany_3 : decode cX12_strandedMany 3 = .ok (.istore_n 2, 1) := by decide +kernel
theorem dX12_strandedMany_4 : decode cX12_strandedMany 4 = .ok (.iload_n 2, 1) := by decide +kernel
theorem dX12_strandedMany_5 : decode cX12_strandedMany 5 = .ok (.aload_n 0, 1) := by decide +kernel
theorem dX12_strandedMany_6 : decode cX12_strandedMany 6 = .ok (.getfield 78, 3) := by decide +kernel
theorem dX12_strandedMany_9 : decode cX12_strandedMany 9 = .ok (.if_icmp .ge 25, 3) := by decide +kernel
theorem dX12_strandedMany_12 : decode cX12_strandedMany 12 = .ok (.iload_n 1, 1) := by decide +kernel
theorem dX12_strandedMany_13 : decode cX12_strandedMany 13 = .ok (.aload_n 0, 1) := by decide +kernel
theorem dX12_strandedMany_14 : decode cX12_strandedMany 14 = .ok (.iload_n 2, 1) := by decide +kernel
theorem dX12_strandedMany_15 : decode cX12_strandedMany 15 = .ok (.invokevirtual 131, 3) := by decide +kernel
theorem dX12_strandedMany_18 : decode cX12_strandedMany 18 = .ok (.ifCond .eq 7, 3) := by decide +kernel
theorem dX12_strandedMany_21 : decode cX12_strandedMany 21 = .ok (.iconst 1, 1) := by decide +kernel
theorem dX12_strandedMany_22 : decode cX12_strandedMany 22 = .ok (.goto 4, 3) := by decide +kernel
theorem dX12_strandedMany_25 : decode cX12_strandedMany 25 = .ok (.iconst 0, 1) := by decide +kernel
theorem dX12_strandedMany_26 : decode cX12_strandedMany 26 = .ok (.iadd, 1) := by decide +kernel
theorem dX12_strandedMany_27 : decode cX12_strandedMany 27 = .ok (.istore_n 1, 1) := by decide +kernel
theorem dX12_strandedMany_28 : decode cX12_strandedMany 28 = .ok (.iinc 2 1, 3) := by decide +kernel
theorem dX12_strandedMany_31 : decode cX12_strandedMany 31 = .ok (.goto (-27), 3) := by decide +kernel
theorem dX12_strandedMany_34 : decode cX12_strandedMany 34 = .ok (.iload_n 1, 1) := by decide +kernel
theorem dX12_strandedMany_35 : decode cX12_strandedMany 35 = .ok (.ireturn, 1) := by decide +kernel
theorem dX12_junes_0 : decode cX12_junes 0 = .ok (.iload_n 1, 1) := by decide +kernel
theorem dX12_junes_1 : decode cX12_junes 1 = .ok (.i2l, 1) := by decide +kernel
theorem dX12_junes_2 : decode cX12_junes 2 = .ok (.lconst 1, 1) := by decide +kernel
theorem dX12_junes_3 : decode cX12_junes 3 = .ok (.ldc2_w 195, 3) := by decide +kernel
theorem dX12_junes_6 : decode cX12_junes 6 = .ok (.invokestatic 55, 3) := by decide +kernel
theorem dX12_junes_9 : decode cX12_junes 9 = .ok (.ifCond .eq 19, 3) := by decide +kernel
theorem dX12_junes_12 : decode cX12_junes 12 = .ok (.iload_n 2, 1) := by decide +kernel
theorem dX12_junes_13 : decode cX12_junes 13 = .ok (.ifCond .lt 15, 3) := by decide +kernel
theorem dX12_junes_16 : decode cX12_junes 16 = .ok (.iload_n 3, 1) := by decide +kernel
theorem dX12_junes_17 : decode cX12_junes 17 = .ok (.i2l, 1) := by decide +kernel
theorem dX12_junes_18 : decode cX12_junes 18 = .ok (.lconst 0, 1) := by decide +kernel
theorem dX12_junes_19 : decode cX12_junes 19 = .ok (.ldc2_w 140, 3) := by decide +kernel
theorem dX12_junes_22 : decode cX12_junes 22 = .ok (.invokestatic 55, 3) := by decide +kernel
theorem dX12_junes_25 : decode cX12_junes 25 = .ok (.ifCond .ne 6, 3) := by decide +kernel
theorem dX12_junes_28 : decode cX12_junes 28 = .ok (.bipush (-102), 2) := by decide +kernel
theorem dX12_junes_30 : decode cX12_junes 30 = .ok (.ireturn, 1) := by decide +kernel
theorem dX12_junes_31 : decode cX12_junes 31 = .ok (.aload_n 0, 1) := by decide +kernel
theorem dX12_junes_32 : decode cX12_junes 32 = .ok (.invokevirtual 89, 3) := by decide +kernel
theorem dX12_junes_35 : decode cX12_junes 35 = .ok (.ifCond .eq 6, 3) := by decide +kernel
theorem dX12_junes_38 : decode cX12_junes 38 = .ok (.bipush (-103), 2) := by decide +kernel
theorem dX12_junes_40 : decode cX12_junes 40 = .ok (.ireturn, 1) := by decide +kernel
theorem dX12_junes_41 : decode cX12_junes 41 = .ok (.aload_n 0, 1) := by decide +kernel
theorem dX12_junes_42 : decode cX12_junes 42 = .ok (.getfield 16, 3) := by decide +kernel
theorem dX12_junes_45 : decode cX12_junes 45 = .ok (.aload_n 0, 1) := by decide +kernel
theorem dX12_junes_46 : decode cX12_junes 46 = .ok (.getfield 37, 3) := by decide +kernel
theorem dX12_junes_49 : decode cX12_junes 49 = .ok (.invokestatic 160, 3) := by decide +kernel
theorem dX12_junes_52 : decode cX12_junes 52 = .ok (.aload_n 0, 1) := by decide +kernel
theorem dX12_junes_53 : decode cX12_junes 53 = .ok (.getfield 75, 3) := by decide +kernel
theorem dX12_junes_56 : decode cX12_junes 56 = .ok (.istore 4, 2) := by decide +kernel
theorem dX12_junes_58 : decode cX12_junes 58 = .ok (.aload_n 0, 1) := by decide +kernel
theorem dX12_junes_59 : decode cX12_junes 59 = .ok (.iload_n 2, 1) := by decide +kernel
theorem dX12_junes_60 : decode cX12_junes 60 = .ok (.putfield 187, 3) := by decide +kernel
theorem dX12_junes_63 : decode cX12_junes 63 = .ok (.iconst 0, 1) := by decide +kernel
theorem dX12_junes_64 : decode cX12_junes 64 = .ok (.istore 5, 2) := by decide +kernel
theorem dX12_junes_66 : decode cX12_junes 66 = .ok (.iconst 0, 1) := by decide +kernel
theorem dX12_junes_67 : decode cX12_junes 67 = .ok (.istore 6, 2) := by decide +kernel
theorem dX12_junes_69 : decode cX12_junes 69 = .ok (.iload 6, 2) := by decide +kernel
theorem dX12_junes_71 : decode cX12_junes 71 = .ok (.iload_n 1, 1) := by decide +kernel
theorem dX12_junes_72 : decode cX12_junes 72 = .ok (.aload_n 0, 1) := by decide +kernel
theorem dX12_junes_73 : decode cX12_junes 73 = .ok (.getfield 78, 3) := by decide +kernel
theorem dX12_junes_76 : decode cX12_junes 76 = .ok (.imul, 1) := by decide +kernel
theorem dX12_junes_77 : decode cX12_junes 77 = .ok (.if_icmp .ge 113, 3) := by decide +kernel
theorem dX12_junes_80 : decode cX12_junes 80 = .ok (.iload 6, 2) := by decide +kernel
theorem dX12_junes_82 : decode cX12_junes 82 = .ok (.aload_n 0, 1) := by decide +kernel
theorem dX12_junes_83 : decode cX12_junes 83 = .ok (.getfield 78, 3) := by decide +kernel
theorem dX12_junes_86 : decode cX12_junes 86 = .ok (.irem, 1) := by decide +kernel
theorem dX12_junes_87 : decode cX12_junes 87 = .ok (.istore 7, 2) := by decide +kernel
theorem dX12_junes_89 : decode cX12_junes 89 = .ok (.aload_n 0, 1) := by decide +kernel
theorem dX12_junes_90 : decode cX12_junes 90 = .ok (.iconst 5, 1) := by decide +kernel
theorem dX12_junes_91 : decode cX12_junes 91 = .ok (.invokevirtual 197, 3) := by decide +kernel
theorem dX12_junes_94 : decode cX12_junes 94 = .ok (.istore 8, 2) := by decide +kernel
theorem dX12_junes_96 : decode cX12_junes 96 = .ok (.aload_n 0, 1) := by decide +kernel
theorem dX12_junes_97 : decode cX12_junes 97 = .ok (.iconst 4, 1) := by decide +kernel
theorem dX12_junes_98 : decode cX12_junes 98 = .ok (.invokevirtual 197, 3) := by decide +kernel
theorem dX12_junes_101 : decode cX12_junes 101 = .ok (.istore 9, 2) := by decide +kernel
theorem dX12_junes_103 : decode cX12_junes 103 = .ok (.aload_n 0, 1) := by decide +kernel
theorem dX12_junes_104 : decode cX12_junes 104 = .ok (.iload 7, 2) := by decide +kernel
theorem dX12_junes_106 : decode cX12_junes 106 = .ok (.aload_n 0, 1) := by decide +kernel
theorem dX12_junes_107 : decode cX12_junes 107 = .ok (.getfield 16, 3) := by decide +kernel
theorem dX12_junes_110 : decode cX12_junes 110 = .ok (.iconst 4, 1) := by decide +kernel
theorem dX12_junes_111 : decode cX12_junes 111 = .ok (.iload 7, 2) := by decide +kernel
theorem dX12_junes_113 : decode cX12_junes 113 = .ok (.imul, 1) := by decide +kernel
theorem dX12_junes_114 : decode cX12_junes 114 = .ok (.iconst 2, 1) := by decide +kernel
theorem dX12_junes_115 : decode cX12_junes 115 = .ok (.iadd, 1) := by decide +kernel
theorem dX12_junes_116 : decode cX12_junes 116 = .ok (.iaload, 1) := by decide +kernel
theorem dX12_junes_117 : decode cX12_junes 117 = .ok (.aload_n 0, 1) := by decide +kernel
theorem dX12_junes_118 : decode cX12_junes 118 = .ok (.getfield 75, 3) := by decide +kernel
theorem dX12_junes_121 : decode cX12_junes 121 = .ok (.iload 9, 2) := by decide +kernel
theorem dX12_junes_123 : decode cX12_junes 123 = .ok (.iload 8, 2) := by decide +kernel
theorem dX12_junes_125 : decode cX12_junes 125 = .ok (.aload_n 0, 1) := by decide +kernel
theorem dX12_junes_126 : decode cX12_junes 126 = .ok (.getfield 72, 3) := by decide +kernel
theorem dX12_junes_129 : decode cX12_junes 129 = .ok (.invokevirtual 127, 3) := by decide +kernel
theorem dX12_junes_132 : decode cX12_junes 132 = .ok (.istore 10, 2) := by decide +kernel
theorem dX12_junes_134 : decode cX12_junes 134 = .ok (.iload 10, 2) := by decide +kernel
theorem dX12_junes_136 : decode cX12_junes 136 = .ok (.iconst (-1), 1) := by decide +kernel
theorem dX12_junes_137 : decode cX12_junes 137 = .ok (.if_icmp .ne 9, 3) := by decide +kernel
theorem dX12_junes_140 : decode cX12_junes 140 = .ok (.iinc 5 1, 3) := by decide +kernel
theorem dX12_junes_143 : decode cX12_junes 143 = .ok (.goto 41, 3) := by decide +kernel
theorem dX12_junes_146 : decode cX12_junes 146 = .ok (.aload_n 0, 1) := by decide +kernel
theorem dX12_junes_147 : decode cX12_junes 147 = .ok (.getfield 16, 3) := by decide +kernel
theorem dX12_junes_150 : decode cX12_junes 150 = .ok (.iconst 4, 1) := by decide +kernel
theorem dX12_junes_151 : decode cX12_junes 151 = .ok (.iload 7, 2) := by decide +kernel
theorem dX12_junes_153 : decode cX12_junes 153 = .ok (.imul, 1) := by decide +kernel
theorem dX12_junes_154 : decode cX12_junes 154 = .ok (.iconst 2, 1) := by decide +kernel
theorem dX12_junes_155 : decode cX12_junes 155 = .ok (.iadd, 1) := by decide +kernel
theorem dX12_junes_156 : decode cX12_junes 156 = .ok (.aload_n 0, 1) := by decide +kernel
theorem dX12_junes_157 : decode cX12_junes 157 = .ok (.getfield 16, 3) := by decide +kernel
theorem dX12_junes_160 : decode cX12_junes 160 = .ok (.iconst 4, 1) := by decide +kernel
theorem dX12_junes_161 : decode cX12_junes 161 = .ok (.iload 7, 2) := by decide +kernel
theorem dX12_junes_163 : decode cX12_junes 163 = .ok (.imul, 1) := by decide +kernel
theorem dX12_junes_164 : decode cX12_junes 164 = .ok (.iconst 2, 1) := by decide +kernel
theorem dX12_junes_165 : decode cX12_junes 165 = .ok (.iadd, 1) := by decide +kernel
theorem dX12_junes_166 : decode cX12_junes 166 = .ok (.iaload, 1) := by decide +kernel
theorem dX12_junes_167 : decode cX12_junes 167 = .ok (.iload 9, 2) := by decide +kernel
theorem dX12_junes_169 : decode cX12_junes 169 = .ok (.invokestatic 113, 3) := by decide +kernel
theorem dX12_junes_172 : decode cX12_junes 172 = .ok (.iastore, 1) := by decide +kernel
theorem dX12_junes_173 : decode cX12_junes 173 = .ok (.aload_n 0, 1) := by decide +kernel
theorem dX12_junes_174 : decode cX12_junes 174 = .ok (.dup, 1) := by decide +kernel
theorem dX12_junes_175 : decode cX12_junes 175 = .ok (.getfield 75, 3) := by decide +kernel
theorem dX12_junes_178 : decode cX12_junes 178 = .ok (.iload 10, 2) := by decide +kernel
theorem dX12_junes_180 : decode cX12_junes 180 = .ok (.iadd, 1) := by decide +kernel
theorem dX12_junes_181 : decode cX12_junes 181 = .ok (.putfield 75, 3) := by decide +kernel
theorem dX12_junes_184 : decode cX12_junes 184 = .ok (.iinc 6 1, 3) := by decide +kernel
theorem dX12_junes_187 : decode cX12_junes 187 = .ok (.goto (-118), 3) := by decide +kernel
theorem dX12_junes_190 : decode cX12_junes 190 = .ok (.aload_n 0, 1) := by decide +kernel
theorem dX12_junes_191 : decode cX12_junes 191 = .ok (.invokevirtual 200, 3) := by decide +kernel
theorem dX12_junes_194 : decode cX12_junes 194 = .ok (.istore 6, 2) := by decide +kernel
theorem dX12_junes_196 : decode cX12_junes 196 = .ok (.aload_n 0, 1) := by decide +kernel
theorem dX12_junes_197 : decode cX12_junes 197 = .ok (.getfield 75, 3) := by decide +kernel
theorem dX12_junes_200 : decode cX12_junes 200 = .ok (.istore 7, 2) := by decide +kernel
theorem dX12_junes_202 : decode cX12_junes 202 = .ok (.aload_n 0, 1) := by decide +kernel
theorem dX12_junes_203 : decode cX12_junes 203 = .ok (.getfield 37, 3) := by decide +kernel
theorem dX12_junes_206 : decode cX12_junes 206 = .ok (.aload_n 0, 1) := by decide +kernel
theorem dX12_junes_207 : decode cX12_junes 207 = .ok (.getfield 16, 3) := by decide +kernel
theorem dX12_junes_210 : decode cX12_junes 210 = .ok (.invokestatic 160, 3) := by decide +kernel
theorem dX12_junes_213 : decode cX12_junes 213 = .ok (.aload_n 0, 1) := by decide +kernel
theorem dX12_junes_214 : decode cX12_junes 214 = .ok (.iload 4, 2) := by decide +kernel
theorem dX12_junes_216 : decode cX12_junes 216 = .ok (.putfield 75, 3) := by decide +kernel
theorem dX12_junes_219 : decode cX12_junes 219 = .ok (.iload_n 3, 1) := by decide +kernel
theorem dX12_junes_220 : decode cX12_junes 220 = .ok (.ifCond .ne 8, 3) := by decide +kernel
theorem dX12_junes_223 : decode cX12_junes 223 = .ok (.iload 5, 2) := by decide +kernel
theorem dX12_junes_225 : decode cX12_junes 225 = .ok (.goto 27, 3) := by decide +kernel
theorem dX12_junes_228 : decode cX12_junes 228 = .ok (.iload_n 3, 1) := by decide +kernel
theorem dX12_junes_229 : decode cX12_junes 229 = .ok (.iconst 1, 1) := by decide +kernel
theorem dX12_junes_230 : decode cX12_junes 230 = .ok (.if_icmp .ne 8, 3) := by decide +kernel
theorem dX12_junes_233 : decode cX12_junes 233 = .ok (.iload 6, 2) := by decide +kernel
theorem dX12_junes_235 : decode cX12_junes 235 = .ok (.goto 17, 3) := by decide +kernel
theorem dX12_junes_238 : decode cX12_junes 238 = .ok (.iload_n 3, 1) := by decide +kernel
theorem dX12_junes_239 : decode cX12_junes 239 = .ok (.iconst 2, 1) := by decide +kernel
theorem dX12_junes_240 : decode cX12_junes 240 = .ok (.if_icmp .ne 8, 3) := by decide +kernel
theorem dX12_junes_243 : decode cX12_junes 243 = .ok (.iload 7, 2) := by decide +kernel
theorem dX12_junes_245 : decode cX12_junes 245 = .ok (.goto 7, 3) := by decide +kernel
theorem dX12_junes_248 : decode cX12_junes 248 = .ok (.aload_n 0, 1) := by decide +kernel
theorem dX12_junes_249 : decode cX12_junes 249 = .ok (.getfield 187, 3) := by decide +kernel
theorem dX12_junes_252 : decode cX12_junes 252 = .ok (.ireturn, 1) := by decide +kernel
theorem dX12_copy_0 : decode cX12_copy 0 = .ok (.iconst 0, 1) := by decide +kernel
theorem dX12_copy_1 : decode cX12_copy 1 = .ok (.istore_n 2, 1) := by decide +kernel
theorem dX12_copy_2 : decode cX12_copy 2 = .ok (.iload_n 2, 1) := by decide +kernel
theorem dX12_copy_3 : decode cX12_copy 3 = .ok (.aload_n 0, 1) := by decide +kernel
theorem dX12_copy_4 : decode cX12_copy 4 = .ok (.arraylength, 1) := by decide +kernel
theorem dX12_copy_5 : decode cX12_copy 5 = .ok (.if_icmp .ge 15, 3) := by decide +kernel
theorem dX12_copy_8 : decode cX12_copy 8 = .ok (.aload_n 1, 1) := by decide +kernel
theorem dX12_copy_9 : decode cX12_copy 9 = .ok (.iload_n 2, 1) := by decide +kernel
theorem dX12_copy_10 : decode cX12_copy 10 = .ok (.aload_n 0, 1) := by decide +kernel
theorem dX12_copy_11 : decode cX12_copy 11 = .ok (.iload_n 2, 1) := by decide +kernel
theorem dX12_copy_12 : decode cX12_copy 12 = .ok (.iaload, 1) := by decide +kernel
theorem dX12_copy_13 : decode cX12_copy 13 = .ok (.iastore, 1) := by decide +kernel
theorem dX12_copy_14 : decode cX12_copy 14 = .ok (.iinc 2 1, 3) := by decide +kernel
theorem dX12_copy_17 : decode cX12_copy 17 = .ok (.goto (-15), 3) := by decide +kernel
theorem dX12_copy_20 : decode cX12_copy 20 = .ok (.return_, 1) := by decide +kernel
theorem dX12_image_0 : decode cX12_image 0 = .ok (.aload_n 0, 1) := by decide +kernel
theorem dX12_image_1 : decode cX12_image 1 = .ok (.invokevirtual 89, 3) := by decide +kernel
theorem dX12_image_4 : decode cX12_image 4 = .ok (.ifCond .eq 6, 3) := by decide +kernel
theorem dX12_image_7 : decode cX12_image 7 = .ok (.bipush (-103), 2) := by decide +kernel
theorem dX12_image_9 : decode cX12_image 9 = .ok (.ireturn, 1) := by decide +kernel
theorem dX12_image_10 : decode cX12_image 10 = .ok (.aload_n 0, 1) := by decide +kernel
theorem dX12_image_11 : decode cX12_image 11 = .ok (.getfield 16, 3) := by decide +kernel
theorem dX12_image_14 : decode cX12_image 14 = .ok (.aload_n 0, 1) := by decide +kernel
theorem dX12_image_15 : decode cX12_image 15 = .ok (.getfield 40, 3) := by decide +kernel
theorem dX12_image_18 : decode cX12_image 18 = .ok (.invokestatic 160, 3) := by decide +kernel
theorem dX12_image_21 : decode cX12_image 21 = .ok (.aload_n 0, 1) := by decide +kernel
theorem dX12_image_22 : decode cX12_image 22 = .ok (.getfield 31, 3) := by decide +kernel
theorem dX12_image_25 : decode cX12_image 25 = .ok (.aload_n 0, 1) := by decide +kernel
theorem dX12_image_26 : decode cX12_image 26 = .ok (.getfield 43, 3) := by decide +kernel
theorem dX12_image_29 : decode cX12_image 29 = .ok (.invokestatic 160, 3) := by decide +kernel
theorem dX12_image_32 : decode cX12_image 32 = .ok (.aload_n 0, 1) := by decide +kernel
theorem dX12_image_33 : decode cX12_image 33 = .ok (.aload_n 0, 1) := by decide +kernel
theorem dX12_image_34 : decode cX12_image 34 = .ok (.getfield 78, 3) := by decide +kernel
theorem dX12_image_37 : decode cX12_image 37 = .ok (.putfield 203, 3) := by decide +kernel
theorem dX12_image_40 : decode cX12_image 40 = .ok (.aload_n 0, 1) := by decide +kernel
theorem dX12_image_41 : decode cX12_image 41 = .ok (.aload_n 0, 1) := by decide +kernel
theorem dX12_image_42 : decode cX12_image 42 = .ok (.getfield 75, 3) := by decide +kernel
theorem dX12_image_45 : decode cX12_image 45 = .ok (.putfield 206, 3) := by decide +kernel
theorem dX12_image_48 : decode cX12_image 48 = .ok (.aload_n 0, 1) := by decide +kernel
theorem dX12_image_49 : decode cX12_image 49 = .ok (.aload_n 0, 1) := by decide +kernel
theorem dX12_image_50 : decode cX12_image 50 = .ok (.getfield 50, 3) := by decide +kernel
theorem dX12_image_53 : decode cX12_image 53 = .ok (.putfield 209, 3) := by decide +kernel
theorem dX12_image_56 : decode cX12_image 56 = .ok (.aload_n 0, 1) := by decide +kernel
theorem dX12_image_57 : decode cX12_image 57 = .ok (.aload_n 0, 1) := by decide +kernel
theorem dX12_image_58 : decode cX12_image 58 = .ok (.getfield 81, 3) := by decide +kernel
theorem dX12_image_61 : decode cX12_image 61 = .ok (.putfield 212, 3) := by decide +kernel
theorem dX12_image_64 : decode cX12_image 64 = .ok (.aload_n 0, 1) := by decide +kernel
theorem dX12_image_65 : decode cX12_image 65 = .ok (.aload_n 0, 1) := by decide +kernel
theorem dX12_image_66 : decode cX12_image 66 = .ok (.getfield 84, 3) := by decide +kernel
theorem dX12_image_69 : decode cX12_image 69 = .ok (.putfield 46, 3) := by decide +kernel
theorem dX12_image_72 : decode cX12_image 72 = .ok (.aload_n 0, 1) := by decide +kernel
theorem dX12_image_73 : decode cX12_image 73 = .ok (.getfield 75, 3) := by decide +kernel
theorem dX12_image_76 : decode cX12_image 76 = .ok (.ireturn, 1) := by decide +kernel
theorem dX12_restore_0 : decode cX12_restore 0 = .ok (.aload_n 0, 1) := by decide +kernel
theorem dX12_restore_1 : decode cX12_restore 1 = .ok (.getfield 46, 3) := by decide +kernel
theorem dX12_restore_4 : decode cX12_restore 4 = .ok (.aload_n 0, 1) := by decide +kernel
theorem dX12_restore_5 : decode cX12_restore 5 = .ok (.getfield 84, 3) := by decide +kernel
theorem dX12_restore_8 : decode cX12_restore 8 = .ok (.if_icmp .eq 6, 3) := by decide +kernel
theorem dX12_restore_11 : decode cX12_restore 11 = .ok (.bipush (-103), 2) := by decide +kernel
theorem dX12_restore_13 : decode cX12_restore 13 = .ok (.ireturn, 1) := by decide +kernel
theorem dX12_restore_14 : decode cX12_restore 14 = .ok (.aload_n 0, 1) := by decide +kernel
theorem dX12_restore_15 : decode cX12_restore 15 = .ok (.getfield 40, 3) := by decide +kernel
theorem dX12_restore_18 : decode cX12_restore 18 = .ok (.aload_n 0, 1) := by decide +kernel
theorem dX12_restore_19 : decode cX12_restore 19 = .ok (.getfield 16, 3) := by decide +kernel
theorem dX12_restore_22 : decode cX12_restore 22 = .ok (.invokestatic 160, 3) := by decide +kernel
theorem dX12_restore_25 : decode cX12_restore 25 = .ok (.aload_n 0, 1) := by decide +kernel
theorem dX12_restore_26 : decode cX12_restore 26 = .ok (.getfield 43, 3) := by decide +kernel
theorem dX12_restore_29 : decode cX12_restore 29 = .ok (.aload_n 0, 1) := by decide +kernel
theorem dX12_restore_30 : decode cX12_restore 30 = .ok (.getfield 31, 3) := by decide +kernel
theorem dX12_restore_33 : decode cX12_restore 33 = .ok (.invokestatic 160, 3) := by decide +kernel
theorem dX12_restore_36 : decode cX12_restore 36 = .ok (.aload_n 0, 1) := by decide +kernel
theorem dX12_restore_37 : decode cX12_restore 37 = .ok (.aload_n 0, 1) := by decide +kernel
theorem dX12_restore_38 : decode cX12_restore 38 = .ok (.getfield 203, 3) := by decide +kernel
theorem dX12_restore_41 : decode cX12_restore 41 = .ok (.putfield 78, 3) := by decide +kernel
theorem dX12_restore_44 : decode cX12_restore 44 = .ok (.aload_n 0, 1) := by decide +kernel
theorem dX12_restore_45 : decode cX12_restore 45 = .ok (.aload_n 0, 1) := by decide +kernel
theorem dX12_restore_46 : decode cX12_restore 46 = .ok (.getfield 206, 3) := by decide +kernel
theorem dX12_restore_49 : decode cX12_restore 49 = .ok (.putfield 75, 3) := by decide +kernel
theorem dX12_restore_52 : decode cX12_restore 52 = .ok (.aload_n 0, 1) := by decide +kernel
theorem dX12_restore_53 : decode cX12_restore 53 = .ok (.aload_n 0, 1) := by decide +kernel
theorem dX12_restore_54 : decode cX12_restore 54 = .ok (.getfield 209, 3) := by decide +kernel
theorem dX12_restore_57 : decode cX12_restore 57 = .ok (.putfield 50, 3) := by decide +kernel
theorem dX12_restore_60 : decode cX12_restore 60 = .ok (.aload_n 0, 1) := by decide +kernel
theorem dX12_restore_61 : decode cX12_restore 61 = .ok (.aload_n 0, 1) := by decide +kernel
theorem dX12_restore_62 : decode cX12_restore 62 = .ok (.getfield 212, 3) := by decide +kernel
theorem dX12_restore_65 : decode cX12_restore 65 = .ok (.putfield 81, 3) := by decide +kernel
theorem dX12_restore_68 : decode cX12_restore 68 = .ok (.aload_n 0, 1) := by decide +kernel
theorem dX12_restore_69 : decode cX12_restore 69 = .ok (.getfield 75, 3) := by decide +kernel
theorem dX12_restore_72 : decode cX12_restore 72 = .ok (.ireturn, 1) := by decide +kernel
theorem dX12_cutMany_0 : decode cX12_cutMany 0 = .ok (.iconst 0, 1) := by decide +kernel
theorem dX12_cutMany_1 : decode cX12_cutMany 1 = .ok (.istore_n 1, 1) := by decide +kernel
theorem dX12_cutMany_2 : decode cX12_cutMany 2 = .ok (.iconst 0, 1) := by decide +kernel
theorem dX12_cutMany_3 : decode cX12_cutMany 3 = .ok (.istore_n 2, 1) := by decide +kernel
theorem dX12_cutMany_4 : decode cX12_cutMany 4 = .ok (.iload_n 2, 1) := by decide +kernel
theorem dX12_cutMany_5 : decode cX12_cutMany 5 = .ok (.bipush 12, 2) := by decide +kernel
theorem dX12_cutMany_7 : decode cX12_cutMany 7 = .ok (.if_icmp .ge 39, 3) := by decide +kernel
theorem dX12_cutMany_10 : decode cX12_cutMany 10 = .ok (.aload_n 0, 1) := by decide +kernel
theorem dX12_cutMany_11 : decode cX12_cutMany 11 = .ok (.invokevirtual 89, 3) := by decide +kernel
theorem dX12_cutMany_14 : decode cX12_cutMany 14 = .ok (.ifCond .ne 32, 3) := by decide +kernel
theorem dX12_cutMany_17 : decode cX12_cutMany 17 = .ok (.iload_n 1, 1) := by decide +kernel
theorem dX12_cutMany_18 : decode cX12_cutMany 18 = .ok (.aload_n 0, 1) := by decide +kernel
theorem dX12_cutMany_19 : decode cX12_cutMany 19 = .ok (.getfield 75, 3) := by decide +kernel
theorem dX12_cutMany_22 : decode cX12_cutMany 22 = .ok (.aload_n 0, 1) := by decide +kernel
theorem dX12_cutMany_23 : decode cX12_cutMany 23 = .ok (.getfield 72, 3) := by decide +kernel
theorem dX12_cutMany_26 : decode cX12_cutMany 26 = .ok (.iload_n 2, 1) := by decide +kernel
theorem dX12_cutMany_27 : decode cX12_cutMany 27 = .ok (.iconst 1, 1) := by decide +kernel
theorem dX12_cutMany_28 : decode cX12_cutMany 28 = .ok (.iadd, 1) := by decide +kernel
theorem dX12_cutMany_29 : decode cX12_cutMany 29 = .ok (.imul, 1) := by decide +kernel
theorem dX12_cutMany_30 : decode cX12_cutMany 30 = .ok (.if_icmp .lt 7, 3) := by decide +kernel
theorem dX12_cutMany_33 : decode cX12_cutMany 33 = .ok (.iconst 1, 1) := by decide +kernel
theorem dX12_cutMany_34 : decode cX12_cutMany 34 = .ok (.goto 4, 3) := by decide +kernel
theorem dX12_cutMany_37 : decode cX12_cutMany 37 = .ok (.iconst 0, 1) := by decide +kernel
theorem dX12_cutMany_38 : decode cX12_cutMany 38 = .ok (.iadd, 1) := by decide +kernel
theorem dX12_cutMany_39 : decode cX12_cutMany 39 = .ok (.istore_n 1, 1) := by decide +kernel
theorem dX12_cutMany_40 : decode cX12_cutMany 40 = .ok (.iinc 2 1, 3) := by decide +kernel
theorem dX12_cutMany_43 : decode cX12_cutMany 43 = .ok (.goto (-39), 3) := by decide +kernel
theorem dX12_cutMany_46 : decode cX12_cutMany 46 = .ok (.iload_n 1, 1) := by decide +kernel
theorem dX12_cutMany_47 : decode cX12_cutMany 47 = .ok (.ireturn, 1) := by decide +kernel
theorem dX12_countOf_0 : decode cX12_countOf 0 = .ok (.iload_n 1, 1) := by decide +kernel
theorem dX12_countOf_1 : decode cX12_countOf 1 = .ok (.tableswitch 96 0 8 #[51, 56, 61, 66, 71, 76, 81, 86, 91], 51) := by decide +kernel
theorem dX12_countOf_52 : decode cX12_countOf 52 = .ok (.aload_n 0, 1) := by decide +kernel
theorem dX12_countOf_53 : decode cX12_countOf 53 = .ok (.getfield 72, 3) := by decide +kernel
end
section
theorem dX12_countOf_56 : decode cX12_countOf 56 = .ok (.ireturn, 1) := by decide +kernel
theorem dX12_countOf_57 : decode cX12_countOf 57 = .ok (.aload_n 0, 1) := by decide +kernel
theorem dX12_countOf_58 : decode cX12_countOf 58 = .ok (.invokevirtual 215, 3) := by decide +kernel
theorem dX12_countOf_61 : decode cX12_countOf 61 = .ok (.ireturn, 1) := by decide +kernel
theorem dX12_countOf_62 : decode cX12_countOf 62 = .ok (.aload_n 0, 1) := by decide +kernel
theorem dX12_countOf_63 : decode cX12_countOf 63 = .ok (.getfield 78, 3) := by decide +kernel
theorem dX12_countOf_66 : decode cX12_countOf 66 = .ok (.ireturn, 1) := by decide +kernel
theorem dX12_countOf_67 : decode cX12_countOf 67 = .ok (.aload_n 0, 1) := by decide +kernel
theorem dX12_countOf_68 : decode cX12_countOf 68 = .ok (.invokevirtual 200, 3) := by decide +kernel
theorem dX12_countOf_71 : decode cX12_countOf 71 = .ok (.ireturn, 1) := by decide +kernel
theorem dX12_countOf_72 : decode cX12_countOf 72 = .ok (.aload_n 0, 1) := by decide +kernel
theorem dX12_countOf_73 : decode cX12_countOf 73 = .ok (.getfield 75, 3) := by decide +kernel
theorem dX12_countOf_76 : decode cX12_countOf 76 = .ok (.ireturn, 1) := by decide +kernel
theorem dX12_countOf_77 : decode cX12_countOf 77 = .ok (.aload_n 0, 1) := by decide +kernel
theorem dX12_countOf_78 : decode cX12_countOf 78 = .ok (.getfield 50, 3) := by decide +kernel
theorem dX12_countOf_81 : decode cX12_countOf 81 = .ok (.ireturn, 1) := by decide +kernel
theorem dX12_countOf_82 : decode cX12_countOf 82 = .ok (.aload_n 0, 1) := by decide +kernel
theorem dX12_countOf_83 : decode cX12_countOf 83 = .ok (.getfield 81, 3) := by decide +kernel
theorem dX12_countOf_86 : decode cX12_countOf 86 = .ok (.ireturn, 1) := by decide +kernel
theorem dX12_countOf_87 : decode cX12_countOf 87 = .ok (.aload_n 0, 1) := by decide +kernel
theorem dX12_countOf_88 : decode cX12_countOf 88 = .ok (.getfield 59, 3) := by decide +kernel
theorem dX12_countOf_91 : decode cX12_countOf 91 = .ok (.ireturn, 1) := by decide +kernel
theorem dX12_countOf_92 : decode cX12_countOf 92 = .ok (.aload_n 0, 1) := by decide +kernel
theorem dX12_countOf_93 : decode cX12_countOf 93 = .ok (.getfield 84, 3) := by decide +kernel
theorem dX12_countOf_96 : decode cX12_countOf 96 = .ok (.ireturn, 1) := by decide +kernel
theorem dX12_countOf_97 : decode cX12_countOf 97 = .ok (.bipush (-102), 2) := by decide +kernel
theorem dX12_countOf_99 : decode cX12_countOf 99 = .ok (.ireturn, 1) := by decide +kernel
theorem dX12_count_0 : decode cX12_count 0 = .ok (.aload_n 0, 1) := by decide +kernel
theorem dX12_count_1 : decode cX12_count 1 = .ok (.iload_n 1, 1) := by decide +kernel
theorem dX12_count_2 : decode cX12_count 2 = .ok (.invokevirtual 218, 3) := by decide +kernel
theorem dX12_count_5 : decode cX12_count 5 = .ok (.ireturn, 1) := by decide +kernel
theorem dX12_say_0 : decode cX12_say 0 = .ok (.aload_n 0, 1) := by decide +kernel
theorem dX12_say_1 : decode cX12_say 1 = .ok (.ldc2_w 221, 3) := by decide +kernel
theorem dX12_say_4 : decode cX12_say 4 = .ok (.aload_n 0, 1) := by decide +kernel
theorem dX12_say_5 : decode cX12_say 5 = .ok (.getfield 223, 3) := by decide +kernel
theorem dX12_say_8 : decode cX12_say 8 = .ok (.lmul, 1) := by decide +kernel
theorem dX12_say_9 : decode cX12_say 9 = .ok (.lload_n 1, 1) := by decide +kernel
theorem dX12_say_10 : decode cX12_say 10 = .ok (.ladd, 1) := by decide +kernel
theorem dX12_say_11 : decode cX12_say 11 = .ok (.putfield 223, 3) := by decide +kernel
theorem dX12_say_14 : decode cX12_say 14 = .ok (.return_, 1) := by decide +kernel
theorem dX12_sayHull_0 : decode cX12_sayHull 0 = .ok (.iconst 0, 1) := by decide +kernel
theorem dX12_sayHull_1 : decode cX12_sayHull 1 = .ok (.istore_n 2, 1) := by decide +kernel
theorem dX12_sayHull_2 : decode cX12_sayHull 2 = .ok (.iload_n 2, 1) := by decide +kernel
theorem dX12_sayHull_3 : decode cX12_sayHull 3 = .ok (.bipush 14, 2) := by decide +kernel
theorem dX12_sayHull_5 : decode cX12_sayHull 5 = .ok (.if_icmp .ge 31, 3) := by decide +kernel
theorem dX12_sayHull_8 : decode cX12_sayHull 8 = .ok (.iload_n 2, 1) := by decide +kernel
theorem dX12_sayHull_9 : decode cX12_sayHull 9 = .ok (.iconst 5, 1) := by decide +kernel
theorem dX12_sayHull_10 : decode cX12_sayHull 10 = .ok (.if_icmp .lt 9, 3) := by decide +kernel
theorem dX12_sayHull_13 : decode cX12_sayHull 13 = .ok (.iload_n 2, 1) := by decide +kernel
theorem dX12_sayHull_14 : decode cX12_sayHull 14 = .ok (.bipush 9, 2) := by decide +kernel
theorem dX12_sayHull_16 : decode cX12_sayHull 16 = .ok (.if_icmp .le 14, 3) := by decide +kernel
theorem dX12_sayHull_19 : decode cX12_sayHull 19 = .ok (.aload_n 0, 1) := by decide +kernel
theorem dX12_sayHull_20 : decode cX12_sayHull 20 = .ok (.aload_n 0, 1) := by decide +kernel
theorem dX12_sayHull_21 : decode cX12_sayHull 21 = .ok (.iload_n 1, 1) := by decide +kernel
theorem dX12_sayHull_22 : decode cX12_sayHull 22 = .ok (.iload_n 2, 1) := by decide +kernel
theorem dX12_sayHull_23 : decode cX12_sayHull 23 = .ok (.invokevirtual 137, 3) := by decide +kernel
theorem dX12_sayHull_26 : decode cX12_sayHull 26 = .ok (.i2l, 1) := by decide +kernel
theorem dX12_sayHull_27 : decode cX12_sayHull 27 = .ok (.invokevirtual 227, 3) := by decide +kernel
theorem dX12_sayHull_30 : decode cX12_sayHull 30 = .ok (.iinc 2 1, 3) := by decide +kernel
theorem dX12_sayHull_33 : decode cX12_sayHull 33 = .ok (.goto (-31), 3) := by decide +kernel
theorem dX12_sayHull_36 : decode cX12_sayHull 36 = .ok (.iconst 0, 1) := by decide +kernel
theorem dX12_sayHull_37 : decode cX12_sayHull 37 = .ok (.istore_n 2, 1) := by decide +kernel
theorem dX12_sayHull_38 : decode cX12_sayHull 38 = .ok (.iload_n 2, 1) := by decide +kernel
theorem dX12_sayHull_39 : decode cX12_sayHull 39 = .ok (.bipush 12, 2) := by decide +kernel
theorem dX12_sayHull_41 : decode cX12_sayHull 41 = .ok (.if_icmp .ge 32, 3) := by decide +kernel
theorem dX12_sayHull_44 : decode cX12_sayHull 44 = .ok (.aload_n 0, 1) := by decide +kernel
theorem dX12_sayHull_45 : decode cX12_sayHull 45 = .ok (.aload_n 0, 1) := by decide +kernel
theorem dX12_sayHull_46 : decode cX12_sayHull 46 = .ok (.iload_n 1, 1) := by decide +kernel
theorem dX12_sayHull_47 : decode cX12_sayHull 47 = .ok (.iload_n 2, 1) := by decide +kernel
theorem dX12_sayHull_48 : decode cX12_sayHull 48 = .ok (.aload_n 0, 1) := by decide +kernel
theorem dX12_sayHull_49 : decode cX12_sayHull 49 = .ok (.getfield 75, 3) := by decide +kernel
theorem dX12_sayHull_52 : decode cX12_sayHull 52 = .ok (.aload_n 0, 1) := by decide +kernel
theorem dX12_sayHull_53 : decode cX12_sayHull 53 = .ok (.getfield 50, 3) := by decide +kernel
theorem dX12_sayHull_56 : decode cX12_sayHull 56 = .ok (.aload_n 0, 1) := by decide +kernel
theorem dX12_sayHull_57 : decode cX12_sayHull 57 = .ok (.getfield 72, 3) := by decide +kernel
theorem dX12_sayHull_60 : decode cX12_sayHull 60 = .ok (.invokevirtual 147, 3) := by decide +kernel
theorem dX12_sayHull_63 : decode cX12_sayHull 63 = .ok (.i2l, 1) := by decide +kernel
theorem dX12_sayHull_64 : decode cX12_sayHull 64 = .ok (.invokevirtual 227, 3) := by decide +kernel
theorem dX12_sayHull_67 : decode cX12_sayHull 67 = .ok (.iinc 2 1, 3) := by decide +kernel
theorem dX12_sayHull_70 : decode cX12_sayHull 70 = .ok (.goto (-32), 3) := by decide +kernel
theorem dX12_sayHull_73 : decode cX12_sayHull 73 = .ok (.aload_n 0, 1) := by decide +kernel
theorem dX12_sayHull_74 : decode cX12_sayHull 74 = .ok (.aload_n 0, 1) := by decide +kernel
theorem dX12_sayHull_75 : decode cX12_sayHull 75 = .ok (.iload_n 1, 1) := by decide +kernel
theorem dX12_sayHull_76 : decode cX12_sayHull 76 = .ok (.invokevirtual 182, 3) := by decide +kernel
theorem dX12_sayHull_79 : decode cX12_sayHull 79 = .ok (.i2l, 1) := by decide +kernel
theorem dX12_sayHull_80 : decode cX12_sayHull 80 = .ok (.invokevirtual 227, 3) := by decide +kernel
theorem dX12_sayHull_83 : decode cX12_sayHull 83 = .ok (.return_, 1) := by decide +kernel
theorem dX12_digest_0 : decode cX12_digest 0 = .ok (.aload_n 0, 1) := by decide +kernel
theorem dX12_digest_1 : decode cX12_digest 1 = .ok (.ldc2_w 231, 3) := by decide +kernel
theorem dX12_digest_4 : decode cX12_digest 4 = .ok (.putfield 223, 3) := by decide +kernel
theorem dX12_digest_7 : decode cX12_digest 7 = .ok (.iconst 0, 1) := by decide +kernel
theorem dX12_digest_8 : decode cX12_digest 8 = .ok (.istore_n 1, 1) := by decide +kernel
theorem dX12_digest_9 : decode cX12_digest 9 = .ok (.iload_n 1, 1) := by decide +kernel
theorem dX12_digest_10 : decode cX12_digest 10 = .ok (.bipush 12, 2) := by decide +kernel
theorem dX12_digest_12 : decode cX12_digest 12 = .ok (.if_icmp .ge 40, 3) := by decide +kernel
theorem dX12_digest_15 : decode cX12_digest 15 = .ok (.aload_n 0, 1) := by decide +kernel
theorem dX12_digest_16 : decode cX12_digest 16 = .ok (.invokevirtual 89, 3) := by decide +kernel
theorem dX12_digest_19 : decode cX12_digest 19 = .ok (.ifCond .ne 33, 3) := by decide +kernel
theorem dX12_digest_22 : decode cX12_digest 22 = .ok (.iconst 0, 1) := by decide +kernel
theorem dX12_digest_23 : decode cX12_digest 23 = .ok (.istore_n 2, 1) := by decide +kernel
theorem dX12_digest_24 : decode cX12_digest 24 = .ok (.iload_n 2, 1) := by decide +kernel
theorem dX12_digest_25 : decode cX12_digest 25 = .ok (.iconst 4, 1) := by decide +kernel
theorem dX12_digest_26 : decode cX12_digest 26 = .ok (.if_icmp .ge 20, 3) := by decide +kernel
theorem dX12_digest_29 : decode cX12_digest 29 = .ok (.aload_n 0, 1) := by decide +kernel
theorem dX12_digest_30 : decode cX12_digest 30 = .ok (.aload_n 0, 1) := by decide +kernel
theorem dX12_digest_31 : decode cX12_digest 31 = .ok (.iload_n 1, 1) := by decide +kernel
theorem dX12_digest_32 : decode cX12_digest 32 = .ok (.iload_n 2, 1) := by decide +kernel
theorem dX12_digest_33 : decode cX12_digest 33 = .ok (.invokevirtual 105, 3) := by decide +kernel
theorem dX12_digest_36 : decode cX12_digest 36 = .ok (.i2l, 1) := by decide +kernel
theorem dX12_digest_37 : decode cX12_digest 37 = .ok (.invokevirtual 227, 3) := by decide +kernel
theorem dX12_digest_40 : decode cX12_digest 40 = .ok (.iinc 2 1, 3) := by decide +kernel
theorem dX12_digest_43 : decode cX12_digest 43 = .ok (.goto (-19), 3) := by decide +kernel
theorem dX12_digest_46 : decode cX12_digest 46 = .ok (.iinc 1 1, 3) := by decide +kernel
theorem dX12_digest_49 : decode cX12_digest 49 = .ok (.goto (-40), 3) := by decide +kernel
theorem dX12_digest_52 : decode cX12_digest 52 = .ok (.iconst 0, 1) := by decide +kernel
theorem dX12_digest_53 : decode cX12_digest 53 = .ok (.istore_n 1, 1) := by decide +kernel
theorem dX12_digest_54 : decode cX12_digest 54 = .ok (.iload_n 1, 1) := by decide +kernel
theorem dX12_digest_55 : decode cX12_digest 55 = .ok (.aload_n 0, 1) := by decide +kernel
theorem dX12_digest_56 : decode cX12_digest 56 = .ok (.getfield 78, 3) := by decide +kernel
theorem dX12_digest_59 : decode cX12_digest 59 = .ok (.if_icmp .ge 14, 3) := by decide +kernel
theorem dX12_digest_62 : decode cX12_digest 62 = .ok (.aload_n 0, 1) := by decide +kernel
theorem dX12_digest_63 : decode cX12_digest 63 = .ok (.iload_n 1, 1) := by decide +kernel
theorem dX12_digest_64 : decode cX12_digest 64 = .ok (.invokevirtual 233, 3) := by decide +kernel
theorem dX12_digest_67 : decode cX12_digest 67 = .ok (.iinc 1 1, 3) := by decide +kernel
theorem dX12_digest_70 : decode cX12_digest 70 = .ok (.goto (-16), 3) := by decide +kernel
theorem dX12_digest_73 : decode cX12_digest 73 = .ok (.iconst 0, 1) := by decide +kernel
theorem dX12_digest_74 : decode cX12_digest 74 = .ok (.istore_n 1, 1) := by decide +kernel
theorem dX12_digest_75 : decode cX12_digest 75 = .ok (.iload_n 1, 1) := by decide +kernel
theorem dX12_digest_76 : decode cX12_digest 76 = .ok (.aload_n 0, 1) := by decide +kernel
theorem dX12_digest_77 : decode cX12_digest 77 = .ok (.getfield 59, 3) := by decide +kernel
theorem dX12_digest_80 : decode cX12_digest 80 = .ok (.if_icmp .ge 20, 3) := by decide +kernel
theorem dX12_digest_83 : decode cX12_digest 83 = .ok (.aload_n 0, 1) := by decide +kernel
theorem dX12_digest_84 : decode cX12_digest 84 = .ok (.aload_n 0, 1) := by decide +kernel
theorem dX12_digest_85 : decode cX12_digest 85 = .ok (.getfield 7, 3) := by decide +kernel
theorem dX12_digest_88 : decode cX12_digest 88 = .ok (.iload_n 1, 1) := by decide +kernel
theorem dX12_digest_89 : decode cX12_digest 89 = .ok (.iaload, 1) := by decide +kernel
theorem dX12_digest_90 : decode cX12_digest 90 = .ok (.i2l, 1) := by decide +kernel
theorem dX12_digest_91 : decode cX12_digest 91 = .ok (.invokevirtual 227, 3) := by decide +kernel
theorem dX12_digest_94 : decode cX12_digest 94 = .ok (.iinc 1 1, 3) := by decide +kernel
theorem dX12_digest_97 : decode cX12_digest 97 = .ok (.goto (-22), 3) := by decide +kernel
theorem dX12_digest_100 : decode cX12_digest 100 = .ok (.iconst 0, 1) := by decide +kernel
theorem dX12_digest_101 : decode cX12_digest 101 = .ok (.istore_n 1, 1) := by decide +kernel
theorem dX12_digest_102 : decode cX12_digest 102 = .ok (.iload_n 1, 1) := by decide +kernel
theorem dX12_digest_103 : decode cX12_digest 103 = .ok (.bipush 9, 2) := by decide +kernel
theorem dX12_digest_105 : decode cX12_digest 105 = .ok (.if_icmp .ge 19, 3) := by decide +kernel
theorem dX12_digest_108 : decode cX12_digest 108 = .ok (.aload_n 0, 1) := by decide +kernel
theorem dX12_digest_109 : decode cX12_digest 109 = .ok (.aload_n 0, 1) := by decide +kernel
theorem dX12_digest_110 : decode cX12_digest 110 = .ok (.iload_n 1, 1) := by decide +kernel
theorem dX12_digest_111 : decode cX12_digest 111 = .ok (.invokevirtual 218, 3) := by decide +kernel
theorem dX12_digest_114 : decode cX12_digest 114 = .ok (.i2l, 1) := by decide +kernel
theorem dX12_digest_115 : decode cX12_digest 115 = .ok (.invokevirtual 227, 3) := by decide +kernel
theorem dX12_digest_118 : decode cX12_digest 118 = .ok (.iinc 1 1, 3) := by decide +kernel
theorem dX12_digest_121 : decode cX12_digest 121 = .ok (.goto (-19), 3) := by decide +kernel
theorem dX12_digest_124 : decode cX12_digest 124 = .ok (.aload_n 0, 1) := by decide +kernel
theorem dX12_digest_125 : decode cX12_digest 125 = .ok (.getfield 223, 3) := by decide +kernel
theorem dX12_digest_128 : decode cX12_digest 128 = .ok (.lreturn, 1) := by decide +kernel
theorem dJ9_max_7cf53_0 : decode cJ9_max_7cf53 0 = .ok (.iload_n 0, 1) := by decide +kernel
theorem dJ9_max_7cf53_1 : decode cJ9_max_7cf53 1 = .ok (.iload_n 1, 1) := by decide +kernel
theorem dJ9_max_7cf53_2 : decode cJ9_max_7cf53 2 = .ok (.if_icmp .lt 7, 3) := by decide +kernel
theorem dJ9_max_7cf53_5 : decode cJ9_max_7cf53 5 = .ok (.iload_n 0, 1) := by decide +kernel
theorem dJ9_max_7cf53_6 : decode cJ9_max_7cf53 6 = .ok (.goto 4, 3) := by decide +kernel
theorem dJ9_max_7cf53_9 : decode cJ9_max_7cf53 9 = .ok (.iload_n 1, 1) := by decide +kernel
theorem dJ9_max_7cf53_10 : decode cJ9_max_7cf53 10 = .ok (.ireturn, 1) := by decide +kernel
theorem dJ0_length_8abf5_0 : decode cJ0_length_8abf5 0 = .ok (.aload_n 0, 1) := by decide +kernel
theorem dJ0_length_8abf5_1 : decode cJ0_length_8abf5 1 = .ok (.getfield 9, 3) := by decide +kernel
theorem dJ0_length_8abf5_4 : decode cJ0_length_8abf5 4 = .ok (.arraylength, 1) := by decide +kernel
theorem dJ0_length_8abf5_5 : decode cJ0_length_8abf5 5 = .ok (.aload_n 0, 1) := by decide +kernel
theorem dJ0_length_8abf5_6 : decode cJ0_length_8abf5 6 = .ok (.invokevirtual 335, 3) := by decide +kernel
theorem dJ0_length_8abf5_9 : decode cJ0_length_8abf5 9 = .ok (.ishr, 1) := by decide +kernel
theorem dJ0_length_8abf5_10 : decode cJ0_length_8abf5 10 = .ok (.ireturn, 1) := by decide +kernel
theorem dJ0_charAt_5068e_0 : decode cJ0_charAt_5068e 0 = .ok (.aload_n 0, 1) := by decide +kernel
theorem dJ0_charAt_5068e_1 : decode cJ0_charAt_5068e 1 = .ok (.invokevirtual 492, 3) := by decide +kernel
theorem dJ0_charAt_5068e_4 : decode cJ0_charAt_5068e 4 = .ok (.ifCond .eq 12, 3) := by decide +kernel
theorem dJ0_charAt_5068e_7 : decode cJ0_charAt_5068e 7 = .ok (.aload_n 0, 1) := by decide +kernel
theorem dJ0_charAt_5068e_8 : decode cJ0_charAt_5068e 8 = .ok (.getfield 9, 3) := by decide +kernel
theorem dJ0_charAt_5068e_11 : decode cJ0_charAt_5068e 11 = .ok (.iload_n 1, 1) := by decide +kernel
theorem dJ0_charAt_5068e_12 : decode cJ0_charAt_5068e 12 = .ok (.invokestatic 495, 3) := by decide +kernel
theorem dJ0_charAt_5068e_15 : decode cJ0_charAt_5068e 15 = .ok (.ireturn, 1) := by decide +kernel
theorem dJ0_charAt_5068e_16 : decode cJ0_charAt_5068e 16 = .ok (.aload_n 0, 1) := by decide +kernel
theorem dJ0_charAt_5068e_17 : decode cJ0_charAt_5068e 17 = .ok (.getfield 9, 3) := by decide +kernel
theorem dJ0_charAt_5068e_20 : decode cJ0_charAt_5068e 20 = .ok (.iload_n 1, 1) := by decide +kernel
theorem dJ0_charAt_5068e_21 : decode cJ0_charAt_5068e 21 = .ok (.invokestatic 498, 3) := by decide +kernel
theorem dJ0_charAt_5068e_24 : decode cJ0_charAt_5068e 24 = .ok (.ireturn, 1) := by decide +kernel
theorem dJ0_coder_7d493_0 : decode cJ0_coder_7d493 0 = .ok (.getstatic 38, 3) := by decide +kernel
theorem dJ0_coder_7d493_3 : decode cJ0_coder_7d493 3 = .ok (.ifCond .eq 10, 3) := by decide +kernel
theorem dJ0_coder_7d493_6 : decode cJ0_coder_7d493 6 = .ok (.aload_n 0, 1) := by decide +kernel
theorem dJ0_coder_7d493_7 : decode cJ0_coder_7d493 7 = .ok (.getfield 15, 3) := by decide +kernel
theorem dJ0_coder_7d493_10 : decode cJ0_coder_7d493 10 = .ok (.goto 4, 3) := by decide +kernel
theorem dJ0_coder_7d493_13 : decode cJ0_coder_7d493 13 = .ok (.iconst 1, 1) := by decide +kernel
theorem dJ0_coder_7d493_14 : decode cJ0_coder_7d493 14 = .ok (.ireturn, 1) := by decide +kernel
theorem dJ0_isLatin1_aae02_0 : decode cJ0_isLatin1_aae02 0 = .ok (.getstatic 38, 3) := by decide +kernel
theorem dJ0_isLatin1_aae02_3 : decode cJ0_isLatin1_aae02 3 = .ok (.ifCond .eq 14, 3) := by decide +kernel
theorem dJ0_isLatin1_aae02_6 : decode cJ0_isLatin1_aae02 6 = .ok (.aload_n 0, 1) := by decide +kernel
theorem dJ0_isLatin1_aae02_7 : decode cJ0_isLatin1_aae02 7 = .ok (.getfield 15, 3) := by decide +kernel
theorem dJ0_isLatin1_aae02_10 : decode cJ0_isLatin1_aae02 10 = .ok (.ifCond .ne 7, 3) := by decide +kernel
theorem dJ0_isLatin1_aae02_13 : decode cJ0_isLatin1_aae02 13 = .ok (.iconst 1, 1) := by decide +kernel
theorem dJ0_isLatin1_aae02_14 : decode cJ0_isLatin1_aae02 14 = .ok (.goto 4, 3) := by decide +kernel
theorem dJ0_isLatin1_aae02_17 : decode cJ0_isLatin1_aae02 17 = .ok (.iconst 0, 1) := by decide +kernel
theorem dJ0_isLatin1_aae02_18 : decode cJ0_isLatin1_aae02 18 = .ok (.ireturn, 1) := by decide +kernel
theorem dJ0_checkIndex_df160_0 : decode cJ0_checkIndex_df160 0 = .ok (.iload_n 0, 1) := by decide +kernel
theorem dJ0_checkIndex_df160_1 : decode cJ0_checkIndex_df160 1 = .ok (.iload_n 1, 1) := by decide +kernel
theorem dJ0_checkIndex_df160_2 : decode cJ0_checkIndex_df160 2 = .ok (.getstatic 1053, 3) := by decide +kernel
theorem dJ0_checkIndex_df160_5 : decode cJ0_checkIndex_df160 5 = .ok (.invokestatic 1059, 3) := by decide +kernel
theorem dJ0_checkIndex_df160_8 : decode cJ0_checkIndex_df160 8 = .ok (.pop, 1) := by decide +kernel
theorem dJ0_checkIndex_df160_9 : decode cJ0_checkIndex_df160 9 = .ok (.return_, 1) := by decide +kernel
theorem dJ1_charAt_3b067_0 : decode cJ1_charAt_3b067 0 = .ok (.iload_n 1, 1) := by decide +kernel
theorem dJ1_charAt_3b067_1 : decode cJ1_charAt_3b067 1 = .ok (.aload_n 0, 1) := by decide +kernel
theorem dJ1_charAt_3b067_2 : decode cJ1_charAt_3b067 2 = .ok (.arraylength, 1) := by decide +kernel
theorem dJ1_charAt_3b067_3 : decode cJ1_charAt_3b067 3 = .ok (.invokestatic 9, 3) := by decide +kernel
theorem dJ1_charAt_3b067_6 : decode cJ1_charAt_3b067 6 = .ok (.aload_n 0, 1) := by decide +kernel
theorem dJ1_charAt_3b067_7 : decode cJ1_charAt_3b067 7 = .ok (.iload_n 1, 1) := by decide +kernel
theorem dJ1_charAt_3b067_8 : decode cJ1_charAt_3b067 8 = .ok (.baload, 1) := by decide +kernel
theorem dJ1_charAt_3b067_9 : decode cJ1_charAt_3b067 9 = .ok (.sipush 255, 3) := by decide +kernel
theorem dJ1_charAt_3b067_12 : decode cJ1_charAt_3b067 12 = .ok (.iand, 1) := by decide +kernel
theorem dJ1_charAt_3b067_13 : decode cJ1_charAt_3b067 13 = .ok (.i2c, 1) := by decide +kernel
theorem dJ1_charAt_3b067_14 : decode cJ1_charAt_3b067 14 = .ok (.ireturn, 1) := by decide +kernel
theorem dJ2_getChar_3b067_0 : decode cJ2_getChar_3b067 0 = .ok (.getstatic 44, 3) := by decide +kernel
theorem dJ2_getChar_3b067_3 : decode cJ2_getChar_3b067 3 = .ok (.ifCond .ne 25, 3) := by decide +kernel
theorem dJ2_getChar_3b067_6 : decode cJ2_getChar_3b067 6 = .ok (.iload_n 1, 1) := by decide +kernel
theorem dJ2_getChar_3b067_7 : decode cJ2_getChar_3b067 7 = .ok (.ifCond .lt 11, 3) := by decide +kernel
theorem dJ2_getChar_3b067_10 : decode cJ2_getChar_3b067 10 = .ok (.iload_n 1, 1) := by decide +kernel
theorem dJ2_getChar_3b067_11 : decode cJ2_getChar_3b067 11 = .ok (.aload_n 0, 1) := by decide +kernel
theorem dJ2_getChar_3b067_12 : decode cJ2_getChar_3b067 12 = .ok (.invokestatic 48, 3) := by decide +kernel
theorem dJ2_getChar_3b067_15 : decode cJ2_getChar_3b067 15 = .ok (.if_icmp .lt 13, 3) := by decide +kernel
theorem dJ2_getChar_3b067_18 : decode cJ2_getChar_3b067 18 = .ok (.new 52, 3) := by decide +kernel
theorem dJ2_getChar_3b067_21 : decode cJ2_getChar_3b067 21 = .ok (.dup, 1) := by decide +kernel
theorem dJ2_getChar_3b067_22 : decode cJ2_getChar_3b067 22 = .ok (.ldc 54, 2) := by decide +kernel
theorem dJ2_getChar_3b067_24 : decode cJ2_getChar_3b067 24 = .ok (.invokespecial 56, 3) := by decide +kernel
theorem dJ2_getChar_3b067_27 : decode cJ2_getChar_3b067 27 = .ok (.athrow, 1) := by decide +kernel
theorem dJ2_getChar_3b067_28 : decode cJ2_getChar_3b067 28 = .ok (.iload_n 1, 1) := by decide +kernel
theorem dJ2_getChar_3b067_29 : decode cJ2_getChar_3b067 29 = .ok (.iconst 1, 1) := by decide +kernel
theorem dJ2_getChar_3b067_30 : decode cJ2_getChar_3b067 30 = .ok (.ishl, 1) := by decide +kernel
theorem dJ2_getChar_3b067_31 : decode cJ2_getChar_3b067 31 = .ok (.istore_n 1, 1) := by decide +kernel
theorem dJ2_getChar_3b067_32 : decode cJ2_getChar_3b067 32 = .ok (.aload_n 0, 1) := by decide +kernel
theorem dJ2_getChar_3b067_33 : decode cJ2_getChar_3b067 33 = .ok (.iload_n 1, 1) := by decide +kernel
theorem dJ2_getChar_3b067_34 : decode cJ2_getChar_3b067 34 = .ok (.iinc 1 1, 3) := by decide +kernel
theorem dJ2_getChar_3b067_37 : decode cJ2_getChar_3b067 37 = .ok (.baload, 1) := by decide +kernel
theorem dJ2_getChar_3b067_38 : decode cJ2_getChar_3b067 38 = .ok (.sipush 255, 3) := by decide +kernel
theorem dJ2_getChar_3b067_41 : decode cJ2_getChar_3b067 41 = .ok (.iand, 1) := by decide +kernel
theorem dJ2_getChar_3b067_42 : decode cJ2_getChar_3b067 42 = .ok (.getstatic 59, 3) := by decide +kernel
theorem dJ2_getChar_3b067_45 : decode cJ2_getChar_3b067 45 = .ok (.ishl, 1) := by decide +kernel
theorem dJ2_getChar_3b067_46 : decode cJ2_getChar_3b067 46 = .ok (.aload_n 0, 1) := by decide +kernel
theorem dJ2_getChar_3b067_47 : decode cJ2_getChar_3b067 47 = .ok (.iload_n 1, 1) := by decide +kernel
theorem dJ2_getChar_3b067_48 : decode cJ2_getChar_3b067 48 = .ok (.baload, 1) := by decide +kernel
theorem dJ2_getChar_3b067_49 : decode cJ2_getChar_3b067 49 = .ok (.sipush 255, 3) := by decide +kernel
theorem dJ2_getChar_3b067_52 : decode cJ2_getChar_3b067 52 = .ok (.iand, 1) := by decide +kernel
theorem dJ2_getChar_3b067_53 : decode cJ2_getChar_3b067 53 = .ok (.getstatic 63, 3) := by decide +kernel
theorem dJ2_getChar_3b067_56 : decode cJ2_getChar_3b067 56 = .ok (.ishl, 1) := by decide +kernel
theorem dJ2_getChar_3b067_57 : decode cJ2_getChar_3b067 57 = .ok (.ior, 1) := by decide +kernel
theorem dJ2_getChar_3b067_58 : decode cJ2_getChar_3b067 58 = .ok (.i2c, 1) := by decide +kernel
theorem dJ2_getChar_3b067_59 : decode cJ2_getChar_3b067 59 = .ok (.ireturn, 1) := by decide +kernel
theorem dJ2_length_9d52b_0 : decode cJ2_length_9d52b 0 = .ok (.aload_n 0, 1) := by decide +kernel
theorem dJ2_length_9d52b_1 : decode cJ2_length_9d52b 1 = .ok (.arraylength, 1) := by decide +kernel
theorem dJ2_length_9d52b_2 : decode cJ2_length_9d52b 2 = .ok (.iconst 1, 1) := by decide +kernel
theorem dJ2_length_9d52b_3 : decode cJ2_length_9d52b 3 = .ok (.ishr, 1) := by decide +kernel
theorem dJ2_length_9d52b_4 : decode cJ2_length_9d52b 4 = .ok (.ireturn, 1) := by decide +kernel
theorem dJ2_charAt_3b067_0 : decode cJ2_charAt_3b067 0 = .ok (.iload_n 1, 1) := by decide +kernel
theorem dJ2_charAt_3b067_1 : decode cJ2_charAt_3b067 1 = .ok (.aload_n 0, 1) := by decide +kernel
theorem dJ2_charAt_3b067_2 : decode cJ2_charAt_3b067 2 = .ok (.invokestatic 67, 3) := by decide +kernel
theorem dJ2_charAt_3b067_5 : decode cJ2_charAt_3b067 5 = .ok (.aload_n 0, 1) := by decide +kernel
theorem dJ2_charAt_3b067_6 : decode cJ2_charAt_3b067 6 = .ok (.iload_n 1, 1) := by decide +kernel
theorem dJ2_charAt_3b067_7 : decode cJ2_charAt_3b067 7 = .ok (.invokestatic 71, 3) := by decide +kernel
theorem dJ2_charAt_3b067_10 : decode cJ2_charAt_3b067 10 = .ok (.ireturn, 1) := by decide +kernel
theorem dJ2_checkIndex_2214a_0 : decode cJ2_checkIndex_2214a 0 = .ok (.iload_n 0, 1) := by decide +kernel
theorem dJ2_checkIndex_2214a_1 : decode cJ2_checkIndex_2214a 1 = .ok (.aload_n 1, 1) := by decide +kernel
theorem dJ2_checkIndex_2214a_2 : decode cJ2_checkIndex_2214a 2 = .ok (.invokestatic 48, 3) := by decide +kernel
theorem dJ2_checkIndex_2214a_5 : decode cJ2_checkIndex_2214a 5 = .ok (.invokestatic 414, 3) := by decide +kernel
theorem dJ2_checkIndex_2214a_8 : decode cJ2_checkIndex_2214a 8 = .ok (.return_, 1) := by decide +kernel
theorem dJ3_checkIndex_8e157_0 : decode cJ3_checkIndex_8e157 0 = .ok (.iload_n 0, 1) := by decide +kernel
theorem dJ3_checkIndex_8e157_1 : decode cJ3_checkIndex_8e157 1 = .ok (.ifCond .lt 8, 3) := by decide +kernel
theorem dJ3_checkIndex_8e157_4 : decode cJ3_checkIndex_8e157 4 = .ok (.iload_n 0, 1) := by decide +kernel
theorem dJ3_checkIndex_8e157_5 : decode cJ3_checkIndex_8e157 5 = .ok (.iload_n 1, 1) := by decide +kernel
theorem dJ3_checkIndex_8e157_6 : decode cJ3_checkIndex_8e157 6 = .ok (.if_icmp .lt 10, 3) := by decide +kernel
theorem dJ3_checkIndex_8e157_9 : decode cJ3_checkIndex_8e157 9 = .ok (.aload_n 2, 1) := by decide +kernel
theorem dJ3_checkIndex_8e157_10 : decode cJ3_checkIndex_8e157 10 = .ok (.iload_n 0, 1) := by decide +kernel
theorem dJ3_checkIndex_8e157_11 : decode cJ3_checkIndex_8e157 11 = .ok (.iload_n 1, 1) := by decide +kernel
theorem dJ3_checkIndex_8e157_12 : decode cJ3_checkIndex_8e157 12 = .ok (.invokestatic 95, 3) := by decide +kernel
theorem dJ3_checkIndex_8e157_15 : decode cJ3_checkIndex_8e157 15 = .ok (.athrow, 1) := by decide +kernel
theorem dJ3_checkIndex_8e157_16 : decode cJ3_checkIndex_8e157 16 = .ok (.iload_n 0, 1) := by decide +kernel
theorem dJ3_checkIndex_8e157_17 : decode cJ3_checkIndex_8e157 17 = .ok (.ireturn, 1) := by decide +kernel
theorem dL_law_0 : decode cL_law 0 = .ok (.new 7, 3) := by decide +kernel
theorem dL_law_3 : decode cL_law 3 = .ok (.dup, 1) := by decide +kernel
theorem dL_law_4 : decode cL_law 4 = .ok (.invokespecial 9, 3) := by decide +kernel
theorem dL_law_7 : decode cL_law 7 = .ok (.astore_n 1, 1) := by decide +kernel
theorem dL_law_8 : decode cL_law 8 = .ok (.new 10, 3) := by decide +kernel
theorem dL_law_11 : decode cL_law 11 = .ok (.dup, 1) := by decide +kernel
theorem dL_law_12 : decode cL_law 12 = .ok (.invokespecial 12, 3) := by decide +kernel
theorem dL_law_15 : decode cL_law 15 = .ok (.astore_n 2, 1) := by decide +kernel
theorem dL_law_16 : decode cL_law 16 = .ok (.iconst 0, 1) := by decide +kernel
theorem dL_law_17 : decode cL_law 17 = .ok (.istore_n 3, 1) := by decide +kernel
theorem dL_law_18 : decode cL_law 18 = .ok (.iload_n 3, 1) := by decide +kernel
theorem dL_law_19 : decode cL_law 19 = .ok (.aload_n 0, 1) := by decide +kernel
theorem dL_law_20 : decode cL_law 20 = .ok (.arraylength, 1) := by decide +kernel
theorem dL_law_21 : decode cL_law 21 = .ok (.iconst 4, 1) := by decide +kernel
theorem dL_law_22 : decode cL_law 22 = .ok (.isub, 1) := by decide +kernel
theorem dL_law_23 : decode cL_law 23 = .ok (.if_icmp .gt 733, 3) := by decide +kernel
theorem dL_law_26 : decode cL_law 26 = .ok (.aload_n 0, 1) := by decide +kernel
theorem dL_law_27 : decode cL_law 27 = .ok (.iload_n 3, 1) := by decide +kernel
theorem dL_law_28 : decode cL_law 28 = .ok (.iaload, 1) := by decide +kernel
theorem dL_law_29 : decode cL_law 29 = .ok (.bipush 31, 2) := by decide +kernel
theorem dL_law_31 : decode cL_law 31 = .ok (.iand, 1) := by decide +kernel
theorem dL_law_32 : decode cL_law 32 = .ok (.tableswitch 718 0 22 #[108, 131, 144, 157, 170, 203, 226, 249, 292, 325, 358, 391, 434, 467, 500, 533, 576, 589, 612, 655, 668, 681, 704], 108) := by decide +kernel
theorem dL_law_140 : decode cL_law 140 = .ok (.aload_n 1, 1) := by decide +kernel
theorem dL_law_141 : decode cL_law 141 = .ok (.aload_n 0, 1) := by decide +kernel
theorem dL_law_142 : decode cL_law 142 = .ok (.iload_n 3, 1) := by decide +kernel
theorem dL_law_143 : decode cL_law 143 = .ok (.iconst 1, 1) := by decide +kernel
theorem dL_law_144 : decode cL_law 144 = .ok (.iadd, 1) := by decide +kernel
theorem dL_law_145 : decode cL_law 145 = .ok (.iaload, 1) := by decide +kernel
theorem dL_law_146 : decode cL_law 146 = .ok (.invokevirtual 13, 3) := by decide +kernel
theorem dL_law_149 : decode cL_law 149 = .ok (.aload_n 2, 1) := by decide +kernel
theorem dL_law_150 : decode cL_law 150 = .ok (.aload_n 0, 1) := by decide +kernel
theorem dL_law_151 : decode cL_law 151 = .ok (.iload_n 3, 1) := by decide +kernel
theorem dL_law_152 : decode cL_law 152 = .ok (.iconst 1, 1) := by decide +kernel
theorem dL_law_153 : decode cL_law 153 = .ok (.iadd, 1) := by decide +kernel
theorem dL_law_154 : decode cL_law 154 = .ok (.iaload, 1) := by decide +kernel
theorem dL_law_155 : decode cL_law 155 = .ok (.invokevirtual 17, 3) := by decide +kernel
theorem dL_law_158 : decode cL_law 158 = .ok (.if_icmp .eq 592, 3) := by decide +kernel
theorem dL_law_161 : decode cL_law 161 = .ok (.iconst 0, 1) := by decide +kernel
theorem dL_law_162 : decode cL_law 162 = .ok (.ireturn, 1) := by decide +kernel
theorem dL_law_163 : decode cL_law 163 = .ok (.aload_n 1, 1) := by decide +kernel
theorem dL_law_164 : decode cL_law 164 = .ok (.invokevirtual 18, 3) := by decide +kernel
theorem dL_law_167 : decode cL_law 167 = .ok (.aload_n 2, 1) := by decide +kernel
theorem dL_law_168 : decode cL_law 168 = .ok (.invokevirtual 22, 3) := by decide +kernel
theorem dL_law_171 : decode cL_law 171 = .ok (.if_icmp .eq 579, 3) := by decide +kernel
theorem dL_law_174 : decode cL_law 174 = .ok (.iconst 0, 1) := by decide +kernel
theorem dL_law_175 : decode cL_law 175 = .ok (.ireturn, 1) := by decide +kernel
theorem dL_law_176 : decode cL_law 176 = .ok (.aload_n 1, 1) := by decide +kernel
theorem dL_law_177 : decode cL_law 177 = .ok (.invokevirtual 23, 3) := by decide +kernel
theorem dL_law_180 : decode cL_law 180 = .ok (.aload_n 2, 1) := by decide +kernel
theorem dL_law_181 : decode cL_law 181 = .ok (.invokevirtual 26, 3) := by decide +kernel
theorem dL_law_184 : decode cL_law 184 = .ok (.if_icmp .eq 566, 3) := by decide +kernel
theorem dL_law_187 : decode cL_law 187 = .ok (.iconst 0, 1) := by decide +kernel
theorem dL_law_188 : decode cL_law 188 = .ok (.ireturn, 1) := by decide +kernel
theorem dL_law_189 : decode cL_law 189 = .ok (.aload_n 1, 1) := by decide +kernel
theorem dL_law_190 : decode cL_law 190 = .ok (.invokevirtual 27, 3) := by decide +kernel
theorem dL_law_193 : decode cL_law 193 = .ok (.aload_n 2, 1) := by decide +kernel
theorem dL_law_194 : decode cL_law 194 = .ok (.invokevirtual 30, 3) := by decide +kernel
theorem dL_law_197 : decode cL_law 197 = .ok (.if_icmp .eq 553, 3) := by decide +kernel
theorem dL_law_200 : decode cL_law 200 = .ok (.iconst 0, 1) := by decide +kernel
theorem dL_law_201 : decode cL_law 201 = .ok (.ireturn, 1) := by decide +kernel
theorem dL_law_202 : decode cL_law 202 = .ok (.aload_n 1, 1) := by decide +kernel
theorem dL_law_203 : decode cL_law 203 = .ok (.aload_n 0, 1) := by decide +kernel
theorem dL_law_204 : decode cL_law 204 = .ok (.iload_n 3, 1) := by decide +kernel
theorem dL_law_205 : decode cL_law 205 = .ok (.iconst 1, 1) := by decide +kernel
theorem dL_law_206 : decode cL_law 206 = .ok (.iadd, 1) := by decide +kernel
theorem dL_law_207 : decode cL_law 207 = .ok (.iaload, 1) := by decide +kernel
theorem dL_law_208 : decode cL_law 208 = .ok (.aload_n 0, 1) := by decide +kernel
theorem dL_law_209 : decode cL_law 209 = .ok (.iload_n 3, 1) := by decide +kernel
theorem dL_law_210 : decode cL_law 210 = .ok (.iconst 2, 1) := by decide +kernel
theorem dL_law_211 : decode cL_law 211 = .ok (.iadd, 1) := by decide +kernel
theorem dL_law_212 : decode cL_law 212 = .ok (.iaload, 1) := by decide +kernel
theorem dL_law_213 : decode cL_law 213 = .ok (.invokevirtual 31, 3) := by decide +kernel
theorem dL_law_216 : decode cL_law 216 = .ok (.aload_n 2, 1) := by decide +kernel
theorem dL_law_217 : decode cL_law 217 = .ok (.aload_n 0, 1) := by decide +kernel
theorem dL_law_218 : decode cL_law 218 = .ok (.iload_n 3, 1) := by decide +kernel
theorem dL_law_219 : decode cL_law 219 = .ok (.iconst 1, 1) := by decide +kernel
theorem dL_law_220 : decode cL_law 220 = .ok (.iadd, 1) := by decide +kernel
theorem dL_law_221 : decode cL_law 221 = .ok (.iaload, 1) := by decide +kernel
theorem dL_law_222 : decode cL_law 222 = .ok (.aload_n 0, 1) := by decide +kernel
theorem dL_law_223 : decode cL_law 223 = .ok (.iload_n 3, 1) := by decide +kernel
theorem dL_law_224 : decode cL_law 224 = .ok (.iconst 2, 1) := by decide +kernel
theorem dL_law_225 : decode cL_law 225 = .ok (.iadd, 1) := by decide +kernel
theorem dL_law_226 : decode cL_law 226 = .ok (.iaload, 1) := by decide +kernel
theorem dL_law_227 : decode cL_law 227 = .ok (.invokevirtual 35, 3) := by decide +kernel
theorem dL_law_230 : decode cL_law 230 = .ok (.if_icmp .eq 520, 3) := by decide +kernel
theorem dL_law_233 : decode cL_law 233 = .ok (.iconst 0, 1) := by decide +kernel
theorem dL_law_234 : decode cL_law 234 = .ok (.ireturn, 1) := by decide +kernel
theorem dL_law_235 : decode cL_law 235 = .ok (.aload_n 1, 1) := by decide +kernel
theorem dL_law_236 : decode cL_law 236 = .ok (.aload_n 0, 1) := by decide +kernel
theorem dL_law_237 : decode cL_law 237 = .ok (.iload_n 3, 1) := by decide +kernel
theorem dL_law_238 : decode cL_law 238 = .ok (.iconst 1, 1) := by decide +kernel
theorem dL_law_239 : decode cL_law 239 = .ok (.iadd, 1) := by decide +kernel
theorem dL_law_240 : decode cL_law 240 = .ok (.iaload, 1) := by decide +kernel
theorem dL_law_241 : decode cL_law 241 = .ok (.invokevirtual 36, 3) := by decide +kernel
theorem dL_law_244 : decode cL_law 244 = .ok (.aload_n 2, 1) := by decide +kernel
theorem dL_law_245 : decode cL_law 245 = .ok (.aload_n 0, 1) := by decide +kernel
theorem dL_law_246 : decode cL_law 246 = .ok (.iload_n 3, 1) := by decide +kernel
theorem dL_law_247 : decode cL_law 247 = .ok (.iconst 1, 1) := by decide +kernel
theorem dL_law_248 : decode cL_law 248 = .ok (.iadd, 1) := by decide +kernel
theorem dL_law_249 : decode cL_law 249 = .ok (.iaload, 1) := by decide +kernel
theorem dL_law_250 : decode cL_law 250 = .ok (.invokevirtual 39, 3) := by decide +kernel
theorem dL_law_253 : decode cL_law 253 = .ok (.if_icmp .eq 497, 3) := by decide +kernel
theorem dL_law_256 : decode cL_law 256 = .ok (.iconst 0, 1) := by decide +kernel
theorem dL_law_257 : decode cL_law 257 = .ok (.ireturn, 1) := by decide +kernel
theorem dL_law_258 : decode cL_law 258 = .ok (.aload_n 1, 1) := by decide +kernel
theorem dL_law_259 : decode cL_law 259 = .ok (.aload_n 0, 1) := by decide +kernel
theorem dL_law_260 : decode cL_law 260 = .ok (.iload_n 3, 1) := by decide +kernel
theorem dL_law_261 : decode cL_law 261 = .ok (.iconst 1, 1) := by decide +kernel
theorem dL_law_262 : decode cL_law 262 = .ok (.iadd, 1) := by decide +kernel
theorem dL_law_263 : decode cL_law 263 = .ok (.iaload, 1) := by decide +kernel
theorem dL_law_264 : decode cL_law 264 = .ok (.invokevirtual 40, 3) := by decide +kernel
theorem dL_law_267 : decode cL_law 267 = .ok (.aload_n 2, 1) := by decide +kernel
theorem dL_law_268 : decode cL_law 268 = .ok (.aload_n 0, 1) := by decide +kernel
theorem dL_law_269 : decode cL_law 269 = .ok (.iload_n 3, 1) := by decide +kernel
theorem dL_law_270 : decode cL_law 270 = .ok (.iconst 1, 1) := by decide +kernel
theorem dL_law_271 : decode cL_law 271 = .ok (.iadd, 1) := by decide +kernel
theorem dL_law_272 : decode cL_law 272 = .ok (.iaload, 1) := by decide +kernel
theorem dL_law_273 : decode cL_law 273 = .ok (.invokevirtual 43, 3) := by decide +kernel
theorem dL_law_276 : decode cL_law 276 = .ok (.if_icmp .eq 474, 3) := by decide +kernel
theorem dL_law_279 : decode cL_law 279 = .ok (.iconst 0, 1) := by decide +kernel
theorem dL_law_280 : decode cL_law 280 = .ok (.ireturn, 1) := by decide +kernel
theorem dL_law_281 : decode cL_law 281 = .ok (.aload_n 1, 1) := by decide +kernel
theorem dL_law_282 : decode cL_law 282 = .ok (.aload_n 0, 1) := by decide +kernel
theorem dL_law_283 : decode cL_law 283 = .ok (.iload_n 3, 1) := by decide +kernel
theorem dL_law_284 : decode cL_law 284 = .ok (.iconst 1, 1) := by decide +kernel
theorem dL_law_285 : decode cL_law 285 = .ok (.iadd, 1) := by decide +kernel
theorem dL_law_286 : decode cL_law 286 = .ok (.iaload, 1) := by decide +kernel
theorem dL_law_287 : decode cL_law 287 = .ok (.aload_n 0, 1) := by decide +kernel
theorem dL_law_288 : decode cL_law 288 = .ok (.iload_n 3, 1) := by decide +kernel
theorem dL_law_289 : decode cL_law 289 = .ok (.iconst 2, 1) := by decide +kernel
theorem dL_law_290 : decode cL_law 290 = .ok (.iadd, 1) := by decide +kernel
theorem dL_law_291 : decode cL_law 291 = .ok (.iaload, 1) := by decide +kernel
theorem dL_law_292 : decode cL_law 292 = .ok (.aload_n 0, 1) := by decide +kernel
theorem dL_law_293 : decode cL_law 293 = .ok (.iload_n 3, 1) := by decide +kernel
theorem dL_law_294 : decode cL_law 294 = .ok (.iconst 3, 1) := by decide +kernel
theorem dL_law_295 : decode cL_law 295 = .ok (.iadd, 1) := by decide +kernel
theorem dL_law_296 : decode cL_law 296 = .ok (.iaload, 1) := by decide +kernel
theorem dL_law_297 : decode cL_law 297 = .ok (.invokevirtual 44, 3) := by decide +kernel
theorem dL_law_300 : decode cL_law 300 = .ok (.aload_n 2, 1) := by decide +kernel
theorem dL_law_301 : decode cL_law 301 = .ok (.aload_n 0, 1) := by decide +kernel
theorem dL_law_302 : decode cL_law 302 = .ok (.iload_n 3, 1) := by decide +kernel
theorem dL_law_303 : decode cL_law 303 = .ok (.iconst 1, 1) := by decide +kernel
theorem dL_law_304 : decode cL_law 304 = .ok (.iadd, 1) := by decide +kernel
theorem dL_law_305 : decode cL_law 305 = .ok (.iaload, 1) := by decide +kernel
theorem dL_law_306 : decode cL_law 306 = .ok (.aload_n 0, 1) := by decide +kernel
theorem dL_law_307 : decode cL_law 307 = .ok (.iload_n 3, 1) := by decide +kernel
theorem dL_law_308 : decode cL_law 308 = .ok (.iconst 2, 1) := by decide +kernel
theorem dL_law_309 : decode cL_law 309 = .ok (.iadd, 1) := by decide +kernel
theorem dL_law_310 : decode cL_law 310 = .ok (.iaload, 1) := by decide +kernel
theorem dL_law_311 : decode cL_law 311 = .ok (.aload_n 0, 1) := by decide +kernel
theorem dL_law_312 : decode cL_law 312 = .ok (.iload_n 3, 1) := by decide +kernel
theorem dL_law_313 : decode cL_law 313 = .ok (.iconst 3, 1) := by decide +kernel
theorem dL_law_314 : decode cL_law 314 = .ok (.iadd, 1) := by decide +kernel
theorem dL_law_315 : decode cL_law 315 = .ok (.iaload, 1) := by decide +kernel
theorem dL_law_316 : decode cL_law 316 = .ok (.invokevirtual 48, 3) := by decide +kernel
theorem dL_law_319 : decode cL_law 319 = .ok (.if_icmp .eq 431, 3) := by decide +kernel
theorem dL_law_322 : decode cL_law 322 = .ok (.iconst 0, 1) := by decide +kernel
theorem dL_law_323 : decode cL_law 323 = .ok (.ireturn, 1) := by decide +kernel
theorem dL_law_324 : decode cL_law 324 = .ok (.aload_n 1, 1) := by decide +kernel
theorem dL_law_325 : decode cL_law 325 = .ok (.aload_n 0, 1) := by decide +kernel
theorem dL_law_326 : decode cL_law 326 = .ok (.iload_n 3, 1) := by decide +kernel
theorem dL_law_327 : decode cL_law 327 = .ok (.iconst 1, 1) := by decide +kernel
theorem dL_law_328 : decode cL_law 328 = .ok (.iadd, 1) := by decide +kernel
theorem dL_law_329 : decode cL_law 329 = .ok (.iaload, 1) := by decide +kernel
theorem dL_law_330 : decode cL_law 330 = .ok (.aload_n 0, 1) := by decide +kernel
theorem dL_law_331 : decode cL_law 331 = .ok (.iload_n 3, 1) := by decide +kernel
theorem dL_law_332 : decode cL_law 332 = .ok (.iconst 2, 1) := by decide +kernel
theorem dL_law_333 : decode cL_law 333 = .ok (.iadd, 1) := by decide +kernel
theorem dL_law_334 : decode cL_law 334 = .ok (.iaload, 1) := by decide +kernel
theorem dL_law_335 : decode cL_law 335 = .ok (.invokevirtual 49, 3) := by decide +kernel
theorem dL_law_338 : decode cL_law 338 = .ok (.aload_n 2, 1) := by decide +kernel
theorem dL_law_339 : decode cL_law 339 = .ok (.aload_n 0, 1) := by decide +kernel
theorem dL_law_340 : decode cL_law 340 = .ok (.iload_n 3, 1) := by decide +kernel
theorem dL_law_341 : decode cL_law 341 = .ok (.iconst 1, 1) := by decide +kernel
theorem dL_law_342 : decode cL_law 342 = .ok (.iadd, 1) := by decide +kernel
theorem dL_law_343 : decode cL_law 343 = .ok (.iaload, 1) := by decide +kernel
theorem dL_law_344 : decode cL_law 344 = .ok (.aload_n 0, 1) := by decide +kernel
theorem dL_law_345 : decode cL_law 345 = .ok (.iload_n 3, 1) := by decide +kernel
theorem dL_law_346 : decode cL_law 346 = .ok (.iconst 2, 1) := by decide +kernel
theorem dL_law_347 : decode cL_law 347 = .ok (.iadd, 1) := by decide +kernel
theorem dL_law_348 : decode cL_law 348 = .ok (.iaload, 1) := by decide +kernel
theorem dL_law_349 : decode cL_law 349 = .ok (.invokevirtual 52, 3) := by decide +kernel
theorem dL_law_352 : decode cL_law 352 = .ok (.if_icmp .eq 398, 3) := by decide +kernel
theorem dL_law_355 : decode cL_law 355 = .ok (.iconst 0, 1) := by decide +kernel
theorem dL_law_356 : decode cL_law 356 = .ok (.ireturn, 1) := by decide +kernel
theorem dL_law_357 : decode cL_law 357 = .ok (.aload_n 1, 1) := by decide +kernel
theorem dL_law_358 : decode cL_law 358 = .ok (.aload_n 0, 1) := by decide +kernel
theorem dL_law_359 : decode cL_law 359 = .ok (.iload_n 3, 1) := by decide +kernel
theorem dL_law_360 : decode cL_law 360 = .ok (.iconst 1, 1) := by decide +kernel
theorem dL_law_361 : decode cL_law 361 = .ok (.iadd, 1) := by decide +kernel
theorem dL_law_362 : decode cL_law 362 = .ok (.iaload, 1) := by decide +kernel
theorem dL_law_363 : decode cL_law 363 = .ok (.aload_n 0, 1) := by decide +kernel
theorem dL_law_364 : decode cL_law 364 = .ok (.iload_n 3, 1) := by decide +kernel
theorem dL_law_365 : decode cL_law 365 = .ok (.iconst 2, 1) := by decide +kernel
theorem dL_law_366 : decode cL_law 366 = .ok (.iadd, 1) := by decide +kernel
theorem dL_law_367 : decode cL_law 367 = .ok (.iaload, 1) := by decide +kernel
theorem dL_law_368 : decode cL_law 368 = .ok (.invokevirtual 53, 3) := by decide +kernel
theorem dL_law_371 : decode cL_law 371 = .ok (.aload_n 2, 1) := by decide +kernel
theorem dL_law_372 : decode cL_law 372 = .ok (.aload_n 0, 1) := by decide +kernel
theorem dL_law_373 : decode cL_law 373 = .ok (.iload_n 3, 1) := by decide +kernel
theorem dL_law_374 : decode cL_law 374 = .ok (.iconst 1, 1) := by decide +kernel
theorem dL_law_375 : decode cL_law 375 = .ok (.iadd, 1) := by decide +kernel
theorem dL_law_376 : decode cL_law 376 = .ok (.iaload, 1) := by decide +kernel
theorem dL_law_377 : decode cL_law 377 = .ok (.aload_n 0, 1) := by decide +kernel
theorem dL_law_378 : decode cL_law 378 = .ok (.iload_n 3, 1) := by decide +kernel
theorem dL_law_379 : decode cL_law 379 = .ok (.iconst 2, 1) := by decide +kernel
theorem dL_law_380 : decode cL_law 380 = .ok (.iadd, 1) := by decide +kernel
theorem dL_law_381 : decode cL_law 381 = .ok (.iaload, 1) := by decide +kernel
theorem dL_law_382 : decode cL_law 382 = .ok (.invokevirtual 56, 3) := by decide +kernel
theorem dL_law_385 : decode cL_law 385 = .ok (.if_icmp .eq 365, 3) := by decide +kernel
theorem dL_law_388 : decode cL_law 388 = .ok (.iconst 0, 1) := by decide +kernel
theorem dL_law_389 : decode cL_law 389 = .ok (.ireturn, 1) := by decide +kernel
theorem dL_law_390 : decode cL_law 390 = .ok (.aload_n 1, 1) := by decide +kernel
theorem dL_law_391 : decode cL_law 391 = .ok (.aload_n 0, 1) := by decide +kernel
theorem dL_law_392 : decode cL_law 392 = .ok (.iload_n 3, 1) := by decide +kernel
theorem dL_law_393 : decode cL_law 393 = .ok (.iconst 1, 1) := by decide +kernel
theorem dL_law_394 : decode cL_law 394 = .ok (.iadd, 1) := by decide +kernel
theorem dL_law_395 : decode cL_law 395 = .ok (.iaload, 1) := by decide +kernel
theorem dL_law_396 : decode cL_law 396 = .ok (.aload_n 0, 1) := by decide +kernel
theorem dL_law_397 : decode cL_law 397 = .ok (.iload_n 3, 1) := by decide +kernel
theorem dL_law_398 : decode cL_law 398 = .ok (.iconst 2, 1) := by decide +kernel
theorem dL_law_399 : decode cL_law 399 = .ok (.iadd, 1) := by decide +kernel
theorem dL_law_400 : decode cL_law 400 = .ok (.iaload, 1) := by decide +kernel
theorem dL_law_401 : decode cL_law 401 = .ok (.invokevirtual 57, 3) := by decide +kernel
theorem dL_law_404 : decode cL_law 404 = .ok (.aload_n 2, 1) := by decide +kernel
theorem dL_law_405 : decode cL_law 405 = .ok (.aload_n 0, 1) := by decide +kernel
theorem dL_law_406 : decode cL_law 406 = .ok (.iload_n 3, 1) := by decide +kernel
theorem dL_law_407 : decode cL_law 407 = .ok (.iconst 1, 1) := by decide +kernel
theorem dL_law_408 : decode cL_law 408 = .ok (.iadd, 1) := by decide +kernel
theorem dL_law_409 : decode cL_law 409 = .ok (.iaload, 1) := by decide +kernel
theorem dL_law_410 : decode cL_law 410 = .ok (.aload_n 0, 1) := by decide +kernel
theorem dL_law_411 : decode cL_law 411 = .ok (.iload_n 3, 1) := by decide +kernel
theorem dL_law_412 : decode cL_law 412 = .ok (.iconst 2, 1) := by decide +kernel
theorem dL_law_413 : decode cL_law 413 = .ok (.iadd, 1) := by decide +kernel
theorem dL_law_414 : decode cL_law 414 = .ok (.iaload, 1) := by decide +kernel
theorem dL_law_415 : decode cL_law 415 = .ok (.invokevirtual 60, 3) := by decide +kernel
theorem dL_law_418 : decode cL_law 418 = .ok (.if_icmp .eq 332, 3) := by decide +kernel
theorem dL_law_421 : decode cL_law 421 = .ok (.iconst 0, 1) := by decide +kernel
theorem dL_law_422 : decode cL_law 422 = .ok (.ireturn, 1) := by decide +kernel
theorem dL_law_423 : decode cL_law 423 = .ok (.aload_n 1, 1) := by decide +kernel
theorem dL_law_424 : decode cL_law 424 = .ok (.aload_n 0, 1) := by decide +kernel
theorem dL_law_425 : decode cL_law 425 = .ok (.iload_n 3, 1) := by decide +kernel
theorem dL_law_426 : decode cL_law 426 = .ok (.iconst 1, 1) := by decide +kernel
theorem dL_law_427 : decode cL_law 427 = .ok (.iadd, 1) := by decide +kernel
theorem dL_law_428 : decode cL_law 428 = .ok (.iaload, 1) := by decide +kernel
theorem dL_law_429 : decode cL_law 429 = .ok (.aload_n 0, 1) := by decide +kernel
theorem dL_law_430 : decode cL_law 430 = .ok (.iload_n 3, 1) := by decide +kernel
theorem dL_law_431 : decode cL_law 431 = .ok (.iconst 2, 1) := by decide +kernel
theorem dL_law_432 : decode cL_law 432 = .ok (.iadd, 1) := by decide +kernel
theorem dL_law_433 : decode cL_law 433 = .ok (.iaload, 1) := by decide +kernel
theorem dL_law_434 : decode cL_law 434 = .ok (.aload_n 0, 1) := by decide +kernel
theorem dL_law_435 : decode cL_law 435 = .ok (.iload_n 3, 1) := by decide +kernel
theorem dL_law_436 : decode cL_law 436 = .ok (.iconst 3, 1) := by decide +kernel
theorem dL_law_437 : decode cL_law 437 = .ok (.iadd, 1) := by decide +kernel
theorem dL_law_438 : decode cL_law 438 = .ok (.iaload, 1) := by decide +kernel
theorem dL_law_439 : decode cL_law 439 = .ok (.invokevirtual 61, 3) := by decide +kernel
theorem dL_law_442 : decode cL_law 442 = .ok (.aload_n 2, 1) := by decide +kernel
theorem dL_law_443 : decode cL_law 443 = .ok (.aload_n 0, 1) := by decide +kernel
theorem dL_law_444 : decode cL_law 444 = .ok (.iload_n 3, 1) := by decide +kernel
theorem dL_law_445 : decode cL_law 445 = .ok (.iconst 1, 1) := by decide +kernel
theorem dL_law_446 : decode cL_law 446 = .ok (.iadd, 1) := by decide +kernel
theorem dL_law_447 : decode cL_law 447 = .ok (.iaload, 1) := by decide +kernel
theorem dL_law_448 : decode cL_law 448 = .ok (.aload_n 0, 1) := by decide +kernel
theorem dL_law_449 : decode cL_law 449 = .ok (.iload_n 3, 1) := by decide +kernel
theorem dL_law_450 : decode cL_law 450 = .ok (.iconst 2, 1) := by decide +kernel
theorem dL_law_451 : decode cL_law 451 = .ok (.iadd, 1) := by decide +kernel
theorem dL_law_452 : decode cL_law 452 = .ok (.iaload, 1) := by decide +kernel
theorem dL_law_453 : decode cL_law 453 = .ok (.aload_n 0, 1) := by decide +kernel
theorem dL_law_454 : decode cL_law 454 = .ok (.iload_n 3, 1) := by decide +kernel
theorem dL_law_455 : decode cL_law 455 = .ok (.iconst 3, 1) := by decide +kernel
theorem dL_law_456 : decode cL_law 456 = .ok (.iadd, 1) := by decide +kernel
theorem dL_law_457 : decode cL_law 457 = .ok (.iaload, 1) := by decide +kernel
theorem dL_law_458 : decode cL_law 458 = .ok (.invokevirtual 64, 3) := by decide +kernel
theorem dL_law_461 : decode cL_law 461 = .ok (.if_icmp .eq 289, 3) := by decide +kernel
theorem dL_law_464 : decode cL_law 464 = .ok (.iconst 0, 1) := by decide +kernel
theorem dL_law_465 : decode cL_law 465 = .ok (.ireturn, 1) := by decide +kernel
theorem dL_law_466 : decode cL_law 466 = .ok (.aload_n 1, 1) := by decide +kernel
theorem dL_law_467 : decode cL_law 467 = .ok (.aload_n 0, 1) := by decide +kernel
theorem dL_law_468 : decode cL_law 468 = .ok (.iload_n 3, 1) := by decide +kernel
theorem dL_law_469 : decode cL_law 469 = .ok (.iconst 1, 1) := by decide +kernel
theorem dL_law_470 : decode cL_law 470 = .ok (.iadd, 1) := by decide +kernel
theorem dL_law_471 : decode cL_law 471 = .ok (.iaload, 1) := by decide +kernel
theorem dL_law_472 : decode cL_law 472 = .ok (.aload_n 0, 1) := by decide +kernel
theorem dL_law_473 : decode cL_law 473 = .ok (.iload_n 3, 1) := by decide +kernel
theorem dL_law_474 : decode cL_law 474 = .ok (.iconst 2, 1) := by decide +kernel
theorem dL_law_475 : decode cL_law 475 = .ok (.iadd, 1) := by decide +kernel
theorem dL_law_476 : decode cL_law 476 = .ok (.iaload, 1) := by decide +kernel
theorem dL_law_477 : decode cL_law 477 = .ok (.invokevirtual 65, 3) := by decide +kernel
theorem dL_law_480 : decode cL_law 480 = .ok (.aload_n 2, 1) := by decide +kernel
theorem dL_law_481 : decode cL_law 481 = .ok (.aload_n 0, 1) := by decide +kernel
theorem dL_law_482 : decode cL_law 482 = .ok (.iload_n 3, 1) := by decide +kernel
theorem dL_law_483 : decode cL_law 483 = .ok (.iconst 1, 1) := by decide +kernel
theorem dL_law_484 : decode cL_law 484 = .ok (.iadd, 1) := by decide +kernel
theorem dL_law_485 : decode cL_law 485 = .ok (.iaload, 1) := by decide +kernel
theorem dL_law_486 : decode cL_law 486 = .ok (.aload_n 0, 1) := by decide +kernel
theorem dL_law_487 : decode cL_law 487 = .ok (.iload_n 3, 1) := by decide +kernel
theorem dL_law_488 : decode cL_law 488 = .ok (.iconst 2, 1) := by decide +kernel
theorem dL_law_489 : decode cL_law 489 = .ok (.iadd, 1) := by decide +kernel
theorem dL_law_490 : decode cL_law 490 = .ok (.iaload, 1) := by decide +kernel
theorem dL_law_491 : decode cL_law 491 = .ok (.invokevirtual 68, 3) := by decide +kernel
theorem dL_law_494 : decode cL_law 494 = .ok (.if_icmp .eq 256, 3) := by decide +kernel
theorem dL_law_497 : decode cL_law 497 = .ok (.iconst 0, 1) := by decide +kernel
theorem dL_law_498 : decode cL_law 498 = .ok (.ireturn, 1) := by decide +kernel
theorem dL_law_499 : decode cL_law 499 = .ok (.aload_n 1, 1) := by decide +kernel
theorem dL_law_500 : decode cL_law 500 = .ok (.aload_n 0, 1) := by decide +kernel
theorem dL_law_501 : decode cL_law 501 = .ok (.iload_n 3, 1) := by decide +kernel
theorem dL_law_502 : decode cL_law 502 = .ok (.iconst 1, 1) := by decide +kernel
theorem dL_law_503 : decode cL_law 503 = .ok (.iadd, 1) := by decide +kernel
theorem dL_law_504 : decode cL_law 504 = .ok (.iaload, 1) := by decide +kernel
theorem dL_law_505 : decode cL_law 505 = .ok (.aload_n 0, 1) := by decide +kernel
theorem dL_law_506 : decode cL_law 506 = .ok (.iload_n 3, 1) := by decide +kernel
theorem dL_law_507 : decode cL_law 507 = .ok (.iconst 2, 1) := by decide +kernel
theorem dL_law_508 : decode cL_law 508 = .ok (.iadd, 1) := by decide +kernel
theorem dL_law_509 : decode cL_law 509 = .ok (.iaload, 1) := by decide +kernel
theorem dL_law_510 : decode cL_law 510 = .ok (.invokevirtual 69, 3) := by decide +kernel
theorem dL_law_513 : decode cL_law 513 = .ok (.aload_n 2, 1) := by decide +kernel
theorem dL_law_514 : decode cL_law 514 = .ok (.aload_n 0, 1) := by decide +kernel
theorem dL_law_515 : decode cL_law 515 = .ok (.iload_n 3, 1) := by decide +kernel
theorem dL_law_516 : decode cL_law 516 = .ok (.iconst 1, 1) := by decide +kernel
theorem dL_law_517 : decode cL_law 517 = .ok (.iadd, 1) := by decide +kernel
theorem dL_law_518 : decode cL_law 518 = .ok (.iaload, 1) := by decide +kernel
theorem dL_law_519 : decode cL_law 519 = .ok (.aload_n 0, 1) := by decide +kernel
theorem dL_law_520 : decode cL_law 520 = .ok (.iload_n 3, 1) := by decide +kernel
theorem dL_law_521 : decode cL_law 521 = .ok (.iconst 2, 1) := by decide +kernel
theorem dL_law_522 : decode cL_law 522 = .ok (.iadd, 1) := by decide +kernel
theorem dL_law_523 : decode cL_law 523 = .ok (.iaload, 1) := by decide +kernel
theorem dL_law_524 : decode cL_law 524 = .ok (.invokevirtual 72, 3) := by decide +kernel
theorem dL_law_527 : decode cL_law 527 = .ok (.if_icmp .eq 223, 3) := by decide +kernel
theorem dL_law_530 : decode cL_law 530 = .ok (.iconst 0, 1) := by decide +kernel
theorem dL_law_531 : decode cL_law 531 = .ok (.ireturn, 1) := by decide +kernel
theorem dL_law_532 : decode cL_law 532 = .ok (.aload_n 1, 1) := by decide +kernel
theorem dL_law_533 : decode cL_law 533 = .ok (.aload_n 0, 1) := by decide +kernel
theorem dL_law_534 : decode cL_law 534 = .ok (.iload_n 3, 1) := by decide +kernel
theorem dL_law_535 : decode cL_law 535 = .ok (.iconst 1, 1) := by decide +kernel
theorem dL_law_536 : decode cL_law 536 = .ok (.iadd, 1) := by decide +kernel
theorem dL_law_537 : decode cL_law 537 = .ok (.iaload, 1) := by decide +kernel
theorem dL_law_538 : decode cL_law 538 = .ok (.aload_n 0, 1) := by decide +kernel
theorem dL_law_539 : decode cL_law 539 = .ok (.iload_n 3, 1) := by decide +kernel
theorem dL_law_540 : decode cL_law 540 = .ok (.iconst 2, 1) := by decide +kernel
theorem dL_law_541 : decode cL_law 541 = .ok (.iadd, 1) := by decide +kernel
theorem dL_law_542 : decode cL_law 542 = .ok (.iaload, 1) := by decide +kernel
theorem dL_law_543 : decode cL_law 543 = .ok (.invokevirtual 73, 3) := by decide +kernel
theorem dL_law_546 : decode cL_law 546 = .ok (.aload_n 2, 1) := by decide +kernel
theorem dL_law_547 : decode cL_law 547 = .ok (.aload_n 0, 1) := by decide +kernel
theorem dL_law_548 : decode cL_law 548 = .ok (.iload_n 3, 1) := by decide +kernel
theorem dL_law_549 : decode cL_law 549 = .ok (.iconst 1, 1) := by decide +kernel
theorem dL_law_550 : decode cL_law 550 = .ok (.iadd, 1) := by decide +kernel
theorem dL_law_551 : decode cL_law 551 = .ok (.iaload, 1) := by decide +kernel
theorem dL_law_552 : decode cL_law 552 = .ok (.aload_n 0, 1) := by decide +kernel
theorem dL_law_553 : decode cL_law 553 = .ok (.iload_n 3, 1) := by decide +kernel
theorem dL_law_554 : decode cL_law 554 = .ok (.iconst 2, 1) := by decide +kernel
theorem dL_law_555 : decode cL_law 555 = .ok (.iadd, 1) := by decide +kernel
theorem dL_law_556 : decode cL_law 556 = .ok (.iaload, 1) := by decide +kernel
theorem dL_law_557 : decode cL_law 557 = .ok (.invokevirtual 76, 3) := by decide +kernel
theorem dL_law_560 : decode cL_law 560 = .ok (.if_icmp .eq 190, 3) := by decide +kernel
theorem dL_law_563 : decode cL_law 563 = .ok (.iconst 0, 1) := by decide +kernel
theorem dL_law_564 : decode cL_law 564 = .ok (.ireturn, 1) := by decide +kernel
theorem dL_law_565 : decode cL_law 565 = .ok (.aload_n 1, 1) := by decide +kernel
theorem dL_law_566 : decode cL_law 566 = .ok (.aload_n 0, 1) := by decide +kernel
theorem dL_law_567 : decode cL_law 567 = .ok (.iload_n 3, 1) := by decide +kernel
theorem dL_law_568 : decode cL_law 568 = .ok (.iconst 1, 1) := by decide +kernel
theorem dL_law_569 : decode cL_law 569 = .ok (.iadd, 1) := by decide +kernel
theorem dL_law_570 : decode cL_law 570 = .ok (.iaload, 1) := by decide +kernel
theorem dL_law_571 : decode cL_law 571 = .ok (.aload_n 0, 1) := by decide +kernel
theorem dL_law_572 : decode cL_law 572 = .ok (.iload_n 3, 1) := by decide +kernel
theorem dL_law_573 : decode cL_law 573 = .ok (.iconst 2, 1) := by decide +kernel
theorem dL_law_574 : decode cL_law 574 = .ok (.iadd, 1) := by decide +kernel
theorem dL_law_575 : decode cL_law 575 = .ok (.iaload, 1) := by decide +kernel
theorem dL_law_576 : decode cL_law 576 = .ok (.aload_n 0, 1) := by decide +kernel
theorem dL_law_577 : decode cL_law 577 = .ok (.iload_n 3, 1) := by decide +kernel
theorem dL_law_578 : decode cL_law 578 = .ok (.iconst 3, 1) := by decide +kernel
theorem dL_law_579 : decode cL_law 579 = .ok (.iadd, 1) := by decide +kernel
theorem dL_law_580 : decode cL_law 580 = .ok (.iaload, 1) := by decide +kernel
theorem dL_law_581 : decode cL_law 581 = .ok (.invokevirtual 77, 3) := by decide +kernel
theorem dL_law_584 : decode cL_law 584 = .ok (.aload_n 2, 1) := by decide +kernel
theorem dL_law_585 : decode cL_law 585 = .ok (.aload_n 0, 1) := by decide +kernel
theorem dL_law_586 : decode cL_law 586 = .ok (.iload_n 3, 1) := by decide +kernel
theorem dL_law_587 : decode cL_law 587 = .ok (.iconst 1, 1) := by decide +kernel
theorem dL_law_588 : decode cL_law 588 = .ok (.iadd, 1) := by decide +kernel
theorem dL_law_589 : decode cL_law 589 = .ok (.iaload, 1) := by decide +kernel
theorem dL_law_590 : decode cL_law 590 = .ok (.aload_n 0, 1) := by decide +kernel
theorem dL_law_591 : decode cL_law 591 = .ok (.iload_n 3, 1) := by decide +kernel
theorem dL_law_592 : decode cL_law 592 = .ok (.iconst 2, 1) := by decide +kernel
theorem dL_law_593 : decode cL_law 593 = .ok (.iadd, 1) := by decide +kernel
theorem dL_law_594 : decode cL_law 594 = .ok (.iaload, 1) := by decide +kernel
theorem dL_law_595 : decode cL_law 595 = .ok (.aload_n 0, 1) := by decide +kernel
theorem dL_law_596 : decode cL_law 596 = .ok (.iload_n 3, 1) := by decide +kernel
theorem dL_law_597 : decode cL_law 597 = .ok (.iconst 3, 1) := by decide +kernel
theorem dL_law_598 : decode cL_law 598 = .ok (.iadd, 1) := by decide +kernel
theorem dL_law_599 : decode cL_law 599 = .ok (.iaload, 1) := by decide +kernel
theorem dL_law_600 : decode cL_law 600 = .ok (.invokevirtual 80, 3) := by decide +kernel
theorem dL_law_603 : decode cL_law 603 = .ok (.if_icmp .eq 147, 3) := by decide +kernel
theorem dL_law_606 : decode cL_law 606 = .ok (.iconst 0, 1) := by decide +kernel
theorem dL_law_607 : decode cL_law 607 = .ok (.ireturn, 1) := by decide +kernel
theorem dL_law_608 : decode cL_law 608 = .ok (.aload_n 1, 1) := by decide +kernel
theorem dL_law_609 : decode cL_law 609 = .ok (.invokevirtual 81, 3) := by decide +kernel
theorem dL_law_612 : decode cL_law 612 = .ok (.aload_n 2, 1) := by decide +kernel
theorem dL_law_613 : decode cL_law 613 = .ok (.invokevirtual 84, 3) := by decide +kernel
theorem dL_law_616 : decode cL_law 616 = .ok (.if_icmp .eq 134, 3) := by decide +kernel
theorem dL_law_619 : decode cL_law 619 = .ok (.iconst 0, 1) := by decide +kernel
theorem dL_law_620 : decode cL_law 620 = .ok (.ireturn, 1) := by decide +kernel
theorem dL_law_621 : decode cL_law 621 = .ok (.aload_n 1, 1) := by decide +kernel
theorem dL_law_622 : decode cL_law 622 = .ok (.aload_n 0, 1) := by decide +kernel
theorem dL_law_623 : decode cL_law 623 = .ok (.iload_n 3, 1) := by decide +kernel
theorem dL_law_624 : decode cL_law 624 = .ok (.iconst 1, 1) := by decide +kernel
theorem dL_law_625 : decode cL_law 625 = .ok (.iadd, 1) := by decide +kernel
theorem dL_law_626 : decode cL_law 626 = .ok (.iaload, 1) := by decide +kernel
theorem dL_law_627 : decode cL_law 627 = .ok (.invokevirtual 85, 3) := by decide +kernel
theorem dL_law_630 : decode cL_law 630 = .ok (.aload_n 2, 1) := by decide +kernel
theorem dL_law_631 : decode cL_law 631 = .ok (.aload_n 0, 1) := by decide +kernel
theorem dL_law_632 : decode cL_law 632 = .ok (.iload_n 3, 1) := by decide +kernel
theorem dL_law_633 : decode cL_law 633 = .ok (.iconst 1, 1) := by decide +kernel
theorem dL_law_634 : decode cL_law 634 = .ok (.iadd, 1) := by decide +kernel
theorem dL_law_635 : decode cL_law 635 = .ok (.iaload, 1) := by decide +kernel
theorem dL_law_636 : decode cL_law 636 = .ok (.invokevirtual 88, 3) := by decide +kernel
theorem dL_law_639 : decode cL_law 639 = .ok (.if_icmp .eq 111, 3) := by decide +kernel
theorem dL_law_642 : decode cL_law 642 = .ok (.iconst 0, 1) := by decide +kernel
theorem dL_law_643 : decode cL_law 643 = .ok (.ireturn, 1) := by decide +kernel
theorem dL_law_644 : decode cL_law 644 = .ok (.aload_n 1, 1) := by decide +kernel
theorem dL_law_645 : decode cL_law 645 = .ok (.aload_n 0, 1) := by decide +kernel
theorem dL_law_646 : decode cL_law 646 = .ok (.iload_n 3, 1) := by decide +kernel
theorem dL_law_647 : decode cL_law 647 = .ok (.iconst 1, 1) := by decide +kernel
theorem dL_law_648 : decode cL_law 648 = .ok (.iadd, 1) := by decide +kernel
theorem dL_law_649 : decode cL_law 649 = .ok (.iaload, 1) := by decide +kernel
theorem dL_law_650 : decode cL_law 650 = .ok (.aload_n 0, 1) := by decide +kernel
theorem dL_law_651 : decode cL_law 651 = .ok (.iload_n 3, 1) := by decide +kernel
theorem dL_law_652 : decode cL_law 652 = .ok (.iconst 2, 1) := by decide +kernel
theorem dL_law_653 : decode cL_law 653 = .ok (.iadd, 1) := by decide +kernel
theorem dL_law_654 : decode cL_law 654 = .ok (.iaload, 1) := by decide +kernel
theorem dL_law_655 : decode cL_law 655 = .ok (.aload_n 0, 1) := by decide +kernel
theorem dL_law_656 : decode cL_law 656 = .ok (.iload_n 3, 1) := by decide +kernel
theorem dL_law_657 : decode cL_law 657 = .ok (.iconst 3, 1) := by decide +kernel
theorem dL_law_658 : decode cL_law 658 = .ok (.iadd, 1) := by decide +kernel
theorem dL_law_659 : decode cL_law 659 = .ok (.iaload, 1) := by decide +kernel
theorem dL_law_660 : decode cL_law 660 = .ok (.invokevirtual 89, 3) := by decide +kernel
theorem dL_law_663 : decode cL_law 663 = .ok (.aload_n 2, 1) := by decide +kernel
theorem dL_law_664 : decode cL_law 664 = .ok (.aload_n 0, 1) := by decide +kernel
theorem dL_law_665 : decode cL_law 665 = .ok (.iload_n 3, 1) := by decide +kernel
theorem dL_law_666 : decode cL_law 666 = .ok (.iconst 1, 1) := by decide +kernel
theorem dL_law_667 : decode cL_law 667 = .ok (.iadd, 1) := by decide +kernel
theorem dL_law_668 : decode cL_law 668 = .ok (.iaload, 1) := by decide +kernel
theorem dL_law_669 : decode cL_law 669 = .ok (.aload_n 0, 1) := by decide +kernel
theorem dL_law_670 : decode cL_law 670 = .ok (.iload_n 3, 1) := by decide +kernel
theorem dL_law_671 : decode cL_law 671 = .ok (.iconst 2, 1) := by decide +kernel
theorem dL_law_672 : decode cL_law 672 = .ok (.iadd, 1) := by decide +kernel
theorem dL_law_673 : decode cL_law 673 = .ok (.iaload, 1) := by decide +kernel
theorem dL_law_674 : decode cL_law 674 = .ok (.aload_n 0, 1) := by decide +kernel
theorem dL_law_675 : decode cL_law 675 = .ok (.iload_n 3, 1) := by decide +kernel
theorem dL_law_676 : decode cL_law 676 = .ok (.iconst 3, 1) := by decide +kernel
theorem dL_law_677 : decode cL_law 677 = .ok (.iadd, 1) := by decide +kernel
theorem dL_law_678 : decode cL_law 678 = .ok (.iaload, 1) := by decide +kernel
theorem dL_law_679 : decode cL_law 679 = .ok (.invokevirtual 92, 3) := by decide +kernel
theorem dL_law_682 : decode cL_law 682 = .ok (.if_icmp .eq 68, 3) := by decide +kernel
theorem dL_law_685 : decode cL_law 685 = .ok (.iconst 0, 1) := by decide +kernel
theorem dL_law_686 : decode cL_law 686 = .ok (.ireturn, 1) := by decide +kernel
theorem dL_law_687 : decode cL_law 687 = .ok (.aload_n 1, 1) := by decide +kernel
theorem dL_law_688 : decode cL_law 688 = .ok (.invokevirtual 93, 3) := by decide +kernel
theorem dL_law_691 : decode cL_law 691 = .ok (.aload_n 2, 1) := by decide +kernel
theorem dL_law_692 : decode cL_law 692 = .ok (.invokevirtual 96, 3) := by decide +kernel
theorem dL_law_695 : decode cL_law 695 = .ok (.if_icmp .eq 55, 3) := by decide +kernel
theorem dL_law_698 : decode cL_law 698 = .ok (.iconst 0, 1) := by decide +kernel
theorem dL_law_699 : decode cL_law 699 = .ok (.ireturn, 1) := by decide +kernel
theorem dL_law_700 : decode cL_law 700 = .ok (.aload_n 1, 1) := by decide +kernel
theorem dL_law_701 : decode cL_law 701 = .ok (.invokevirtual 97, 3) := by decide +kernel
theorem dL_law_704 : decode cL_law 704 = .ok (.aload_n 2, 1) := by decide +kernel
theorem dL_law_705 : decode cL_law 705 = .ok (.invokevirtual 100, 3) := by decide +kernel
theorem dL_law_708 : decode cL_law 708 = .ok (.if_icmp .eq 42, 3) := by decide +kernel
theorem dL_law_711 : decode cL_law 711 = .ok (.iconst 0, 1) := by decide +kernel
theorem dL_law_712 : decode cL_law 712 = .ok (.ireturn, 1) := by decide +kernel
theorem dL_law_713 : decode cL_law 713 = .ok (.aload_n 1, 1) := by decide +kernel
theorem dL_law_714 : decode cL_law 714 = .ok (.aload_n 0, 1) := by decide +kernel
theorem dL_law_715 : decode cL_law 715 = .ok (.iload_n 3, 1) := by decide +kernel
theorem dL_law_716 : decode cL_law 716 = .ok (.iconst 1, 1) := by decide +kernel
theorem dL_law_717 : decode cL_law 717 = .ok (.iadd, 1) := by decide +kernel
theorem dL_law_718 : decode cL_law 718 = .ok (.iaload, 1) := by decide +kernel
theorem dL_law_719 : decode cL_law 719 = .ok (.invokevirtual 101, 3) := by decide +kernel
theorem dL_law_722 : decode cL_law 722 = .ok (.aload_n 2, 1) := by decide +kernel
theorem dL_law_723 : decode cL_law 723 = .ok (.aload_n 0, 1) := by decide +kernel
theorem dL_law_724 : decode cL_law 724 = .ok (.iload_n 3, 1) := by decide +kernel
theorem dL_law_725 : decode cL_law 725 = .ok (.iconst 1, 1) := by decide +kernel
theorem dL_law_726 : decode cL_law 726 = .ok (.iadd, 1) := by decide +kernel
theorem dL_law_727 : decode cL_law 727 = .ok (.iaload, 1) := by decide +kernel
theorem dL_law_728 : decode cL_law 728 = .ok (.invokevirtual 104, 3) := by decide +kernel
theorem dL_law_731 : decode cL_law 731 = .ok (.if_icmp .eq 19, 3) := by decide +kernel
theorem dL_law_734 : decode cL_law 734 = .ok (.iconst 0, 1) := by decide +kernel
theorem dL_law_735 : decode cL_law 735 = .ok (.ireturn, 1) := by decide +kernel
theorem dL_law_736 : decode cL_law 736 = .ok (.aload_n 1, 1) := by decide +kernel
theorem dL_law_737 : decode cL_law 737 = .ok (.invokevirtual 105, 3) := by decide +kernel
theorem dL_law_740 : decode cL_law 740 = .ok (.aload_n 2, 1) := by decide +kernel
theorem dL_law_741 : decode cL_law 741 = .ok (.invokevirtual 109, 3) := by decide +kernel
theorem dL_law_744 : decode cL_law 744 = .ok (.lcmp, 1) := by decide +kernel
theorem dL_law_745 : decode cL_law 745 = .ok (.ifCond .eq 5, 3) := by decide +kernel
theorem dL_law_748 : decode cL_law 748 = .ok (.iconst 0, 1) := by decide +kernel
theorem dL_law_749 : decode cL_law 749 = .ok (.ireturn, 1) := by decide +kernel
theorem dL_law_750 : decode cL_law 750 = .ok (.iinc 3 4, 3) := by decide +kernel
theorem dL_law_753 : decode cL_law 753 = .ok (.goto (-735), 3) := by decide +kernel
theorem dL_law_756 : decode cL_law 756 = .ok (.iconst 1, 1) := by decide +kernel
theorem dL_law_757 : decode cL_law 757 = .ok (.ireturn, 1) := by decide +kernel
end
section
/-- the tables' words that a callee may be handed on -/
def lw_g : List Cond := lw_tbl.filter goodWord
theorem gm {w : Cond} (h : w ∈ lw_tbl) (hg : goodWord w = true) : w ∈ lw_g := List.mem_filter.mpr ⟨h, hg⟩
theorem gmi {w : Cond} (i : Nat) (h : lw_tbl[i]? = some w) (hg : goodWord w = true) : w ∈ lw_g := gm (List.mem_of_getElem? h) hg
theorem gd {ws : List Cond} (h : ∀ w ∈ ws, w ∈ lw_g) : GoodIn lw_g ws := fun w hw => ⟨h w hw, good_of_word (List.mem_filter.mp (h w hw)).2⟩
/-! the whole heap of the law's objects in places: the k-th cell lies at b + k -/
def hw (b : Nat) (es : List va_E) : va_W := es.mapIdx (fun i e => (b + i, e))
theorem hw_get {b k : Nat} {es : List va_E} {e : va_E} (h : es[k]? = some e) : (hw b es)[k]? = some (b + k, e) := by
  simp [hw, List.getElem?_mapIdx, h]
theorem hw_inv {b k : Nat} {es : List va_E} {q : Nat × va_E} (h : (hw b es)[k]? = some q) : ∃ e, es[k]? = some e ∧ q = (b + k, e) := by
  rw [hw, List.getElem?_mapIdx] at h
  cases he : es[k]? with
  | none => rw [he] at h; cases h
  | some e => rw [he] at h; exact ⟨e, rfl, (Option.some.inj h).symm⟩
theorem hw_ext {b : Nat} {ws : va_W} {es : List va_E} (h : ∀ k : Nat, ws[k]? = es[k]?.map (fun e => (b + k, e))) : ws = hw b es := by
  apply List.ext_getElem?
  intro k
  rw [h k, hw, List.getElem?_mapIdx]
theorem hw_set {b k : Nat} {es : List va_E} {e : va_E} : (hw b es).set k (b + k, e) = hw b (es.set k e) := by
  apply hw_ext
  intro j
  rw [List.getElem?_set, List.getElem?_set, hw, List.getElem?_mapIdx, List.length_mapIdx]
  by_cases hkj : k = j
  · subst hkj
    simp only [if_true]
    by_cases hl : k < es.length
    · rw [if_pos hl, if_pos hl]; rfl
    · rw [if_neg hl, if_neg hl]; rfl
  · rw [if_neg hkj, if_neg hkj]
theorem hw_push {b : Nat} {es : List va_E} {e : va_E} : hw b es ++ [(b + es.length, e)] = hw b (es ++ [e]) := by
  apply hw_ext
  intro j
  have hlen : (hw b es).length = es.length := by rw [hw, List.length_mapIdx]
  by_cases hl : j < es.length
  · rw [List.getElem?_append_left (by rw [hlen]; exact hl), List.getElem?_append_left hl, hw, List.getElem?_mapIdx]
  · rw [List.getElem?_append_right (by rw [hlen]; omega), List.getElem?_append_right (by omega), hlen]
    by_cases h0 : j - es.length = 0
    · have : j = es.length := by omega
      subst this
      simp
    · rw [List.getElem?_eq_none (by simp; omega), List.getElem?_eq_none (by simp; omega)]; rfl
theorem hw_D (b : Nat) (es : List va_E) : va_D (fun q => b ≤ q) (hw b es) := by
  refine ⟨fun i j p q hi hj hpq => ?_, fun k q hk => ?_⟩
  · obtain ⟨e1, -, rfl⟩ := hw_inv hi
    obtain ⟨e2, -, rfl⟩ := hw_inv hj
    have h : b + i = b + j := hpq
    omega
  · obtain ⟨e, -, rfl⟩ := hw_inv hk
    exact Nat.le_add_right _ _
/-! locals by their numbers -/
def lget : List (Nat × Value) → Nat → Option Value
  | [], _ => none
  | (j, v) :: r, i => if j == i then some v else lget r i
def lset (i : Nat) (v : Value) (lv : List (Nat × Value)) : List (Nat × Value) := (i, v) :: lv.filter (fun q => !(q.1 == i) && !(q.1 + 1 == i && q.2.category == 2))
def lsetL (i : Nat) (v : Value) (lv : List (Nat × Value)) : List (Nat × Value) := (i, v) :: lv.filter (fun q => !(q.1 == i) && (!(q.1 == i + 1) && !(q.1 + 1 == i && q.2.category == 2)))
theorem lget_mem : ∀ {lv : List (Nat × Value)} {i : Nat} {v : Value}, lget lv i = some v → (i, v) ∈ lv
  | [], i, v, h => by cases h
  | (j, u) :: r, i, v, h => by
    unfold lget at h
    by_cases hj : (j == i) = true
    · rw [if_pos hj] at h
      have := beq_iff_eq.mp hj
      subst this
      cases h
      exact List.mem_cons_self
    · rw [if_neg hj] at h
      exact List.mem_cons_of_mem _ (lget_mem h)
theorem lget_has {ls : Array Slot} {nL : Nat} {lv : List (Nat × Value)} {i : Nat} {v : Value} (hl : lv_has ls nL lv) (h : lget lv i = some v) : ls[i]? = some (.val v) := hl.2.2 (i, v) (lget_mem h)
theorem lget_at : ∀ {lv : List (Nat × Value)} {i : Nat} {v : Value}, lget lv i = some v → ∃ k : Nat, lv[k]? = some (i, v) := fun h => List.getElem?_of_mem (lget_mem h)
/-- fewer locals -/
def lsub (lv' lv : List (Nat × Value)) : Prop := ∀ q ∈ lv', q ∈ lv
theorem lsub_has {ls : Array Slot} {nL : Nat} {lv lv' : List (Nat × Value)} (hl : lv_has ls nL lv) (h : ∀ q ∈ lv', q ∈ lv) : lv_has ls nL lv' := ⟨hl.1, hl.2.1, fun q hq => hl.2.2 q (h q hq)⟩
/-! what stays the same below b all the time: the one static row, the one text -/
def vSlen : List Nat := [16]
def vSbyt : List (List Int32) := [[48, 48, 48, 48, 44, 48, 48, 48, 48, 44, 48, 48, 48, 48, 59, 49]]
def ordF (j : Nat) : Int32 := ([0, 1, 2, 0, 2, 1, 1, 0, 2, 1, 2, 0, 2, 0, 1, 2, 1, 0] : List Int32).getD j 0
def ncK : List (String × String) := [("WheatSea$Hull", "WheatSea$Cutter"), ("WheatSea$Hull", "WheatSea$Galley"), ("WheatSea$Hull", "WheatSea$Sled"), ("WheatSea$Hull", "WheatSea$Sloop"), ("WheatSea$Sloop", "WheatSea$Cutter"), ("WheatSea$Sloop", "WheatSea$Galley"), ("WheatSea$Sloop", "WheatSea$Sled"), ("WheatSea$Galley", "WheatSea$Cutter"), ("WheatSea$Galley", "WheatSea$Sled"), ("WheatSea$Galley", "WheatSea$Sloop"), ("WheatSea$Sled", "WheatSea$Cutter"), ("WheatSea$Sled", "WheatSea$Galley"), ("WheatSea$Sled", "WheatSea$Sloop"), ("WheatSea$Cutter", "WheatSea$Galley"), ("WheatSea$Cutter", "WheatSea$Sled")]
def nestK : List (String × Nat × MethodName) := [("WheatSea", 21, ⟨"WheatSea$Seen", "<init>", "()V"⟩), ("WheatSea", 28, ⟨"WheatSea$Image", "<init>", "()V"⟩), ("WheatSea$Image", 11, ⟨"WheatSea$Seen", "<init>", "()V"⟩), ("WheatSea", 35, ⟨"WheatSea$Chart", "<init>", "()V"⟩), ("WheatSea", 42, ⟨"WheatSea$Homecoming", "<init>", "()V"⟩), ("WheatSea", 49, ⟨"WheatSea$June", "<init>", "()V"⟩), ("WheatSea$Sea", 32, ⟨"WheatSea", "beside", "(II)I"⟩), ("WheatSea$Chart", 18, ⟨"WheatSea", "isCell", "(I)Z"⟩), ("WheatSea$Chart", 36, ⟨"WheatSea", "beside", "(II)I"⟩), ("WheatSea$Seen", 62, ⟨"WheatSea", "isCell", "(I)Z"⟩), ("WheatSea$Seen", 59, ⟨"WheatSea", "beside", "(II)I"⟩), ("WheatSea$June", 51, ⟨"WheatSea", "beside", "(II)I"⟩)]
def vT (b : Nat) (U : State) : Prop :=
  (∀ q ∈ ncK, va_Nc q.1 q.2 U) ∧ va_AO "WheatSea$Hull" U ∧ (∀ q ∈ nestK, va_Nw (.methodLinkNest q.1 q.2.1 q.2.2 "WheatSea") U) ∧
  (∃ t, va_Z "WheatSea$Homecoming" "ORDERS" "[I" (.ref t) (fun q => b ≤ q) U U.heap ∧ va_T .int t 18 (fun j => .int (ordF j)) (fun q => b ≤ q) U U.heap) ∧
  (∃ adK adV, vk_S 1 vSlen vSbyt adK adV (fun q => b ≤ q) U U.heap ∧ vk_R "WheatSea" 74 "0000,0000,0000;1" (adK 0) U) ∧
  va_Z "java/lang/String" "COMPACT_STRINGS" "Z" (.int 1) (fun q => b ≤ q) U U.heap ∧
  va_Zq "jdk/internal/util/Preconditions" "SIOOBE_FORMATTER" "Ljava/util/function/BiFunction;" (fun q => b ≤ q) U U.heap
theorem vT_to {b : Nat} {s U : State} (hW : s.WarmedH U.vm) (hq : ∀ a : Nat, a < s.heap.size → ¬ b ≤ a → U.heap[a]? = s.heap[a]?) (h : vT b s) : vT b U := by
  obtain ⟨h0, hao, hnw, ⟨t, h1, h2⟩, ⟨adK, adV, h3, h4⟩, h5, h6⟩ := h
  exact ⟨fun q hq => (h0 q hq).moved hW.alike, hao.moved hW.alike, fun q hq => va_Nw.warmM hW (hnw q hq), ⟨t, (va_Z.moved hW.alike h1).kept hq, (va_T.moved hW.alike h2).kept hq⟩, ⟨adK, adV, vk_S.kept (vk_S.moved hW.alike h3) hq, vk_R.warm hW h4⟩, (va_Z.moved hW.alike h5).kept hq, (va_Zq.moved hW.alike h6).kept hq⟩
theorem vT_same {b : Nat} {u U : State} (hv : U.vm = u.vm) (hh : U.heap = u.heap) (h : vT b u) : vT b U := by
  obtain ⟨h0, hao, hnw, ⟨t, h1, h2⟩, ⟨adK, adV, h3, h4⟩, h5, h6⟩ := h
  have ha : u.vm.Alike U.vm := by rw [hv]; exact Vm.Alike.refl _
  rw [vT, hh]
  exact ⟨fun q hq => (h0 q hq).moved ha, hao.moved ha, fun q hq => va_Nw.same rfl hv.symm (hnw q hq), ⟨t, va_Z.moved ha h1, va_T.moved ha h2⟩, ⟨adK, adV, vk_S.moved ha h3, vk_R.same hv h4⟩, va_Z.moved ha h5, va_Zq.moved ha h6⟩
abbrev tyD (D : va_G) : List (ClassId × FieldType) := [(D.1 13, .int), (D.1 14, .object "WheatSea$Hull")]
/-- a method's start: the whole heap is es -/
def vU (D : va_G) (b : Nat) (es : List va_E) (U : State) : Prop := U.heap.size = b + es.length ∧ va_P D vwCl (hw b es) U.heap ∧ va_K D vwCl (tyD D) U ∧ vT b U
/-- a method's end -/
def cQ (D : va_G) (b mc : Nat) (Post : Option Value → List va_E → Prop) : Array Value → State → Outcome → State → Prop := fun _ st oc t =>
  (∃ (r : Option Value) (es' : List va_E), oc = .returned r ∧ Post r es' ∧ t.heap.size = b + es'.length ∧ va_P D vwCl (hw b es') t.heap) ∧ t.heap.size = st.heap.size + mc ∧ va_F (fun q => b ≤ q) st t
/-- a method's contract: called with these arguments on the heap es it returns r on the heap es', as Post says -/
def Con (l : Launch) (y : MethodName) (cc : ByteArray) (maxL : Nat) (ret : Option FieldType) (fr lo : Nat) (D : va_G) (b mc ms : Nat) (es : List va_E) (av : List Value) (Post : Option Value → List va_E → Prop) : Prop :=
  Met l y (Cond.code y cc maxL ret :: lw_g) { frames := fr, cells := mc, slots := ms, locals := lo } (va_Pc av (vU D b es)) (cQ D b mc Post) mc ms (fun q => b ≤ q)
/-- what a body knows -/
abbrev vC (p : Program) (s : State) (m : MethodId) (args : Array Value) (meth : Method) (c : Code) (cc : ByteArray) (nL : Nat) (own nm : String) (ret : Option FieldType) (D : va_G) (b : Nat) : Prop :=
  p.tables.exec = Jvm.exec ∧ c.code = cc ∧ c.maxLocals = nL ∧ s.vm.findClass own = some m.cls ∧ (∀ w ∈ lw_g, w.before args s = true) ∧ va_K D vwCl (tyD D) s ∧ meth.locks = false ∧ meth.sig.returnType = ret ∧ meth.name = nm ∧ b ≤ s.heap.size ∧ vT b s
/-- the judgement: from here, with the heap es, the locals lv, the stack st, the machine comes to Q -/
def V (p : Program) (l : Launch) (e : Env) (R : Room) (s : State) (m : MethodId) (args : Array Value) (below : List Frame) (meth : Method) (c : Code) (D : va_G) (b nL : Nat) (Q : State → Prop) (cells slots : Nat) (es : List va_E) (lv : List (Nat × Value)) (st : List Value) (pc : Nat) : Prop :=
  ∀ (H : Heap) (locs : List Loc) (ls : Array Slot), s.heap.size + cells = b + es.length → va_P D vwCl (hw b es) H → va_S (fun q => b ≤ q) s.heap H locs → lv_has ls nL lv → W p l e R s m args below meth c H locs cells slots Q (F0 m pc ls st)
section VV
variable {p : Program} {l : Launch} {e : Env} {R : Room} {s : State} {m : MethodId} {args : Array Value} {below : List Frame} {meth : Method} {c : Code} {D : va_G} {b nL : Nat} {Q : State → Prop} {cells slots : Nat} {es : List va_E} {lv : List (Nat × Value)} {rest : List Value} {pc n : Nat} {cc : ByteArray} {own nm : String} {ret : Option FieldType}
theorem v_sub {lv' : List (Nat × Value)} {st : List Value} (h : ∀ q ∈ lv', q ∈ lv) (K : V p l e R s m args below meth c D b nL Q cells slots es lv' st pc) : V p l e R s m args below meth c D b nL Q cells slots es lv st pc :=
  fun H locs ls hz hP hS hl => K H locs ls hz hP hS (lsub_has hl h)

theorem v_iload (C : vC p s m args meth c cc nL own nm ret D b) {i : Nat} {x : Int32} (hdg : decode cc pc = .ok (.iload i, 2)) (hn : pc + 2 = n) (h : lget lv i = some (.int x)) (K : V p l e R s m args below meth c D b nL Q cells slots es lv (.int x :: rest) n) : V p l e R s m args below meth c D b nL Q cells slots es lv (rest) pc := by
  subst hn
  intro H locs ls hz hP hS hl
  exact lv_iload C.1 C.2.1 hdg (lget_has hl h) (K H locs ls hz hP hS hl)
theorem v_iload_n (C : vC p s m args meth c cc nL own nm ret D b) {k : Fin 4} {i : Nat} {x : Int32} (hdg : decode cc pc = .ok (.iload_n k, 1)) (hn : pc + 1 = n) (hi : (k : Nat) = i) (h : lget lv i = some (.int x)) (K : V p l e R s m args below meth c D b nL Q cells slots es lv (.int x :: rest) n) : V p l e R s m args below meth c D b nL Q cells slots es lv (rest) pc := by
  subst hn
  intro H locs ls hz hP hS hl
  exact lv_iload_n C.1 C.2.1 hdg hi (lget_has hl h) (K H locs ls hz hP hS hl)
theorem v_lload (C : vC p s m args meth c cc nL own nm ret D b) {i : Nat} {x : Int64} (hdg : decode cc pc = .ok (.lload i, 2)) (hn : pc + 2 = n) (h : lget lv i = some (.long x)) (K : V p l e R s m args below meth c D b nL Q cells slots es lv (.long x :: rest) n) : V p l e R s m args below meth c D b nL Q cells slots es lv (rest) pc := by
  subst hn
  intro H locs ls hz hP hS hl
  exact lv_lload C.1 C.2.1 hdg (lget_has hl h) (K H locs ls hz hP hS hl)
theorem v_lload_n (C : vC p s m args meth c cc nL own nm ret D b) {k : Fin 4} {i : Nat} {x : Int64} (hdg : decode cc pc = .ok (.lload_n k, 1)) (hn : pc + 1 = n) (hi : (k : Nat) = i) (h : lget lv i = some (.long x)) (K : V p l e R s m args below meth c D b nL Q cells slots es lv (.long x :: rest) n) : V p l e R s m args below meth c D b nL Q cells slots es lv (rest) pc := by
  subst hn
  intro H locs ls hz hP hS hl
  exact lv_lload_n C.1 C.2.1 hdg hi (lget_has hl h) (K H locs ls hz hP hS hl)
theorem v_aload (C : vC p s m args meth c cc nL own nm ret D b) {i x : Nat} (hdg : decode cc pc = .ok (.aload i, 2)) (hn : pc + 2 = n) (h : lget lv i = some (.ref x)) (K : V p l e R s m args below meth c D b nL Q cells slots es lv (.ref x :: rest) n) : V p l e R s m args below meth c D b nL Q cells slots es lv (rest) pc := by
  subst hn
  intro H locs ls hz hP hS hl
  exact lv_aload C.1 C.2.1 hdg (lget_has hl h) (K H locs ls hz hP hS hl)
theorem v_aload_n (C : vC p s m args meth c cc nL own nm ret D b) {k : Fin 4} {i x : Nat} (hdg : decode cc pc = .ok (.aload_n k, 1)) (hn : pc + 1 = n) (hi : (k : Nat) = i) (h : lget lv i = some (.ref x)) (K : V p l e R s m args below meth c D b nL Q cells slots es lv (.ref x :: rest) n) : V p l e R s m args below meth c D b nL Q cells slots es lv (rest) pc := by
  subst hn
  intro H locs ls hz hP hS hl
  exact lv_aload_n C.1 C.2.1 hdg hi (lget_has hl h) (K H locs ls hz hP hS hl)
theorem v_aloadN (C : vC p s m args meth c cc nL own nm ret D b) {i : Nat} (hdg : decode cc pc = .ok (.aload i, 2)) (hn : pc + 2 = n) (h : lget lv i = some .null) (K : V p l e R s m args below meth c D b nL Q cells slots es lv (.null :: rest) n) : V p l e R s m args below meth c D b nL Q cells slots es lv (rest) pc := by
  subst hn
  intro H locs ls hz hP hS hl
  exact lv_aloadN C.1 C.2.1 hdg (lget_has hl h) (K H locs ls hz hP hS hl)
theorem v_aload_nN (C : vC p s m args meth c cc nL own nm ret D b) {k : Fin 4} {i : Nat} (hdg : decode cc pc = .ok (.aload_n k, 1)) (hn : pc + 1 = n) (hi : (k : Nat) = i) (h : lget lv i = some .null) (K : V p l e R s m args below meth c D b nL Q cells slots es lv (.null :: rest) n) : V p l e R s m args below meth c D b nL Q cells slots es lv (rest) pc := by
  subst hn
  intro H locs ls hz hP hS hl
  exact lv_aload_nN C.1 C.2.1 hdg hi (lget_has hl h) (K H locs ls hz hP hS hl)
theorem v_iconst (C : vC p s m args meth c cc nL own nm ret D b) {k : Int} {v : Int32} (hdg : decode cc pc = .ok (.iconst k, 1)) (hn : pc + 1 = n) (hv : Int32.ofInt k = v) (K : V p l e R s m args below meth c D b nL Q cells slots es lv (.int v :: rest) n) : V p l e R s m args below meth c D b nL Q cells slots es lv (rest) pc := by
  subst hn
  intro H locs ls hz hP hS hl
  exact lv_iconst C.1 C.2.1 hdg hv (K H locs ls hz hP hS hl)
theorem v_bipush (C : vC p s m args meth c cc nL own nm ret D b) {k : Int} {v : Int32} (hdg : decode cc pc = .ok (.bipush k, 2)) (hn : pc + 2 = n) (hv : (Int8.ofInt k).toInt32 = v) (K : V p l e R s m args below meth c D b nL Q cells slots es lv (.int v :: rest) n) : V p l e R s m args below meth c D b nL Q cells slots es lv (rest) pc := by
  subst hn
  intro H locs ls hz hP hS hl
  exact lv_bipush C.1 C.2.1 hdg hv (K H locs ls hz hP hS hl)
theorem v_sipush (C : vC p s m args meth c cc nL own nm ret D b) {k : Int} {v : Int32} (hdg : decode cc pc = .ok (.sipush k, 3)) (hn : pc + 3 = n) (hv : (Int16.ofInt k).toInt32 = v) (K : V p l e R s m args below meth c D b nL Q cells slots es lv (.int v :: rest) n) : V p l e R s m args below meth c D b nL Q cells slots es lv (rest) pc := by
  subst hn
  intro H locs ls hz hP hS hl
  exact lv_sipush C.1 C.2.1 hdg hv (K H locs ls hz hP hS hl)
theorem v_lconst (C : vC p s m args meth c cc nL own nm ret D b) {k : Fin 2} {v : Int64} (hdg : decode cc pc = .ok (.lconst k, 1)) (hn : pc + 1 = n) (hv : Int64.ofNat (k : Nat) = v) (K : V p l e R s m args below meth c D b nL Q cells slots es lv (.long v :: rest) n) : V p l e R s m args below meth c D b nL Q cells slots es lv (rest) pc := by
  subst hn
  intro H locs ls hz hP hS hl
  exact lv_lconst C.1 C.2.1 hdg hv (K H locs ls hz hP hS hl)
theorem v_null (C : vC p s m args meth c cc nL own nm ret D b) (hdg : decode cc pc = .ok (.aconst_null, 1)) (hn : pc + 1 = n) (K : V p l e R s m args below meth c D b nL Q cells slots es lv (.null :: rest) n) : V p l e R s m args below meth c D b nL Q cells slots es lv (rest) pc := by
  subst hn
  intro H locs ls hz hP hS hl
  exact lv_null C.1 C.2.1 hdg  (K H locs ls hz hP hS hl)
theorem v_iadd (C : vC p s m args meth c cc nL own nm ret D b) {x y : Int32} (hdg : decode cc pc = .ok (.iadd, 1)) (hn : pc + 1 = n) (K : V p l e R s m args below meth c D b nL Q cells slots es lv (.int (x + y) :: rest) n) : V p l e R s m args below meth c D b nL Q cells slots es lv (.int y :: .int x :: rest) pc := by
  subst hn
  intro H locs ls hz hP hS hl
  exact lv_iadd C.1 C.2.1 hdg  (K H locs ls hz hP hS hl)
theorem v_isub (C : vC p s m args meth c cc nL own nm ret D b) {x y : Int32} (hdg : decode cc pc = .ok (.isub, 1)) (hn : pc + 1 = n) (K : V p l e R s m args below meth c D b nL Q cells slots es lv (.int (x - y) :: rest) n) : V p l e R s m args below meth c D b nL Q cells slots es lv (.int y :: .int x :: rest) pc := by
  subst hn
  intro H locs ls hz hP hS hl
  exact lv_isub C.1 C.2.1 hdg  (K H locs ls hz hP hS hl)
theorem v_imul (C : vC p s m args meth c cc nL own nm ret D b) {x y : Int32} (hdg : decode cc pc = .ok (.imul, 1)) (hn : pc + 1 = n) (K : V p l e R s m args below meth c D b nL Q cells slots es lv (.int (x * y) :: rest) n) : V p l e R s m args below meth c D b nL Q cells slots es lv (.int y :: .int x :: rest) pc := by
  subst hn
  intro H locs ls hz hP hS hl
  exact lv_imul C.1 C.2.1 hdg  (K H locs ls hz hP hS hl)
theorem v_iand (C : vC p s m args meth c cc nL own nm ret D b) {x y : Int32} (hdg : decode cc pc = .ok (.iand, 1)) (hn : pc + 1 = n) (K : V p l e R s m args below meth c D b nL Q cells slots es lv (.int (x &&& y) :: rest) n) : V p l e R s m args below meth c D b nL Q cells slots es lv (.int y :: .int x :: rest) pc := by
  subst hn
  intro H locs ls hz hP hS hl
  exact lv_iand C.1 C.2.1 hdg  (K H locs ls hz hP hS hl)
theorem v_ior (C : vC p s m args meth c cc nL own nm ret D b) {x y : Int32} (hdg : decode cc pc = .ok (.ior, 1)) (hn : pc + 1 = n) (K : V p l e R s m args below meth c D b nL Q cells slots es lv (.int (x ||| y) :: rest) n) : V p l e R s m args below meth c D b nL Q cells slots es lv (.int y :: .int x :: rest) pc := by
  subst hn
  intro H locs ls hz hP hS hl
  exact lv_ior C.1 C.2.1 hdg  (K H locs ls hz hP hS hl)
theorem v_idiv (C : vC p s m args meth c cc nL own nm ret D b) {x y : Int32} (hdg : decode cc pc = .ok (.idiv, 1)) (hn : pc + 1 = n) (hne : ¬ y = 0) (K : V p l e R s m args below meth c D b nL Q cells slots es lv (.int (x / y) :: rest) n) : V p l e R s m args below meth c D b nL Q cells slots es lv (.int y :: .int x :: rest) pc := by
  subst hn
  intro H locs ls hz hP hS hl
  exact lv_idiv C.1 C.2.1 hdg hne (K H locs ls hz hP hS hl)
theorem v_irem (C : vC p s m args meth c cc nL own nm ret D b) {x y : Int32} (hdg : decode cc pc = .ok (.irem, 1)) (hn : pc + 1 = n) (hne : ¬ y = 0) (K : V p l e R s m args below meth c D b nL Q cells slots es lv (.int (x - x / y * y) :: rest) n) : V p l e R s m args below meth c D b nL Q cells slots es lv (.int y :: .int x :: rest) pc := by
  subst hn
  intro H locs ls hz hP hS hl
  exact lv_irem C.1 C.2.1 hdg hne (K H locs ls hz hP hS hl)
theorem v_ladd (C : vC p s m args meth c cc nL own nm ret D b) {x y : Int64} (hdg : decode cc pc = .ok (.ladd, 1)) (hn : pc + 1 = n) (K : V p l e R s m args below meth c D b nL Q cells slots es lv (.long (x + y) :: rest) n) : V p l e R s m args below meth c D b nL Q cells slots es lv (.long y :: .long x :: rest) pc := by
  subst hn
  intro H locs ls hz hP hS hl
  exact lv_ladd C.1 C.2.1 hdg  (K H locs ls hz hP hS hl)
theorem v_lmul (C : vC p s m args meth c cc nL own nm ret D b) {x y : Int64} (hdg : decode cc pc = .ok (.lmul, 1)) (hn : pc + 1 = n) (K : V p l e R s m args below meth c D b nL Q cells slots es lv (.long (x * y) :: rest) n) : V p l e R s m args below meth c D b nL Q cells slots es lv (.long y :: .long x :: rest) pc := by
  subst hn
  intro H locs ls hz hP hS hl
  exact lv_lmul C.1 C.2.1 hdg  (K H locs ls hz hP hS hl)
theorem v_land (C : vC p s m args meth c cc nL own nm ret D b) {x y : Int64} (hdg : decode cc pc = .ok (.land, 1)) (hn : pc + 1 = n) (K : V p l e R s m args below meth c D b nL Q cells slots es lv (.long (x &&& y) :: rest) n) : V p l e R s m args below meth c D b nL Q cells slots es lv (.long y :: .long x :: rest) pc := by
  subst hn
  intro H locs ls hz hP hS hl
  exact lv_land C.1 C.2.1 hdg  (K H locs ls hz hP hS hl)
theorem v_ishl (C : vC p s m args meth c cc nL own nm ret D b) {x y : Int32} (hdg : decode cc pc = .ok (.ishl, 1)) (hn : pc + 1 = n) (K : V p l e R s m args below meth c D b nL Q cells slots es lv (.int (x <<< (y &&& 31)) :: rest) n) : V p l e R s m args below meth c D b nL Q cells slots es lv (.int y :: .int x :: rest) pc := by
  subst hn
  intro H locs ls hz hP hS hl
  exact lv_ishl C.1 C.2.1 hdg  (K H locs ls hz hP hS hl)
theorem v_ishr (C : vC p s m args meth c cc nL own nm ret D b) {x y : Int32} (hdg : decode cc pc = .ok (.ishr, 1)) (hn : pc + 1 = n) (K : V p l e R s m args below meth c D b nL Q cells slots es lv (.int (x >>> (y &&& 31)) :: rest) n) : V p l e R s m args below meth c D b nL Q cells slots es lv (.int y :: .int x :: rest) pc := by
  subst hn
  intro H locs ls hz hP hS hl
  exact lv_ishr C.1 C.2.1 hdg  (K H locs ls hz hP hS hl)
theorem v_lcmp (C : vC p s m args meth c cc nL own nm ret D b) {x y : Int64} (hdg : decode cc pc = .ok (.lcmp, 1)) (hn : pc + 1 = n) (K : V p l e R s m args below meth c D b nL Q cells slots es lv (.int (lg_cmp x y) :: rest) n) : V p l e R s m args below meth c D b nL Q cells slots es lv (.long y :: .long x :: rest) pc := by
  subst hn
  intro H locs ls hz hP hS hl
  exact W.lcmp C.1 C.2.1 hdg  (K H locs ls hz hP hS hl)
theorem v_i2l (C : vC p s m args meth c cc nL own nm ret D b) {x : Int32} (hdg : decode cc pc = .ok (.i2l, 1)) (hn : pc + 1 = n) (K : V p l e R s m args below meth c D b nL Q cells slots es lv (.long x.toInt64 :: rest) n) : V p l e R s m args below meth c D b nL Q cells slots es lv (.int x :: rest) pc := by
  subst hn
  intro H locs ls hz hP hS hl
  exact lv_i2l C.1 C.2.1 hdg rfl (K H locs ls hz hP hS hl)
theorem v_l2i (C : vC p s m args meth c cc nL own nm ret D b) {x : Int64} (hdg : decode cc pc = .ok (.l2i, 1)) (hn : pc + 1 = n) (K : V p l e R s m args below meth c D b nL Q cells slots es lv (.int x.toInt32 :: rest) n) : V p l e R s m args below meth c D b nL Q cells slots es lv (.long x :: rest) pc := by
  subst hn
  intro H locs ls hz hP hS hl
  exact lv_l2i C.1 C.2.1 hdg rfl (K H locs ls hz hP hS hl)
theorem v_dup (C : vC p s m args meth c cc nL own nm ret D b) {va : Value} (hdg : decode cc pc = .ok (.dup, 1)) (hn : pc + 1 = n) (hva : va.category = 1) (K : V p l e R s m args below meth c D b nL Q cells slots es lv (va :: va :: rest) n) : V p l e R s m args below meth c D b nL Q cells slots es lv (va :: rest) pc := by
  subst hn
  intro H locs ls hz hP hS hl
  exact lv_dup C.1 C.2.1 hdg hva (K H locs ls hz hP hS hl)
theorem v_dup2 (C : vC p s m args meth c cc nL own nm ret D b) {va vb : Value} (hdg : decode cc pc = .ok (.dup2, 1)) (hn : pc + 1 = n) (hva : va.category = 1) (hvb : vb.category = 1) (K : V p l e R s m args below meth c D b nL Q cells slots es lv (va :: vb :: va :: vb :: rest) n) : V p l e R s m args below meth c D b nL Q cells slots es lv (va :: vb :: rest) pc := by
  subst hn
  intro H locs ls hz hP hS hl
  exact lv_dup2_11 C.1 C.2.1 hdg hva hvb (K H locs ls hz hP hS hl)
theorem v_pop (C : vC p s m args meth c cc nL own nm ret D b) {va : Value} (hdg : decode cc pc = .ok (.pop, 1)) (hn : pc + 1 = n) (hva : va.category = 1) (K : V p l e R s m args below meth c D b nL Q cells slots es lv (rest) n) : V p l e R s m args below meth c D b nL Q cells slots es lv (va :: rest) pc := by
  subst hn
  intro H locs ls hz hP hS hl
  exact lv_pop C.1 C.2.1 hdg hva (K H locs ls hz hP hS hl)
theorem v_istore (C : vC p s m args meth c cc nL own nm ret D b) {i : Nat} {x : Int32} {lv' : List (Nat × Value)} (hdg : decode cc pc = .ok (.istore i, 2)) (hn : pc + 2 = n) (hb : i < nL) (hs : lset i (.int x) lv = lv') (K : V p l e R s m args below meth c D b nL Q cells slots es lv' (rest) n) : V p l e R s m args below meth c D b nL Q cells slots es lv (.int x :: rest) pc := by
  subst hn
  intro H locs ls hz hP hS hl
  exact lv_istore C.1 C.2.1 hdg  hl hb hs (fun ls' hl' => K H locs ls' hz hP hS hl')
theorem v_istore_n (C : vC p s m args meth c cc nL own nm ret D b) {k : Fin 4} {i : Nat} {x : Int32} {lv' : List (Nat × Value)} (hdg : decode cc pc = .ok (.istore_n k, 1)) (hn : pc + 1 = n) (hi : (k : Nat) = i) (hb : i < nL) (hs : lset i (.int x) lv = lv') (K : V p l e R s m args below meth c D b nL Q cells slots es lv' (rest) n) : V p l e R s m args below meth c D b nL Q cells slots es lv (.int x :: rest) pc := by
  subst hn
  intro H locs ls hz hP hS hl
  exact lv_istore_n C.1 C.2.1 hdg hi hl hb hs (fun ls' hl' => K H locs ls' hz hP hS hl')
theorem v_lstore (C : vC p s m args meth c cc nL own nm ret D b) {i : Nat} {x : Int64} {lv' : List (Nat × Value)} (hdg : decode cc pc = .ok (.lstore i, 2)) (hn : pc + 2 = n) (hb : i + 1 < nL) (hs : lsetL i (.long x) lv = lv') (K : V p l e R s m args below meth c D b nL Q cells slots es lv' (rest) n) : V p l e R s m args below meth c D b nL Q cells slots es lv (.long x :: rest) pc := by
  subst hn
  intro H locs ls hz hP hS hl
  exact lv_lstore C.1 C.2.1 hdg  hl hb hs (fun ls' hl' => K H locs ls' hz hP hS hl')
theorem v_lstore_n (C : vC p s m args meth c cc nL own nm ret D b) {k : Fin 4} {i : Nat} {x : Int64} {lv' : List (Nat × Value)} (hdg : decode cc pc = .ok (.lstore_n k, 1)) (hn : pc + 1 = n) (hi : (k : Nat) = i) (hb : i + 1 < nL) (hs : lsetL i (.long x) lv = lv') (K : V p l e R s m args below meth c D b nL Q cells slots es lv' (rest) n) : V p l e R s m args below meth c D b nL Q cells slots es lv (.long x :: rest) pc := by
  subst hn
  intro H locs ls hz hP hS hl
  exact lv_lstore_n C.1 C.2.1 hdg hi hl hb hs (fun ls' hl' => K H locs ls' hz hP hS hl')
theorem v_astore (C : vC p s m args meth c cc nL own nm ret D b) {i x : Nat} {lv' : List (Nat × Value)} (hdg : decode cc pc = .ok (.astore i, 2)) (hn : pc + 2 = n) (hb : i < nL) (hs : lset i (.ref x) lv = lv') (K : V p l e R s m args below meth c D b nL Q cells slots es lv' (rest) n) : V p l e R s m args below meth c D b nL Q cells slots es lv (.ref x :: rest) pc := by
  subst hn
  intro H locs ls hz hP hS hl
  exact lv_astore C.1 C.2.1 hdg  hl hb hs (fun ls' hl' => K H locs ls' hz hP hS hl')
theorem v_astore_n (C : vC p s m args meth c cc nL own nm ret D b) {k : Fin 4} {i x : Nat} {lv' : List (Nat × Value)} (hdg : decode cc pc = .ok (.astore_n k, 1)) (hn : pc + 1 = n) (hi : (k : Nat) = i) (hb : i < nL) (hs : lset i (.ref x) lv = lv') (K : V p l e R s m args below meth c D b nL Q cells slots es lv' (rest) n) : V p l e R s m args below meth c D b nL Q cells slots es lv (.ref x :: rest) pc := by
  subst hn
  intro H locs ls hz hP hS hl
  exact lv_astore_n C.1 C.2.1 hdg hi hl hb hs (fun ls' hl' => K H locs ls' hz hP hS hl')
theorem v_astoreN (C : vC p s m args meth c cc nL own nm ret D b) {i : Nat} {lv' : List (Nat × Value)} (hdg : decode cc pc = .ok (.astore i, 2)) (hn : pc + 2 = n) (hb : i < nL) (hs : lset i (.null) lv = lv') (K : V p l e R s m args below meth c D b nL Q cells slots es lv' (rest) n) : V p l e R s m args below meth c D b nL Q cells slots es lv (.null :: rest) pc := by
  subst hn
  intro H locs ls hz hP hS hl
  exact lv_astoreN C.1 C.2.1 hdg  hl hb hs (fun ls' hl' => K H locs ls' hz hP hS hl')
theorem v_astore_nN (C : vC p s m args meth c cc nL own nm ret D b) {k : Fin 4} {i : Nat} {lv' : List (Nat × Value)} (hdg : decode cc pc = .ok (.astore_n k, 1)) (hn : pc + 1 = n) (hi : (k : Nat) = i) (hb : i < nL) (hs : lset i (.null) lv = lv') (K : V p l e R s m args below meth c D b nL Q cells slots es lv' (rest) n) : V p l e R s m args below meth c D b nL Q cells slots es lv (.null :: rest) pc := by
  subst hn
  intro H locs ls hz hP hS hl
  exact lv_astore_nN C.1 C.2.1 hdg hi hl hb hs (fun ls' hl' => K H locs ls' hz hP hS hl')
theorem v_iinc (C : vC p s m args meth c cc nL own nm ret D b) {i : Nat} {k : Int} {x v : Int32} {lv' : List (Nat × Value)} (hdg : decode cc pc = .ok (.iinc i k, 3)) (hn : pc + 3 = n) (h : lget lv i = some (.int x)) (hv : x + Int32.ofInt k = v) (hb : i < nL) (hs : lset i (.int v) lv = lv') (K : V p l e R s m args below meth c D b nL Q cells slots es lv' (rest) n) : V p l e R s m args below meth c D b nL Q cells slots es lv (rest) pc := by
  subst hn
  intro H locs ls hz hP hS hl
  obtain ⟨j, hj⟩ := lget_at h
  exact lv_iinc C.1 C.2.1 hdg hl hj hv hb hs (fun ls' hl' => K H locs ls' hz hP hS hl')
theorem v_icmp_eq (C : vC p s m args meth c cc nL own nm ret D b) {x y : Int32} {off : Int} {t : Nat} (hdg : decode cc pc = .ok (.if_icmp .eq off, 3)) (ht : (pc : Int) + off = (t : Int)) (hn : pc + 3 = n) (kt : x = y → V p l e R s m args below meth c D b nL Q cells slots es lv (rest) t) (kf : ¬ x = y → V p l e R s m args below meth c D b nL Q cells slots es lv (rest) n) : V p l e R s m args below meth c D b nL Q cells slots es lv (.int y :: .int x :: rest) pc := by
  subst hn
  intro H locs ls hz hP hS hl
  exact lv_icmp_eq C.1 C.2.1 hdg ht (fun h => kt h H locs ls hz hP hS hl) (fun h => kf h H locs ls hz hP hS hl)
theorem v_icmp_ne (C : vC p s m args meth c cc nL own nm ret D b) {x y : Int32} {off : Int} {t : Nat} (hdg : decode cc pc = .ok (.if_icmp .ne off, 3)) (ht : (pc : Int) + off = (t : Int)) (hn : pc + 3 = n) (kt : ¬ x = y → V p l e R s m args below meth c D b nL Q cells slots es lv (rest) t) (kf : x = y → V p l e R s m args below meth c D b nL Q cells slots es lv (rest) n) : V p l e R s m args below meth c D b nL Q cells slots es lv (.int y :: .int x :: rest) pc := by
  subst hn
  intro H locs ls hz hP hS hl
  exact lv_icmp_ne C.1 C.2.1 hdg ht (fun h => kt h H locs ls hz hP hS hl) (fun h => kf h H locs ls hz hP hS hl)
theorem v_icmp_lt (C : vC p s m args meth c cc nL own nm ret D b) {x y : Int32} {off : Int} {t : Nat} (hdg : decode cc pc = .ok (.if_icmp .lt off, 3)) (ht : (pc : Int) + off = (t : Int)) (hn : pc + 3 = n) (kt : x < y → V p l e R s m args below meth c D b nL Q cells slots es lv (rest) t) (kf : ¬ x < y → V p l e R s m args below meth c D b nL Q cells slots es lv (rest) n) : V p l e R s m args below meth c D b nL Q cells slots es lv (.int y :: .int x :: rest) pc := by
  subst hn
  intro H locs ls hz hP hS hl
  exact lv_icmp_lt C.1 C.2.1 hdg ht (fun h => kt h H locs ls hz hP hS hl) (fun h => kf h H locs ls hz hP hS hl)
theorem v_icmp_ge (C : vC p s m args meth c cc nL own nm ret D b) {x y : Int32} {off : Int} {t : Nat} (hdg : decode cc pc = .ok (.if_icmp .ge off, 3)) (ht : (pc : Int) + off = (t : Int)) (hn : pc + 3 = n) (kt : y ≤ x → V p l e R s m args below meth c D b nL Q cells slots es lv (rest) t) (kf : ¬ y ≤ x → V p l e R s m args below meth c D b nL Q cells slots es lv (rest) n) : V p l e R s m args below meth c D b nL Q cells slots es lv (.int y :: .int x :: rest) pc := by
  subst hn
  intro H locs ls hz hP hS hl
  exact lv_icmp_ge C.1 C.2.1 hdg ht (fun h => kt h H locs ls hz hP hS hl) (fun h => kf h H locs ls hz hP hS hl)
theorem v_icmp_gt (C : vC p s m args meth c cc nL own nm ret D b) {x y : Int32} {off : Int} {t : Nat} (hdg : decode cc pc = .ok (.if_icmp .gt off, 3)) (ht : (pc : Int) + off = (t : Int)) (hn : pc + 3 = n) (kt : y < x → V p l e R s m args below meth c D b nL Q cells slots es lv (rest) t) (kf : ¬ y < x → V p l e R s m args below meth c D b nL Q cells slots es lv (rest) n) : V p l e R s m args below meth c D b nL Q cells slots es lv (.int y :: .int x :: rest) pc := by
  subst hn
  intro H locs ls hz hP hS hl
  exact lv_icmp_gt C.1 C.2.1 hdg ht (fun h => kt h H locs ls hz hP hS hl) (fun h => kf h H locs ls hz hP hS hl)
theorem v_icmp_le (C : vC p s m args meth c cc nL own nm ret D b) {x y : Int32} {off : Int} {t : Nat} (hdg : decode cc pc = .ok (.if_icmp .le off, 3)) (ht : (pc : Int) + off = (t : Int)) (hn : pc + 3 = n) (kt : x ≤ y → V p l e R s m args below meth c D b nL Q cells slots es lv (rest) t) (kf : ¬ x ≤ y → V p l e R s m args below meth c D b nL Q cells slots es lv (rest) n) : V p l e R s m args below meth c D b nL Q cells slots es lv (.int y :: .int x :: rest) pc := by
  subst hn
  intro H locs ls hz hP hS hl
  exact lv_icmp_le C.1 C.2.1 hdg ht (fun h => kt h H locs ls hz hP hS hl) (fun h => kf h H locs ls hz hP hS hl)
theorem v_if_eq (C : vC p s m args meth c cc nL own nm ret D b) {x : Int32} {off : Int} {t : Nat} (hdg : decode cc pc = .ok (.ifCond .eq off, 3)) (ht : (pc : Int) + off = (t : Int)) (hn : pc + 3 = n) (kt : x = 0 → V p l e R s m args below meth c D b nL Q cells slots es lv (rest) t) (kf : ¬ x = 0 → V p l e R s m args below meth c D b nL Q cells slots es lv (rest) n) : V p l e R s m args below meth c D b nL Q cells slots es lv (.int x :: rest) pc := by
  subst hn
  intro H locs ls hz hP hS hl
  exact lv_if_eq C.1 C.2.1 hdg ht (fun h => kt h H locs ls hz hP hS hl) (fun h => kf h H locs ls hz hP hS hl)
theorem v_if_ne (C : vC p s m args meth c cc nL own nm ret D b) {x : Int32} {off : Int} {t : Nat} (hdg : decode cc pc = .ok (.ifCond .ne off, 3)) (ht : (pc : Int) + off = (t : Int)) (hn : pc + 3 = n) (kt : ¬ x = 0 → V p l e R s m args below meth c D b nL Q cells slots es lv (rest) t) (kf : x = 0 → V p l e R s m args below meth c D b nL Q cells slots es lv (rest) n) : V p l e R s m args below meth c D b nL Q cells slots es lv (.int x :: rest) pc := by
  subst hn
  intro H locs ls hz hP hS hl
  exact lv_if_ne C.1 C.2.1 hdg ht (fun h => kt h H locs ls hz hP hS hl) (fun h => kf h H locs ls hz hP hS hl)
theorem v_if_lt (C : vC p s m args meth c cc nL own nm ret D b) {x : Int32} {off : Int} {t : Nat} (hdg : decode cc pc = .ok (.ifCond .lt off, 3)) (ht : (pc : Int) + off = (t : Int)) (hn : pc + 3 = n) (kt : x < 0 → V p l e R s m args below meth c D b nL Q cells slots es lv (rest) t) (kf : ¬ x < 0 → V p l e R s m args below meth c D b nL Q cells slots es lv (rest) n) : V p l e R s m args below meth c D b nL Q cells slots es lv (.int x :: rest) pc := by
  subst hn
  intro H locs ls hz hP hS hl
  exact lv_if_lt C.1 C.2.1 hdg ht (fun h => kt h H locs ls hz hP hS hl) (fun h => kf h H locs ls hz hP hS hl)
theorem v_if_ge (C : vC p s m args meth c cc nL own nm ret D b) {x : Int32} {off : Int} {t : Nat} (hdg : decode cc pc = .ok (.ifCond .ge off, 3)) (ht : (pc : Int) + off = (t : Int)) (hn : pc + 3 = n) (kt : 0 ≤ x → V p l e R s m args below meth c D b nL Q cells slots es lv (rest) t) (kf : ¬ 0 ≤ x → V p l e R s m args below meth c D b nL Q cells slots es lv (rest) n) : V p l e R s m args below meth c D b nL Q cells slots es lv (.int x :: rest) pc := by
  subst hn
  intro H locs ls hz hP hS hl
  exact lv_if_ge C.1 C.2.1 hdg ht (fun h => kt h H locs ls hz hP hS hl) (fun h => kf h H locs ls hz hP hS hl)
theorem v_if_gt (C : vC p s m args meth c cc nL own nm ret D b) {x : Int32} {off : Int} {t : Nat} (hdg : decode cc pc = .ok (.ifCond .gt off, 3)) (ht : (pc : Int) + off = (t : Int)) (hn : pc + 3 = n) (kt : 0 < x → V p l e R s m args below meth c D b nL Q cells slots es lv (rest) t) (kf : ¬ 0 < x → V p l e R s m args below meth c D b nL Q cells slots es lv (rest) n) : V p l e R s m args below meth c D b nL Q cells slots es lv (.int x :: rest) pc := by
  subst hn
  intro H locs ls hz hP hS hl
  exact lv_if_gt C.1 C.2.1 hdg ht (fun h => kt h H locs ls hz hP hS hl) (fun h => kf h H locs ls hz hP hS hl)
theorem v_if_le (C : vC p s m args meth c cc nL own nm ret D b) {x : Int32} {off : Int} {t : Nat} (hdg : decode cc pc = .ok (.ifCond .le off, 3)) (ht : (pc : Int) + off = (t : Int)) (hn : pc + 3 = n) (kt : x ≤ 0 → V p l e R s m args below meth c D b nL Q cells slots es lv (rest) t) (kf : ¬ x ≤ 0 → V p l e R s m args below meth c D b nL Q cells slots es lv (rest) n) : V p l e R s m args below meth c D b nL Q cells slots es lv (.int x :: rest) pc := by
  subst hn
  intro H locs ls hz hP hS hl
  exact lv_if_le C.1 C.2.1 hdg ht (fun h => kt h H locs ls hz hP hS hl) (fun h => kf h H locs ls hz hP hS hl)
theorem v_goto (C : vC p s m args meth c cc nL own nm ret D b) {off : Int} {t : Nat} {st : List Value} (hdg : decode cc pc = .ok (.goto off, 3)) (ht : (pc : Int) + off = (t : Int)) (K : V p l e R s m args below meth c D b nL Q cells slots es lv (st) t) : V p l e R s m args below meth c D b nL Q cells slots es lv (st) pc := by
  intro H locs ls hz hP hS hl
  exact lv_goto C.1 C.2.1 hdg ht (K H locs ls hz hP hS hl)
theorem v_ifnull (C : vC p s m args meth c cc nL own nm ret D b) {x : Nat} {off : Int} (hdg : decode cc pc = .ok (.ifnull off, 3)) (hn : pc + 3 = n) (K : V p l e R s m args below meth c D b nL Q cells slots es lv (rest) n) : V p l e R s m args below meth c D b nL Q cells slots es lv (.ref x :: rest) pc := by
  subst hn
  intro H locs ls hz hP hS hl
  exact lv_ifnull C.1 C.2.1 hdg (K H locs ls hz hP hS hl)
theorem v_ifnonnull (C : vC p s m args meth c cc nL own nm ret D b) {x t : Nat} {off : Int} (hdg : decode cc pc = .ok (.ifnonnull off, 3)) (ht : (pc : Int) + off = (t : Int)) (K : V p l e R s m args below meth c D b nL Q cells slots es lv (rest) t) : V p l e R s m args below meth c D b nL Q cells slots es lv (.ref x :: rest) pc := by
  intro H locs ls hz hP hS hl
  exact lv_ifnonnull C.1 C.2.1 hdg ht (K H locs ls hz hP hS hl)
theorem v_ifnullN (C : vC p s m args meth c cc nL own nm ret D b) {t : Nat} {off : Int} (hdg : decode cc pc = .ok (.ifnull off, 3)) (ht : (pc : Int) + off = (t : Int)) (K : V p l e R s m args below meth c D b nL Q cells slots es lv (rest) t) : V p l e R s m args below meth c D b nL Q cells slots es lv (.null :: rest) pc := by
  intro H locs ls hz hP hS hl
  exact lv_ifnullN C.1 C.2.1 hdg ht (K H locs ls hz hP hS hl)
theorem v_ifnonnullN (C : vC p s m args meth c cc nL own nm ret D b) {off : Int} (hdg : decode cc pc = .ok (.ifnonnull off, 3)) (hn : pc + 3 = n) (K : V p l e R s m args below meth c D b nL Q cells slots es lv (rest) n) : V p l e R s m args below meth c D b nL Q cells slots es lv (.null :: rest) pc := by
  subst hn
  intro H locs ls hz hP hS hl
  exact lv_ifnonnullN C.1 C.2.1 hdg (K H locs ls hz hP hS hl)
theorem v_tableIn (C : vC p s m args meth c cc nL own nm ret D b) {dflt lo hi : Int} {offs : Array Int} {len t : Nat} {x : Int32} {off : Int} (hdg : decode cc pc = .ok (.tableswitch dflt lo hi offs, len)) (h1 : ¬ x.toInt < lo) (h2 : ¬ hi < x.toInt) (ho : offs[(x.toInt - lo).toNat]? = some off) (ht : (pc : Int) + off = (t : Int)) (K : V p l e R s m args below meth c D b nL Q cells slots es lv (rest) t) : V p l e R s m args below meth c D b nL Q cells slots es lv (.int x :: rest) pc := by
  intro H locs ls hz hP hS hl
  exact lv_tableIn C.1 C.2.1 hdg h1 h2 ho ht (K H locs ls hz hP hS hl)
theorem v_tableOut (C : vC p s m args meth c cc nL own nm ret D b) {dflt lo hi : Int} {offs : Array Int} {len t : Nat} {x : Int32} (hdg : decode cc pc = .ok (.tableswitch dflt lo hi offs, len)) (h : x.toInt < lo ∨ hi < x.toInt) (ht : (pc : Int) + dflt = (t : Int)) (K : V p l e R s m args below meth c D b nL Q cells slots es lv (rest) t) : V p l e R s m args below meth c D b nL Q cells slots es lv (.int x :: rest) pc := by
  intro H locs ls hz hP hS hl
  exact lv_tableOut C.1 C.2.1 hdg h ht (K H locs ls hz hP hS hl)
theorem v_ldc (C : vC p s m args meth c cc nL own nm ret D b) {k : Nat} {v : Int32} (hdg : decode cc pc = .ok (.ldc k, 2)) (hn : pc + 2 = n) (hw : Cond.constant own k v ∈ lw_g) (K : V p l e R s m args below meth c D b nL Q cells slots es lv (.int v :: rest) n) : V p l e R s m args below meth c D b nL Q cells slots es lv (rest) pc := by
  subst hn
  intro H locs ls hz hP hS hl
  exact lv_ldc C.1 C.2.1 C.2.2.2.1 (C.2.2.2.2.1 _ hw) hdg (K H locs ls hz hP hS hl)
theorem v_ldc2 (C : vC p s m args meth c cc nL own nm ret D b) {k : Nat} {v : Int64} (hdg : decode cc pc = .ok (.ldc2_w k, 3)) (hn : pc + 3 = n) (hw : Cond.constantLong own k v ∈ lw_g) (K : V p l e R s m args below meth c D b nL Q cells slots es lv (.long v :: rest) n) : V p l e R s m args below meth c D b nL Q cells slots es lv (rest) pc := by
  subst hn
  intro H locs ls hz hP hS hl
  exact lv_ldc2 C.1 C.2.1 C.2.2.2.1 (C.2.2.2.2.1 _ hw) hdg (K H locs ls hz hP hS hl)
/-- a field of the k-th slot of the class number ci, as own's entry idx names it -/
def FL (own : String) (idx ci k : Nat) : Prop := ∃ (C : String) (T : u_T) (N : Nat) (ref : String) (ty0 : Nat → FieldType), vwCl[ci]? = some (C, T, N) ∧ (∀ w ∈ u_ws C T N, w ∈ lw_g) ∧ k < N ∧ Cond.fieldLink own idx ref (T k).2.1 (T k).2.2.1 ∈ lw_g ∧ (ref = (T k).1 ∨ Cond.sameField ref (T k).1 (T k).2.1 (T k).2.2.1 ∈ lw_g) ∧ (∀ k, k < N → parseFieldDescriptor (T k).2.2.1 = some (ty0 k)) ∧ (∀ a, a < N → ∀ b, b < N → a ≠ b → (T a).2.1 ≠ (T b).2.1)
/-- it may be written: with values of the type ty -/
def FP (own : String) (ci k : Nat) (fin : Bool) (ty : FieldType) : Prop := ∀ (C : String) (T : u_T) (N : Nat), vwCl[ci]? = some (C, T, N) → parseFieldDescriptor (T k).2.2.1 = some ty ∧ (T k).2.2.2 = fin ∧ (fin = true → (T k).1 = own)
theorem v_get (C : vC p s m args meth c cc nL own nm ret D b) {idx ci k j : Nat} {fs : List Value} {v : Value} (hdg : decode cc pc = .ok (.getfield idx, 3)) (hn : pc + 3 = n) (F : FL own idx ci k) (he : es[j]? = some (.inr (ci, fs))) (hv : fs[k]? = some v) (K : V p l e R s m args below meth c D b nL Q cells slots es lv (v :: rest) n) : V p l e R s m args below meth c D b nL Q cells slots es lv (.ref (b + j) :: rest) pc := by
  subst hn
  intro H locs ls hz hP hS hl
  obtain ⟨C', T, N, ref, ty0, hc, hin, hk, hlink, hsame, hty, hnm⟩ := F
  refine va_get (ref := ref) C.1 C.2.1 C.2.2.2.2.1 hin C.2.2.2.1 C.2.2.2.2.2.1 hP j (hw_get he) hc k hk (C.2.2.2.2.1 _ hlink) (fun x hx => ?_) hv hdg (K H locs ls hz hP hS hl)
  rcases hsame with h | h
  · subst h; exact hx
  · exact u_same (C.2.2.2.2.1 _ h) x hx
theorem v_put (C : vC p s m args meth c cc nL own nm ret D b) {idx ci k j : Nat} {fs : List Value} {v : Value} {ty : FieldType} {es' : List va_E} (hdg : decode cc pc = .ok (.putfield idx, 3)) (hn : pc + 3 = n) (F : FL own idx ci k) (G : FP own ci k false ty) (he : es[j]? = some (.inr (ci, fs))) (hnr : narrow ty v = v) (hfit : fits ty v = true) (hlen : k < fs.length) (hs : es.set j (.inr (ci, fs.set k v)) = es') (K : V p l e R s m args below meth c D b nL Q cells slots es' lv (rest) n) : V p l e R s m args below meth c D b nL Q cells slots es lv (v :: .ref (b + j) :: rest) pc := by
  subst hn
  subst hs
  intro H locs ls hz hP hS hl
  obtain ⟨C', T, N, ref, ty0, hc, hin, hk, hlink, hsame, hty, hnm⟩ := F
  obtain ⟨hd, hfin, -⟩ := G _ _ _ hc
  refine va_put (ref := ref) C.1 C.2.1 C.2.2.2.2.1 hin ty0 hty hnm C.2.2.2.1 C.2.2.2.2.2.1 hP (hw_D b es) hS j (hw_get he) hc k hk (C.2.2.2.2.1 _ hlink) (fun x hx => ?_) hfin hd hnr hfit hlen hdg (fun H1 locs1 hP1 hD1 hS1 => ?_)
  · rcases hsame with h | h
    · subst h; exact hx
    · exact u_same (C.2.2.2.2.1 _ h) x hx
  · rw [hw_set] at hP1
    exact K H1 locs1 ls (by rw [List.length_set]; exact hz) hP1 hS1 hl

end VV
end
section
theorem gd_code {y : MethodName} {cc : ByteArray} {maxL : Nat} {ret : Option FieldType} (h : Cond.code y cc maxL ret ∈ lw_g) : GoodIn lw_g (Cond.code y cc maxL ret :: lw_g) := gd (fun w hw => by
  rcases List.mem_cons.mp hw with rfl | hw
  · exact h
  · exact hw)
section V2
variable {p : Program} {l : Launch} {e : Env} {R : Room} {s : State} {m : MethodId} {args : Array Value} {below : List Frame} {meth : Method} {c : Code} {D : va_G} {b nL : Nat} {Q : State → Prop} {cells slots : Nat} {es : List va_E} {lv : List (Nat × Value)} {rest : List Value} {pc n : Nat} {cc : ByteArray} {own nm : String} {ret : Option FieldType}
theorem hw_size {H : Heap} {locs : List Loc} {T : State} (X : Stand p l e R s m args below meth c T locs cells slots) (hT : T.heap = H) (hz : s.heap.size + cells = b + es.length) (hP : va_P D vwCl (hw b es) H) (hS : va_S (fun q => b ≤ q) s.heap H locs) (hb : b ≤ s.heap.size) : H.size = b + es.length := by
  have h1 := X.heapSize
  rw [hT] at h1
  have h2 := hS.1
  rcases Nat.eq_zero_or_pos es.length with h0 | h0
  · omega
  · have h3 : es[es.length - 1]? = some es[es.length - 1] := List.getElem?_eq_getElem (by omega)
    have h4 := (hP _ _ (hw_get (b := b) h3)).lt
    have h5 : b + (es.length - 1) < H.size := h4
    omega
theorem vU_blind {av : List Value} : FrameBlind (va_Pc av (vU D b es)) := fun _ U _ _ ⟨h1, hz, hP, hK, hT⟩ => ⟨h1, hz, hP, va_K.moved (u := U) (Vm.Alike.refl U.vm) hK, vT_same rfl rfl hT⟩
theorem con_of {y : MethodName} {maxL fr lo mc ms : Nat} {av : List Value} {Post : Option Value → List va_E → Prop} (hy : plainName y.cls = true) (hlen : (lg_sl av).length ≤ maxL)
    (body : ∀ (p : Program) (e : Env) (s : State) (m : MethodId) (args : Array Value) (below : List Frame) (meth : Method) (c : Code), vC p s m args meth c cc maxL y.cls y.name ret D b → s.heap.size = b + es.length →
      V p l e { frames := fr, cells := mc, slots := ms, locals := lo } s m args below meth c D b maxL (MQ below (cQ D b mc Post) args s mc ms (fun q => b ≤ q)) 0 0 es (lv_args 0 av) [] 0) : Con l y cc maxL ret fr lo D b mc ms es av Post := by
  refine Met.ofW (cc := cc) (maxL := maxL) (ret := ret) hy rfl ?_
  intro p e s m args below meth c s₁ B hml hv
  obtain ⟨rfl, hsz, hP, hK, hT⟩ := hv
  have hts := atoms_spec (ws := Cond.code y cc maxL ret :: lw_g) B.pre
  have hl := lv_entry av (n := maxL) hlen
  rw [lg_entry_eq]
  exact body p e s m _ below meth c ⟨B.exec, B.bytes, hml, findClass_of_methodNamed B.named, fun w hw => hts w (List.mem_cons_of_mem _ hw), hK, B.notSynchronized, B.returns, (name_of_methodNamed B.named B.method).1, by omega, hT⟩ hsz s.heap [] _ (by omega) hP va_S.rf hl

theorem v_iret (C : vC p s m args meth c cc nL own nm ret D b) {v : Int32} {ty : FieldType} {Post : Option Value → List va_E → Prop} (hdg : decode cc pc = .ok (.ireturn, 1)) (hret : ret = some ty) (hnar : narrow ty (.int v) = .int v) (hp : Post (some (.int v)) es) : V p l e R s m args below meth c D b nL (MQ below (cQ D b cells Post) args s cells slots (fun q => b ≤ q)) cells slots es lv ([.int v]) pc := by
  intro H locs ls hz hP hS hl
  intro T hT X
  have hzH := hw_size X hT hz hP hS C.2.2.2.2.2.2.2.2.2.1
  exact W.zret C.1 C.2.1 (C.2.2.2.2.2.2.2.1.trans hret) hnar (fun t ht hW => ⟨⟨_, es, rfl, hp, by rw [ht]; exact hzH, by rw [ht]; exact hP⟩, by rw [ht]; omega, hS.F ht⟩) hS.2.2 hdg C.2.2.2.2.2.2.1 T hT X
theorem v_lret (C : vC p s m args meth c cc nL own nm ret D b) {v : Int64} {Post : Option Value → List va_E → Prop} (hdg : decode cc pc = .ok (.lreturn, 1)) (hret : ret = some .long) (hp : Post (some (.long v)) es) : V p l e R s m args below meth c D b nL (MQ below (cQ D b cells Post) args s cells slots (fun q => b ≤ q)) cells slots es lv ([.long v]) pc := by
  intro H locs ls hz hP hS hl
  intro T hT X
  have hzH := hw_size X hT hz hP hS C.2.2.2.2.2.2.2.2.2.1
  exact W.lret C.1 C.2.1 (C.2.2.2.2.2.2.2.1.trans hret) (fun t ht hW => ⟨⟨_, es, rfl, hp, by rw [ht]; exact hzH, by rw [ht]; exact hP⟩, by rw [ht]; omega, hS.F ht⟩) hS.2.2 hdg C.2.2.2.2.2.2.1 T hT X
theorem v_vret (C : vC p s m args meth c cc nL own nm ret D b) {Post : Option Value → List va_E → Prop} (hdg : decode cc pc = .ok (.return_, 1)) (hret : ret = none) (hp : Post none es) : V p l e R s m args below meth c D b nL (MQ below (cQ D b cells Post) args s cells slots (fun q => b ≤ q)) cells slots es lv ([]) pc := by
  intro H locs ls hz hP hS hl
  intro T hT X
  have hzH := hw_size X hT hz hP hS C.2.2.2.2.2.2.2.2.2.1
  exact W.vret C.1 C.2.1 (C.2.2.2.2.2.2.2.1.trans hret) (fun t ht hW => ⟨⟨_, es, rfl, hp, by rw [ht]; exact hzH, by rw [ht]; exact hP⟩, by rw [ht]; omega, hS.F ht⟩) hS.2.2 hdg C.2.2.2.2.2.2.1 T hT X
theorem v_aret (C : vC p s m args meth c cc nL own nm ret D b) {v : Value} {ty : FieldType} {Post : Option Value → List va_E → Prop} (hdg : decode cc pc = .ok (.areturn, 1)) (hret : ret = some ty) (hty : (∃ n, ty = .object n) ∨ ∃ t, ty = .array t) (hv : v = .null ∨ ∃ a, v = .ref a) (hp : Post (some v) es) : V p l e R s m args below meth c D b nL (MQ below (cQ D b cells Post) args s cells slots (fun q => b ≤ q)) cells slots es lv ([v]) pc := by
  intro H locs ls hz hP hS hl
  intro T hT X
  have hzH := hw_size X hT hz hP hS C.2.2.2.2.2.2.2.2.2.1
  exact W.aret C.1 C.2.1 (C.2.2.2.2.2.2.2.1.trans hret) hty hv (fun t ht hW => ⟨⟨_, es, rfl, hp, by rw [ht]; exact hzH, by rw [ht]; exact hP⟩, by rw [ht]; omega, hS.F ht⟩) hS.2.2 hdg C.2.2.2.2.2.2.1 T hT X
theorem v_alen (C : vC p s m args meth c cc nL own nm ret D b) {j N : Nat} {f : Nat → Int32} {v : Int32} (hdg : decode cc pc = .ok (.arraylength, 1)) (hn : pc + 1 = n) (he : es[j]? = some (.inl (D.1 13, N, .inl f))) (hv : Int32.ofNat N = v) (K : V p l e R s m args below meth c D b nL Q cells slots es lv (.int v :: rest) n) : V p l e R s m args below meth c D b nL Q cells slots es lv (.ref (b + j) :: rest) pc := by
  subst hn
  intro H locs ls hz hP hS hl
  exact va_alen C.1 C.2.1 C.2.2.2.2.2.1 hP j 0 (hw_get he) (ty := .int) rfl hv hdg (K H locs ls hz hP hS hl)
theorem v_alenQ (C : vC p s m args meth c cc nL own nm ret D b) {j N : Nat} {f : Nat → Option Nat} {v : Int32} (hdg : decode cc pc = .ok (.arraylength, 1)) (hn : pc + 1 = n) (he : es[j]? = some (.inl (D.1 14, N, .inr (.inr (.inr (.inr f)))))) (hv : Int32.ofNat N = v) (K : V p l e R s m args below meth c D b nL Q cells slots es lv (.int v :: rest) n) : V p l e R s m args below meth c D b nL Q cells slots es lv (.ref (b + j) :: rest) pc := by
  subst hn
  intro H locs ls hz hP hS hl
  exact va_alen C.1 C.2.1 C.2.2.2.2.2.1 hP j 1 (hw_get he) (ty := .object "WheatSea$Hull") rfl hv hdg (K H locs ls hz hP hS hl)
theorem v_iald (C : vC p s m args meth c cc nL own nm ret D b) {j N : Nat} {f : Nat → Int32} {i : Int32} (hdg : decode cc pc = .ok (.iaload, 1)) (hn : pc + 1 = n) (he : es[j]? = some (.inl (D.1 13, N, .inl f))) (hin : vp_in i N) (K : V p l e R s m args below meth c D b nL Q cells slots es lv (.int (f i.toNatClampNeg) :: rest) n) : V p l e R s m args below meth c D b nL Q cells slots es lv (.int i :: .ref (b + j) :: rest) pc := by
  subst hn
  intro H locs ls hz hP hS hl
  exact va_iald C.1 C.2.1 C.2.2.2.2.2.1 hP j 0 (hw_get he) rfl hin hdg (K H locs ls hz hP hS hl)
theorem v_aald (C : vC p s m args meth c cc nL own nm ret D b) {j N : Nat} {f : Nat → Option Nat} {i : Int32} (hdg : decode cc pc = .ok (.aaload, 1)) (hn : pc + 1 = n) (he : es[j]? = some (.inl (D.1 14, N, .inr (.inr (.inr (.inr f)))))) (hin : vp_in i N) (K : V p l e R s m args below meth c D b nL Q cells slots es lv (va_rf (f i.toNatClampNeg) :: rest) n) : V p l e R s m args below meth c D b nL Q cells slots es lv (.int i :: .ref (b + j) :: rest) pc := by
  subst hn
  intro H locs ls hz hP hS hl
  exact va_aldq C.1 C.2.1 C.2.2.2.2.2.1 hP j 1 (hw_get he) rfl hin hdg (K H locs ls hz hP hS hl)
theorem v_iast (C : vC p s m args meth c cc nL own nm ret D b) {j N : Nat} {f : Nat → Int32} {i x : Int32} {es' : List va_E} (hdg : decode cc pc = .ok (.iastore, 1)) (hn : pc + 1 = n) (he : es[j]? = some (.inl (D.1 13, N, .inl f))) (hin : vp_in i N) (hs : es.set j (.inl (D.1 13, N, .inl (upd f i.toNatClampNeg x))) = es') (K : V p l e R s m args below meth c D b nL Q cells slots es' lv (rest) n) : V p l e R s m args below meth c D b nL Q cells slots es lv (.int x :: .int i :: .ref (b + j) :: rest) pc := by
  subst hn
  subst hs
  intro H locs ls hz hP hS hl
  refine va_iast C.1 C.2.1 C.2.2.2.2.2.1 hP (hw_D b es) hS j 0 (hw_get he) rfl hin hdg (fun H1 locs1 hP1 _ hS1 => ?_)
  rw [hw_set] at hP1
  exact K H1 locs1 ls (by rw [List.length_set]; exact hz) hP1 hS1 hl
theorem v_aastN (C : vC p s m args meth c cc nL own nm ret D b) {j N : Nat} {f : Nat → Option Nat} {i : Int32} {es' : List va_E} (hdg : decode cc pc = .ok (.aastore, 1)) (hn : pc + 1 = n) (he : es[j]? = some (.inl (D.1 14, N, .inr (.inr (.inr (.inr f)))))) (hin : vp_in i N) (hs : es.set j (.inl (D.1 14, N, .inr (.inr (.inr (.inr (va_up f i.toNatClampNeg none)))))) = es') (K : V p l e R s m args below meth c D b nL Q cells slots es' lv (rest) n) : V p l e R s m args below meth c D b nL Q cells slots es lv (.null :: .int i :: .ref (b + j) :: rest) pc := by
  subst hn
  subst hs
  intro H locs ls hz hP hS hl
  refine va_astqN C.1 C.2.1 C.2.2.2.2.2.1 hP (hw_D b es) hS j 1 (hw_get he) rfl hin hdg (fun H1 locs1 hP1 _ hS1 => ?_)
  rw [hw_set] at hP1
  exact K H1 locs1 ls (by rw [List.length_set]; exact hz) hP1 hS1 hl
theorem v_aast (C : vC p s m args meth c cc nL own nm ret D b) {j N k : Nat} {f : Nat → Option Nat} {i : Int32} {es' : List va_E} (hdg : decode cc pc = .ok (.aastore, 1)) (hn : pc + 1 = n) (he : es[j]? = some (.inl (D.1 14, N, .inr (.inr (.inr (.inr f)))))) (hin : vp_in i N) (hany : ∀ H : Heap, va_P D vwCl (hw b es) H → va_Any "WheatSea$Hull" s H (b + k)) (hs : es.set j (.inl (D.1 14, N, .inr (.inr (.inr (.inr (va_up f i.toNatClampNeg (some (b + k)))))))) = es') (K : V p l e R s m args below meth c D b nL Q cells slots es' lv (rest) n) : V p l e R s m args below meth c D b nL Q cells slots es lv (.ref (b + k) :: .int i :: .ref (b + j) :: rest) pc := by
  subst hn
  subst hs
  intro H locs ls hz hP hS hl
  refine va_astqM C.1 C.2.1 C.2.2.2.2.2.1 hP (hw_D b es) hS j 1 (hw_get he) rfl (hany H hP) hin hdg (fun H1 locs1 hP1 _ hS1 => ?_)
  rw [hw_set] at hP1
  exact K H1 locs1 ls (by rw [List.length_set]; exact hz) hP1 hS1 hl
theorem v_putF (C : vC p s m args meth c cc nL own nm ret D b) {idx ci k j : Nat} {fs : List Value} {v : Value} {ty : FieldType} {es' : List va_E} (hin2 : nm = "<init>") (hdg : decode cc pc = .ok (.putfield idx, 3)) (hn : pc + 3 = n) (F : FL own idx ci k) (G : FP own ci k true ty) (he : es[j]? = some (.inr (ci, fs))) (hnr : narrow ty v = v) (hfit : fits ty v = true) (hlen : k < fs.length) (hs : es.set j (.inr (ci, fs.set k v)) = es') (K : V p l e R s m args below meth c D b nL Q cells slots es' lv (rest) n) : V p l e R s m args below meth c D b nL Q cells slots es lv (v :: .ref (b + j) :: rest) pc := by
  subst hn
  subst hs
  intro H locs ls hz hP hS hl
  obtain ⟨C', T, N, ref, ty0, hc, hin, hk, hlink, hsame, hty, hnm⟩ := F
  obtain ⟨hd, hfin, hdecl⟩ := G _ _ _ hc
  refine va_putF (ref := ref) C.1 C.2.1 C.2.2.2.2.1 hin ty0 hty hnm C.2.2.2.1 C.2.2.2.2.2.1 hP (hw_D b es) hS j (hw_get he) hc k hk (C.2.2.2.2.1 _ hlink) (fun x hx => ?_) hfin (C.2.2.2.2.2.2.2.2.1.trans hin2) (hdecl rfl) hd hnr hfit hlen hdg (fun H1 locs1 hP1 hD1 hS1 => ?_)
  · rcases hsame with h | h
    · subst h; exact hx
    · exact u_same (C.2.2.2.2.1 _ h) x hx
  · rw [hw_set] at hP1
    exact K H1 locs1 ls (by rw [List.length_set]; exact hz) hP1 hS1 hl
/-- a class that own's entry idx makes: number ci, its fields at the start -/
def NW (own : String) (idx ci : Nat) (fs : List Value) : Prop := ∃ (C : String) (T : u_T) (N : Nat) (ty0 : Nat → FieldType), vwCl[ci]? = some (C, T, N) ∧ (∀ w ∈ u_ws C T N, w ∈ lw_g) ∧ (∀ k, k < N → parseFieldDescriptor (T k).2.2.1 = some (ty0 k)) ∧ Cond.classLink own idx C ∈ lw_g ∧ Cond.instantiable C N ∈ lw_g ∧ Cond.initialized C ∈ lw_g ∧ (∀ j, j < N → defaultValue (ty0 j) = vp_V fs j) ∧ fs.length = N
theorem hw_new {e1 : va_E} {q : Nat} {H1 : Heap} {T : State} {locs : List Loc} (X : Stand p l e R s m args below meth c T locs (cells + 1) slots) (hT : T.heap = H1) (hz : s.heap.size + cells = b + es.length) (hP : va_P D vwCl (hw b es ++ [(q, e1)]) H1) (hD : va_D (fun q => b ≤ q) (hw b es ++ [(q, e1)])) : q = b + es.length := by
  have h1 := X.heapSize
  rw [hT] at h1
  have hlen : (hw b es).length = es.length := by rw [hw, List.length_mapIdx]
  have hq : (hw b es ++ [(q, e1)])[es.length]? = some (q, e1) := by rw [List.getElem?_append_right (by omega), hlen, Nat.sub_self]; rfl
  have h2 : q < H1.size := (hP _ _ hq).lt
  have h3 : b ≤ q := hD.2 _ _ hq
  rcases Nat.lt_or_ge q (b + es.length) with h | h
  · exfalso
    have hk : es[q - b]? = some (es[q - b]'(by omega)) := List.getElem?_eq_getElem (by omega)
    have h4 : (hw b es ++ [(q, e1)])[q - b]? = some (b + (q - b), es[q - b]'(by omega)) := by rw [List.getElem?_append_left (by omega)]; exact hw_get hk
    have h5 := hD.1 _ _ _ _ h4 hq (by show b + (q - b) = q; omega)
    omega
  · omega
theorem v_new (C : vC p s m args meth c cc nL own nm ret D b) {idx ci : Nat} {fs : List Value} {es' : List va_E} (hdg : decode cc pc = .ok (.new idx, 3)) (hn : pc + 3 = n) (F : NW own idx ci fs) (hr : cells + 1 ≤ R.cells ∧ slots + fs.length ≤ R.slots) (hs : es ++ [.inr (ci, fs)] = es') (K : V p l e R s m args below meth c D b nL Q (cells + 1) (slots + fs.length) es' lv (.ref (b + es.length) :: rest) n) : V p l e R s m args below meth c D b nL Q cells slots es lv (rest) pc := by
  subst hn
  subst hs
  intro H locs ls hz hP hS hl
  obtain ⟨C', T, N, ty0, hc, hin, hty, hcl, hinst, hini, hfs, hlen⟩ := F
  subst hlen
  refine va_new C.1 C.2.1 C.2.2.2.2.1 hin ty0 hty C.2.2.2.1 (C.2.2.2.2.1 _ hcl) (C.2.2.2.2.1 _ hinst) (C.2.2.2.2.1 _ hini) C.2.2.2.2.2.1 hP (hw_D b es) hS (fun q h => Nat.le_trans C.2.2.2.2.2.2.2.2.2.1 h) hc hfs hr.1 hr.2 hdg (fun q H1 hP1 hD1 hS1 => fun T1 hT1 X1 => ?_)
  have hq := hw_new X1 hT1 hz hP1 hD1
  subst hq
  rw [hw_push] at hP1
  exact K H1 locs ls (by rw [List.length_append]; show s.heap.size + (cells + 1) = b + (es.length + 1); omega) hP1 hS1 hl T1 hT1 X1
theorem v_newi (C : vC p s m args meth c cc nL own nm ret D b) {k : Int32} {N : Nat} {es' : List va_E} (hdg : decode cc pc = .ok (.newarray .int, 2)) (hn : pc + 2 = n) (hw1 : Cond.arrayClass .int ∈ lw_g) (h0 : ¬ k < 0) (hN : k.toNatClampNeg = N) (hb4 : N * 4 ≤ 536870912) (hr : cells + 1 ≤ R.cells ∧ slots + N ≤ R.slots) (hs : es ++ [.inl (D.1 13, N, .inl (fun _ => 0))] = es') (K : V p l e R s m args below meth c D b nL Q (cells + 1) (slots + N) es' lv (.ref (b + es.length) :: rest) n) : V p l e R s m args below meth c D b nL Q cells slots es lv (.int k :: rest) pc := by
  subst hn
  subst hs
  intro H locs ls hz hP hS hl
  refine va_newa (atype := .int) C.1 C.2.1 (C.2.2.2.2.1 _ hw1) (ty := .int) rfl C.2.2.2.2.2.1 hP (hw_D b es) hS (fun q h => Nat.le_trans C.2.2.2.2.2.2.2.2.2.1 h) (a0 := (N, .inl (fun _ => 0))) (fun cA => rfl) h0 hN hb4 hr.1 hr.2 hdg (fun q cA H1 hK1 hP1 hD1 hS1 => fun T1 hT1 X1 => ?_)
  have hq := hw_new X1 hT1 hz hP1 hD1
  subst hq
  have e1 := (hK1.2 0 _ rfl).2
  have e2 := (hK1.2 2 _ rfl).2
  have e3 : cA = D.1 13 := Option.some.inj (Eq.trans (Eq.symm e2) e1)
  subst e3
  rw [hw_push] at hP1
  exact K H1 locs ls (by rw [List.length_append]; show s.heap.size + (cells + 1) = b + (es.length + 1); omega) hP1 hS1 hl T1 hT1 X1
theorem v_newq (C : vC p s m args meth c cc nL own nm ret D b) {k : Int32} {N idx : Nat} {es' : List va_E} (hdg : decode cc pc = .ok (.anewarray idx, 3)) (hn : pc + 3 = n) (hcl : Cond.classLink own idx "WheatSea$Hull" ∈ lw_g) (h0 : ¬ k < 0) (hN : k.toNatClampNeg = N) (hb4 : N * 4 ≤ 536870912) (hr : cells + 1 ≤ R.cells ∧ slots + N ≤ R.slots) (hs : es ++ [.inl (D.1 14, N, .inr (.inr (.inr (.inr (fun _ => none)))))] = es') (K : V p l e R s m args below meth c D b nL Q (cells + 1) (slots + N) es' lv (.ref (b + es.length) :: rest) n) : V p l e R s m args below meth c D b nL Q cells slots es lv (.int k :: rest) pc := by
  subst hn
  subst hs
  intro H locs ls hz hP hS hl
  refine va_newq C.1 C.2.1 C.2.2.2.1 (C.2.2.2.2.1 _ hcl) C.2.2.2.2.2.2.2.2.2.2.2.1 C.2.2.2.2.2.1 hP (hw_D b es) hS (fun q h => Nat.le_trans C.2.2.2.2.2.2.2.2.2.1 h) h0 hN hb4 hr.1 hr.2 hdg (fun q cA H1 hK1 hP1 hD1 hS1 => fun T1 hT1 X1 => ?_)
  have hq := hw_new X1 hT1 hz hP1 hD1
  subst hq
  obtain ⟨_, _, -, -, -, e1⟩ := (hK1.2 1 _ rfl).2
  obtain ⟨_, _, -, -, -, e2⟩ := (hK1.2 2 _ rfl).2
  have e3 : cA = D.1 14 := Option.some.inj (Eq.trans (Eq.symm e2) e1)
  subst e3
  rw [hw_push] at hP1
  exact K H1 locs ls (by rw [List.length_append]; show s.heap.size + (cells + 1) = b + (es.length + 1); omega) hP1 hS1 hl T1 hT1 X1
/-- Object's constructor -/
theorem v_oinit (C : vC p s m args meth c cc nL own nm ret D b) {x idx : Nat} (hdg : decode cc pc = .ok (.invokespecial idx, 3)) (hn : pc + 3 = n) (h1 : Cond.methodLink own idx objectInit ∈ lw_g) (h2 : Cond.instanceMethod objectInit ∈ lw_g) (h3 : Cond.code objectInit ⟨#[0xb1]⟩ 1 none ∈ lw_g) (hr : 1 ≤ R.frames) (hlo : (rest.map fun v => v.category).sum + 12 ≤ R.locals) (K : V p l e R s m args below meth c D b nL Q cells slots es lv (rest) n) : V p l e R s m args below meth c D b nL Q cells slots es lv (.ref x :: rest) pc := by
  subst hn
  intro H locs ls hz hP hS hl
  refine W.objInit C.1 C.2.1 C.2.2.2.1 (C.2.2.2.2.1 _ h1) (C.2.2.2.2.1 _ h2) (C.2.2.2.2.1 _ h3) rfl (by rw [C.2.2.1]; exact hl.1) rfl hdg hr ?_ (K H locs ls hz hP hS hl)
  show 2 * 0 + _ + 12 ≤ _
  omega

/-! calls -/
def vRun (p : Program) (l : Launch) (e : Env) (R : Room) (s : State) (m : MethodId) (args : Array Value) (below : List Frame) (meth : Method) (c : Code) (D : va_G) (b nL cells slots : Nat) (es : List va_E) (rest st0 : List Value) (pc mc ms : Nat) (Post : Option Value → List va_E → Prop) : Prop :=
  ∀ (H : Heap) (locs : List Loc) (ls : Array Slot), s.heap.size + cells = b + es.length → va_P D vwCl (hw b es) H → va_S (fun q => b ≤ q) s.heap H locs → ls.size = nL → va_Run p l e R s m args below meth c H locs cells slots mc ms (F0 m pc ls st0) rest (cQ D b mc Post #[]) (fun q => b ≤ q)
theorem v_go (C : vC p s m args meth c cc nL own nm ret D b) {st0 : List Value} {mc ms : Nat} {Post : Option Value → List va_E → Prop} (hr : vRun p l e R s m args below meth c D b nL cells slots es rest st0 pc mc ms Post) (hn : pc + 3 = n) (K : ∀ (r : Option Value) (es' : List va_E), Post r es' → es'.length = es.length + mc → V p l e R s m args below meth c D b nL Q (cells + mc) (slots + ms) es' lv (r.toList ++ rest) n) : V p l e R s m args below meth c D b nL Q cells slots es lv (st0) pc := by
  subst hn
  intro H locs ls hz hP hS hl T hT X
  obtain ⟨v, st₀, t, T', L, h0, X', hL, e1, e2, ⟨⟨r, es', hv, hp, hUz, hUP⟩, hF0, hF1, hF2⟩, st⟩ := hr H locs ls hz hP hS hl.1 T hT X
  cases hv
  rw [h0] at hF0 hF1 hF2
  have hzH := hw_size X hT hz hP hS C.2.2.2.2.2.2.2.2.2.1
  have hS' : va_S (fun q => b ≤ q) s.heap T'.heap (locs ++ L) := ⟨Nat.le_trans hS.1 (by rw [e1]; exact hF1), fun q h1 h2 => by rw [e1, hF2 q (Nat.lt_of_lt_of_le h1 hS.1) h2]; exact hS.2.1 q h1 h2, fun q hq => by
    rcases List.mem_append.mp hq with h | h
    · exact hS.2.2 q h
    · exact hL q h⟩
  have hz' : es'.length = es.length + mc := by omega
  obtain ⟨t2, a1, b1⟩ := K v es' hp hz' T'.heap (locs ++ L) ls (by omega) (by rw [e1]; exact hUP) hS' hl T' rfl X'
  exact ⟨t2, st t2 a1, b1⟩
end V2
end
section
/-- a callee: its code, how many arguments -/
def WM (y : MethodName) (bytes : ByteArray) (maxL : Nat) (rt : Option FieldType) (k : Nat) : Prop := Cond.code y bytes maxL rt ∈ lw_g ∧ Cond.initialized y.cls ∈ lw_g ∧ y.cls ≠ "java/lang/invoke/MethodHandle" ∧ y.cls ≠ "java/lang/invoke/VarHandle" ∧ (parseMethodDescriptor y.desc).map (fun d => d.parameters.length) = some k
theorem gdc {y : MethodName} {bytes : ByteArray} {maxL k : Nat} {rt : Option FieldType} (h : WM y bytes maxL rt k) : GoodIn lw_g (Cond.code y bytes maxL rt :: lw_g) := gd_code h.1
section V3
variable {p : Program} {l : Launch} {e : Env} {R : Room} {s : State} {m : MethodId} {args : Array Value} {below : List Frame} {meth : Method} {c : Code} {D : va_G} {b nL : Nat} {Q : State → Prop} {cells slots : Nat} {es : List va_E} {lv : List (Nat × Value)} {rest st0 : List Value} {pc n : Nat} {cc : ByteArray} {own nm : String} {ret : Option FieldType}
variable {y : MethodName} {bytes : ByteArray} {maxL fr lo mc ms k idx : Nat} {rt : Option FieldType} {As : List Value} {Post : Option Value → List va_E → Prop}
theorem vU_pre {H : Heap} {locs : List Loc} {av : List Value} {T : State} (C : vC p s m args meth c cc nL own nm ret D b) (X : Stand p l e R s m args below meth c T locs cells slots) (hT : T.heap = H) (hz : s.heap.size + cells = b + es.length) (hP : va_P D vwCl (hw b es) H) (hS : va_S (fun q => b ≤ q) s.heap H locs) : ∀ U : State, U.heap = H → s.WarmedH U.vm → va_Pc av (vU D b es) av.toArray U := fun U hU hW =>
  ⟨rfl, by rw [hU]; exact hw_size X hT hz hP hS C.2.2.2.2.2.2.2.2.2.1, by rw [hU]; exact hP, va_K.moved hW.alike C.2.2.2.2.2.1, vT_to hW (fun a h1 h2 => by rw [hU]; exact hS.2.1 a h1 h2) C.2.2.2.2.2.2.2.2.2.2⟩
theorem v_recv {H : Heap} {j ci : Nat} {fs : List Value} {Cn : String} {T : u_T} {N : Nat} (C : vC p s m args meth c cc nL own nm ret D b) (hP : va_P D vwCl (hw b es) H) (he : es[j]? = some (.inr (ci, fs))) (hc : vwCl[ci]? = some (Cn, T, N)) : ∃ cellB : Cell, H[b + j]? = some cellB ∧ cellB.vm.isStatics = false ∧ s.vm.findClass Cn = some cellB.cls :=
  va_recv (ci := ci) (q0 := j) C.2.2.2.2.2.1 hP hc (hw_get he)

theorem vRun_S (C : vC p s m args meth c cc nL own nm ret D b) (hlink : Cond.methodLink own idx y ∈ lw_g) (hstat : Cond.static y ∈ lw_g) (hdg : decode cc pc = .ok (.invokestatic idx, 3)) (hM : Con l y bytes maxL rt fr lo D b mc ms es As Post) (hw1 : WM y bytes maxL rt k) (hk : As.length = k) (hst : st0 = As.reverse ++ rest) (hR : fr + 1 ≤ R.frames ∧ 8 + (maxL + 11) + lo ≤ R.locals) (hf : cells + mc ≤ R.cells ∧ slots + ms ≤ R.slots) (hW : (rest.map fun v => v.category).sum ≤ 8) : vRun p l e R s m args below meth c D b nL cells slots es rest st0 pc mc ms Post := by
  subst hst
  intro H locs ls hz hP hS hls T hT X
  exact va_runS ⟨C.1, C.2.1, C.2.2.1, C.2.2.2.1, C.2.2.2.2.1⟩ hM ⟨(callB_of k C.2.2.2.2.1 (gdc hw1) rfl rfl rfl (C.2.2.2.2.1 _ hw1.2.1) (C.2.2.2.2.1 _ hlink) hw1.2.2 hR), C.2.2.2.2.1 _ hstat⟩ ⟨vU_blind, vU_pre C X hT hz hP hS⟩ rfl hk hls rfl (lv_room hW) hdg hf T hT X
theorem vRun_SN (C : vC p s m args meth c cc nL own nm ret D b) (hlink : (own, idx, y) ∈ nestK) (hstat : Cond.static y ∈ lw_g) (hdg : decode cc pc = .ok (.invokestatic idx, 3)) (hM : Con l y bytes maxL rt fr lo D b mc ms es As Post) (hw1 : WM y bytes maxL rt k) (hk : As.length = k) (hst : st0 = As.reverse ++ rest) (hR : fr + 1 ≤ R.frames ∧ 8 + (maxL + 11) + lo ≤ R.locals) (hf : cells + mc ≤ R.cells ∧ slots + ms ≤ R.slots) (hW : (rest.map fun v => v.category).sum ≤ 8) : vRun p l e R s m args below meth c D b nL cells slots es rest st0 pc mc ms Post := by
  subst hst
  intro H locs ls hz hP hS hls T hT X
  exact va_runSN ⟨C.1, C.2.1, C.2.2.1, C.2.2.2.1, C.2.2.2.2.1⟩ hM ⟨(va_cnB k C.2.2.2.2.1 (gdc hw1) rfl rfl rfl (C.2.2.2.2.2.2.2.2.2.2.2.2.1 _ hlink) (C.2.2.2.2.1 _ hw1.2.1) hw1.2.2 hR), C.2.2.2.2.1 _ hstat, trivial⟩ ⟨vU_blind, vU_pre C X hT hz hP hS⟩ rfl hk hls rfl (lv_room hW) hdg hf T hT X
theorem vRun_V (C : vC p s m args meth c cc nL own nm ret D b) {j ci N : Nat} {fs : List Value} {Cn : String} {T : u_T} (he : es[j]? = some (.inr (ci, fs))) (hc : vwCl[ci]? = some (Cn, T, N)) (hlink : Cond.methodLink own idx y ∈ lw_g) (hinst : Cond.instanceMethod y ∈ lw_g) (hsel : Cond.selects Cn y y ∈ lw_g) (hdg : decode cc pc = .ok (.invokevirtual idx, 3)) (hM : Con l y bytes maxL rt fr lo D b mc ms es (.ref (b + j) :: As) Post) (hw1 : WM y bytes maxL rt k) (hk : As.length = k) (hst : st0 = As.reverse ++ .ref (b + j) :: rest) (hR : fr + 1 ≤ R.frames ∧ 8 + (maxL + 11) + lo ≤ R.locals) (hf : cells + mc ≤ R.cells ∧ slots + ms ≤ R.slots) (hW : (rest.map fun v => v.category).sum ≤ 8) : vRun p l e R s m args below meth c D b nL cells slots es rest st0 pc mc ms Post := by
  subst hst
  intro H locs ls hz hP hS hls T hT X
  exact va_runV ⟨C.1, C.2.1, C.2.2.1, C.2.2.2.1, C.2.2.2.2.1⟩ hM ⟨(callB_of k C.2.2.2.2.1 (gdc hw1) rfl rfl rfl (C.2.2.2.2.1 _ hw1.2.1) (C.2.2.2.2.1 _ hlink) hw1.2.2 hR), C.2.2.2.2.1 _ hinst, C.2.2.2.2.1 _ hsel⟩ ⟨vU_blind, v_recv C hP he hc, vU_pre C X hT hz hP hS⟩ rfl hk hls rfl (lv_room hW) hdg hf T hT X
theorem vRun_I (C : vC p s m args meth c cc nL own nm ret D b) {j : Nat} (hy1 : y.name = "<init>") (hlink : Cond.methodLink own idx y ∈ lw_g) (hinst : Cond.instanceMethod y ∈ lw_g) (hdg : decode cc pc = .ok (.invokespecial idx, 3)) (hM : Con l y bytes maxL none fr lo D b mc ms es (.ref (b + j) :: As) Post) (hw1 : WM y bytes maxL none k) (hk : As.length = k) (hst : st0 = As.reverse ++ .ref (b + j) :: rest) (hR : fr + 1 ≤ R.frames ∧ 8 + (maxL + 11) + lo ≤ R.locals) (hf : cells + mc ≤ R.cells ∧ slots + ms ≤ R.slots) (hW : (rest.map fun v => v.category).sum ≤ 8) : vRun p l e R s m args below meth c D b nL cells slots es rest st0 pc mc ms Post := by
  subst hst
  intro H locs ls hz hP hS hls T hT X
  exact va_runI ⟨C.1, C.2.1, C.2.2.1, C.2.2.2.1, C.2.2.2.2.1⟩ hM ⟨(callB_of k C.2.2.2.2.1 (gdc hw1) rfl rfl rfl (C.2.2.2.2.1 _ hw1.2.1) (C.2.2.2.2.1 _ hlink) hw1.2.2 hR), hy1, C.2.2.2.2.1 _ hinst⟩ ⟨vU_blind, vU_pre C X hT hz hP hS⟩ rfl hk hls rfl (lv_room hW) hdg hf T hT X
theorem vRun_IN (C : vC p s m args meth c cc nL own nm ret D b) {j : Nat} (hy1 : y.name = "<init>") (hlink : (own, idx, y) ∈ nestK) (hinst : Cond.instanceMethod y ∈ lw_g) (hdg : decode cc pc = .ok (.invokespecial idx, 3)) (hM : Con l y bytes maxL none fr lo D b mc ms es (.ref (b + j) :: As) Post) (hw1 : WM y bytes maxL none k) (hk : As.length = k) (hst : st0 = As.reverse ++ .ref (b + j) :: rest) (hR : fr + 1 ≤ R.frames ∧ 8 + (maxL + 11) + lo ≤ R.locals) (hf : cells + mc ≤ R.cells ∧ slots + ms ≤ R.slots) (hW : (rest.map fun v => v.category).sum ≤ 8) : vRun p l e R s m args below meth c D b nL cells slots es rest st0 pc mc ms Post := by
  subst hst
  intro H locs ls hz hP hS hls T hT X
  exact va_runIN ⟨C.1, C.2.1, C.2.2.1, C.2.2.2.1, C.2.2.2.2.1⟩ hM ⟨(va_cnB k C.2.2.2.2.1 (gdc hw1) rfl rfl rfl (C.2.2.2.2.2.2.2.2.2.2.2.2.1 _ hlink) (C.2.2.2.2.1 _ hw1.2.1) hw1.2.2 hR), hy1, C.2.2.2.2.1 _ hinst⟩ ⟨vU_blind, vU_pre C X hT hz hP hS⟩ rfl hk hls rfl (lv_room hW) hdg hf T hT X
theorem vRun_U (C : vC p s m args meth c cc nL own nm ret D b) {x : MethodName} {owner : String} {j ci N : Nat} {fs : List Value} {Cn : String} {T : u_T} (he : es[j]? = some (.inr (ci, fs))) (hc : vwCl[ci]? = some (Cn, T, N)) (hws : ∀ w ∈ ([.methodLink own idx x, .sameMethod x.cls owner x.name x.desc, .selects Cn x y, .instanceMethod y, .initialized y.cls] : List Cond), w ∈ lw_g) (hyx : y = ⟨owner, x.name, x.desc⟩) (hd : owner ≠ "java/lang/invoke/MethodHandle" ∧ owner ≠ "java/lang/invoke/VarHandle" ∧ (parseMethodDescriptor x.desc).map (fun d => d.parameters.length) = some k) (hdg : decode cc pc = .ok (.invokevirtual idx, 3)) (hM : Con l y bytes maxL rt fr lo D b mc ms es (.ref (b + j) :: As) Post) (hw1 : WM y bytes maxL rt k) (hk : As.length = k) (hst : st0 = As.reverse ++ .ref (b + j) :: rest) (hR : fr + 1 ≤ R.frames ∧ 8 + (maxL + 11) + lo ≤ R.locals) (hf : cells + mc ≤ R.cells ∧ slots + ms ≤ R.slots) (hW : (rest.map fun v => v.category).sum ≤ 8) : vRun p l e R s m args below meth c D b nL cells slots es rest st0 pc mc ms Post := by
  subst hst
  intro H locs ls hz hP hS hls T hT X
  exact va_runU ⟨C.1, C.2.1, C.2.2.1, C.2.2.2.1, C.2.2.2.2.1⟩ hM (va_cwU (C := Cn) (owner := owner) (x := x) k C.2.2.2.2.1 (show GoodIn lw_g (va_wsU own idx Cn owner x y (Cond.code y bytes maxL rt :: lw_g)) from fun w hw => (List.mem_append.mp hw).elim (fun h => gd hws w h) (fun h => gdc hw1 w h)) rfl rfl rfl hyx hd hR) ⟨vU_blind, v_recv C hP he hc, vU_pre C X hT hz hP hS⟩ rfl hk hls rfl (lv_room hW) hdg hf T hT X
theorem vRun_O (C : vC p s m args meth c cc nL own nm ret D b) {x : MethodName} {owner : String} {j ci N : Nat} {fs : List Value} {Cn : String} {T : u_T} (he : es[j]? = some (.inr (ci, fs))) (hc : vwCl[ci]? = some (Cn, T, N)) (hws : ∀ w ∈ ([.methodLink own idx x, .sameMethod x.cls owner x.name x.desc, .instanceMethod ⟨owner, x.name, x.desc⟩, .selects Cn x y, .instanceMethod y, .initialized y.cls] : List Cond), w ∈ lw_g) {b0 : ByteArray} {m0 : Nat} {r0 : Option FieldType} (h0 : Cond.code ⟨owner, x.name, x.desc⟩ b0 m0 r0 ∈ lw_g) (hd : owner ≠ "java/lang/invoke/MethodHandle" ∧ owner ≠ "java/lang/invoke/VarHandle" ∧ (parseMethodDescriptor x.desc).map (fun d => d.parameters.length) = some k) (hdg : decode cc pc = .ok (.invokevirtual idx, 3)) (hM : Con l y bytes maxL rt fr lo D b mc ms es (.ref (b + j) :: As) Post) (hw1 : WM y bytes maxL rt k) (hk : As.length = k) (hst : st0 = As.reverse ++ .ref (b + j) :: rest) (hR : fr + 1 ≤ R.frames ∧ 8 + (maxL + 11) + lo ≤ R.locals) (hf : cells + mc ≤ R.cells ∧ slots + ms ≤ R.slots) (hW : (rest.map fun v => v.category).sum ≤ 8) : vRun p l e R s m args below meth c D b nL cells slots es rest st0 pc mc ms Post := by
  subst hst
  intro H locs ls hz hP hS hls T hT X
  exact va_runU ⟨C.1, C.2.1, C.2.2.1, C.2.2.2.1, C.2.2.2.2.1⟩ hM (va_cwO (C := Cn) (owner := owner) (x := x) k C.2.2.2.2.1 (show GoodIn lw_g (va_wsO own idx Cn owner x y (Cond.code y bytes maxL rt :: lw_g)) from fun w hw => (List.mem_append.mp hw).elim (fun h => gd hws w h) (fun h => gdc hw1 w h)) rfl rfl rfl h0 hd hR) ⟨vU_blind, v_recv C hP he hc, vU_pre C X hT hz hP hS⟩ rfl hk hls rfl (lv_room hW) hdg hf T hT X
end V3
end
section
theorem inTX0 : ∀ w ∈ u_ws RX0 TX0 2, w ∈ lw_g := fun w hw => gm (List.all_eq_true.mp (show (u_ws RX0 TX0 2).all (fun w => decide (w ∈ lw_tbl)) = true by decide +kernel) w hw |> of_decide_eq_true) (List.all_eq_true.mp (show (u_ws RX0 TX0 2).all goodWord = true by decide +kernel) w hw)
theorem inTX1 : ∀ w ∈ u_ws RX1 TX1 3, w ∈ lw_g := fun w hw => gm (List.all_eq_true.mp (show (u_ws RX1 TX1 3).all (fun w => decide (w ∈ lw_tbl)) = true by decide +kernel) w hw |> of_decide_eq_true) (List.all_eq_true.mp (show (u_ws RX1 TX1 3).all goodWord = true by decide +kernel) w hw)
theorem inTX2 : ∀ w ∈ u_ws RX2 TX2 3, w ∈ lw_g := fun w hw => gm (List.all_eq_true.mp (show (u_ws RX2 TX2 3).all (fun w => decide (w ∈ lw_tbl)) = true by decide +kernel) w hw |> of_decide_eq_true) (List.all_eq_true.mp (show (u_ws RX2 TX2 3).all goodWord = true by decide +kernel) w hw)
theorem inTX3 : ∀ w ∈ u_ws RX3 TX3 3, w ∈ lw_g := fun w hw => gm (List.all_eq_true.mp (show (u_ws RX3 TX3 3).all (fun w => decide (w ∈ lw_tbl)) = true by decide +kernel) w hw |> of_decide_eq_true) (List.all_eq_true.mp (show (u_ws RX3 TX3 3).all goodWord = true by decide +kernel) w hw)
theorem inTX4 : ∀ w ∈ u_ws RX4 TX4 3, w ∈ lw_g := fun w hw => gm (List.all_eq_true.mp (show (u_ws RX4 TX4 3).all (fun w => decide (w ∈ lw_tbl)) = true by decide +kernel) w hw |> of_decide_eq_true) (List.all_eq_true.mp (show (u_ws RX4 TX4 3).all goodWord = true by decide +kernel) w hw)
theorem inTX5 : ∀ w ∈ u_ws RX5 TX5 7, w ∈ lw_g := fun w hw => gm (List.all_eq_true.mp (show (u_ws RX5 TX5 7).all (fun w => decide (w ∈ lw_tbl)) = true by decide +kernel) w hw |> of_decide_eq_true) (List.all_eq_true.mp (show (u_ws RX5 TX5 7).all goodWord = true by decide +kernel) w hw)
theorem inTX6 : ∀ w ∈ u_ws RX6 TX6 4, w ∈ lw_g := fun w hw => gm (List.all_eq_true.mp (show (u_ws RX6 TX6 4).all (fun w => decide (w ∈ lw_tbl)) = true by decide +kernel) w hw |> of_decide_eq_true) (List.all_eq_true.mp (show (u_ws RX6 TX6 4).all goodWord = true by decide +kernel) w hw)
theorem inTX7 : ∀ w ∈ u_ws RX7 TX7 3, w ∈ lw_g := fun w hw => gm (List.all_eq_true.mp (show (u_ws RX7 TX7 3).all (fun w => decide (w ∈ lw_tbl)) = true by decide +kernel) w hw |> of_decide_eq_true) (List.all_eq_true.mp (show (u_ws RX7 TX7 3).all goodWord = true by decide +kernel) w hw)
theorem inTX8 : ∀ w ∈ u_ws RX8 TX8 6, w ∈ lw_g := fun w hw => gm (List.all_eq_true.mp (show (u_ws RX8 TX8 6).all (fun w => decide (w ∈ lw_tbl)) = true by decide +kernel) w hw |> of_decide_eq_true) (List.all_eq_true.mp (show (u_ws RX8 TX8 6).all goodWord = true by decide +kernel) w hw)
theorem inTX9 : ∀ w ∈ u_ws RX9 TX9 3, w ∈ lw_g := fun w hw => gm (List.all_eq_true.mp (show (u_ws RX9 TX9 3).all (fun w => decide (w ∈ lw_tbl)) = true by decide +kernel) w hw |> of_decide_eq_true) (List.all_eq_true.mp (show (u_ws RX9 TX9 3).all goodWord = true by decide +kernel) w hw)
theorem inTX10 : ∀ w ∈ u_ws RX10 TX10 3, w ∈ lw_g := fun w hw => gm (List.all_eq_true.mp (show (u_ws RX10 TX10 3).all (fun w => decide (w ∈ lw_tbl)) = true by decide +kernel) w hw |> of_decide_eq_true) (List.all_eq_true.mp (show (u_ws RX10 TX10 3).all goodWord = true by decide +kernel) w hw)
theorem inTX11 : ∀ w ∈ u_ws RX11 TX11 13, w ∈ lw_g := fun w hw => gm (List.all_eq_true.mp (show (u_ws RX11 TX11 13).all (fun w => decide (w ∈ lw_tbl)) = true by decide +kernel) w hw |> of_decide_eq_true) (List.all_eq_true.mp (show (u_ws RX11 TX11 13).all goodWord = true by decide +kernel) w hw)
theorem inTX12 : ∀ w ∈ u_ws RX12 TX12 28, w ∈ lw_g := fun w hw => gm (List.all_eq_true.mp (show (u_ws RX12 TX12 28).all (fun w => decide (w ∈ lw_tbl)) = true by decide +kernel) w hw |> of_decide_eq_true) (List.all_eq_true.mp (show (u_ws RX12 TX12 28).all goodWord = true by decide +kernel) w hw)
theorem fl_X8_27_X8 : FL RX8 27 8 0 := ⟨RX8, TX8, 6, "WheatSea$Seen", tyX8, rfl, inTX8, by decide, gmi 81 (by decide +kernel) (by decide +kernel), Or.inl rfl, tyX8_ok, nmX8⟩
theorem fl_X11_189_X8 : FL RX11 189 8 0 := ⟨RX8, TX8, 6, "WheatSea$Seen", tyX8, rfl, inTX8, by decide, gmi 82 (by decide +kernel) (by decide +kernel), Or.inl rfl, tyX8_ok, nmX8⟩
theorem fl_X8_9_X8 : FL RX8 9 8 1 := ⟨RX8, TX8, 6, "WheatSea$Seen", tyX8, rfl, inTX8, by decide, gmi 83 (by decide +kernel) (by decide +kernel), Or.inl rfl, tyX8_ok, nmX8⟩
theorem fl_X8_15_X8 : FL RX8 15 8 2 := ⟨RX8, TX8, 6, "WheatSea$Seen", tyX8, rfl, inTX8, by decide, gmi 84 (by decide +kernel) (by decide +kernel), Or.inl rfl, tyX8_ok, nmX8⟩
theorem fl_X8_18_X8 : FL RX8 18 8 3 := ⟨RX8, TX8, 6, "WheatSea$Seen", tyX8, rfl, inTX8, by decide, gmi 85 (by decide +kernel) (by decide +kernel), Or.inl rfl, tyX8_ok, nmX8⟩
theorem fl_X8_21_X8 : FL RX8 21 8 4 := ⟨RX8, TX8, 6, "WheatSea$Seen", tyX8, rfl, inTX8, by decide, gmi 86 (by decide +kernel) (by decide +kernel), Or.inl rfl, tyX8_ok, nmX8⟩
theorem fl_X8_24_X8 : FL RX8 24 8 5 := ⟨RX8, TX8, 6, "WheatSea$Seen", tyX8, rfl, inTX8, by decide, gmi 87 (by decide +kernel) (by decide +kernel), Or.inl rfl, tyX8_ok, nmX8⟩
theorem fl_X5_25_X5 : FL RX5 25 5 0 := ⟨RX5, TX5, 7, "WheatSea$Image", tyX5, rfl, inTX5, by decide, gmi 110 (by decide +kernel) (by decide +kernel), Or.inl rfl, tyX5_ok, nmX5⟩
theorem fl_X11_224_X5 : FL RX11 224 5 0 := ⟨RX5, TX5, 7, "WheatSea$Image", tyX5, rfl, inTX5, by decide, gmi 111 (by decide +kernel) (by decide +kernel), Or.inl rfl, tyX5_ok, nmX5⟩
theorem fl_X5_29_X5 : FL RX5 29 5 1 := ⟨RX5, TX5, 7, "WheatSea$Image", tyX5, rfl, inTX5, by decide, gmi 112 (by decide +kernel) (by decide +kernel), Or.inl rfl, tyX5_ok, nmX5⟩
theorem fl_X11_232_X5 : FL RX11 232 5 1 := ⟨RX5, TX5, 7, "WheatSea$Image", tyX5, rfl, inTX5, by decide, gmi 113 (by decide +kernel) (by decide +kernel), Or.inl rfl, tyX5_ok, nmX5⟩
theorem fl_X11_217_X5 : FL RX11 217 5 2 := ⟨RX5, TX5, 7, "WheatSea$Image", tyX5, rfl, inTX5, by decide, gmi 114 (by decide +kernel) (by decide +kernel), Or.inl rfl, tyX5_ok, nmX5⟩
theorem fl_X11_218_X5 : FL RX11 218 5 3 := ⟨RX5, TX5, 7, "WheatSea$Image", tyX5, rfl, inTX5, by decide, gmi 115 (by decide +kernel) (by decide +kernel), Or.inl rfl, tyX5_ok, nmX5⟩
theorem fl_X5_12_X5 : FL RX5 12 5 4 := ⟨RX5, TX5, 7, "WheatSea$Image", tyX5, rfl, inTX5, by decide, gmi 116 (by decide +kernel) (by decide +kernel), Or.inl rfl, tyX5_ok, nmX5⟩
theorem fl_X11_219_X5 : FL RX11 219 5 4 := ⟨RX5, TX5, 7, "WheatSea$Image", tyX5, rfl, inTX5, by decide, gmi 117 (by decide +kernel) (by decide +kernel), Or.inl rfl, tyX5_ok, nmX5⟩
theorem fl_X5_18_X5 : FL RX5 18 5 5 := ⟨RX5, TX5, 7, "WheatSea$Image", tyX5, rfl, inTX5, by decide, gmi 118 (by decide +kernel) (by decide +kernel), Or.inl rfl, tyX5_ok, nmX5⟩
theorem fl_X5_22_X5 : FL RX5 22 5 6 := ⟨RX5, TX5, 7, "WheatSea$Image", tyX5, rfl, inTX5, by decide, gmi 119 (by decide +kernel) (by decide +kernel), Or.inl rfl, tyX5_ok, nmX5⟩
theorem fl_X0_9_X0 : FL RX0 9 0 0 := ⟨RX0, TX0, 2, "WheatSea$Chart", tyX0, rfl, inTX0, by decide, gmi 141 (by decide +kernel) (by decide +kernel), Or.inl rfl, tyX0_ok, nmX0⟩
theorem fl_X0_15_X0 : FL RX0 15 0 1 := ⟨RX0, TX0, 2, "WheatSea$Chart", tyX0, rfl, inTX0, by decide, gmi 142 (by decide +kernel) (by decide +kernel), Or.inl rfl, tyX0_ok, nmX0⟩
theorem fl_X3_9_X3 : FL RX3 9 3 0 := ⟨RX3, TX3, 3, "WheatSea$Homecoming", tyX3, rfl, inTX3, by decide, gmi 154 (by decide +kernel) (by decide +kernel), Or.inl rfl, tyX3_ok, nmX3⟩
theorem fl_X11_181_X3 : FL RX11 181 3 0 := ⟨RX3, TX3, 3, "WheatSea$Homecoming", tyX3, rfl, inTX3, by decide, gmi 155 (by decide +kernel) (by decide +kernel), Or.inl rfl, tyX3_ok, nmX3⟩
theorem fl_X3_15_X3 : FL RX3 15 3 1 := ⟨RX3, TX3, 3, "WheatSea$Homecoming", tyX3, rfl, inTX3, by decide, gmi 156 (by decide +kernel) (by decide +kernel), Or.inl rfl, tyX3_ok, nmX3⟩
theorem fl_X11_184_X3 : FL RX11 184 3 1 := ⟨RX3, TX3, 3, "WheatSea$Homecoming", tyX3, rfl, inTX3, by decide, gmi 157 (by decide +kernel) (by decide +kernel), Or.inl rfl, tyX3_ok, nmX3⟩
theorem fl_X3_18_X3 : FL RX3 18 3 2 := ⟨RX3, TX3, 3, "WheatSea$Homecoming", tyX3, rfl, inTX3, by decide, gmi 158 (by decide +kernel) (by decide +kernel), Or.inl rfl, tyX3_ok, nmX3⟩
theorem fl_X6_9_X6 : FL RX6 9 6 0 := ⟨RX6, TX6, 4, "WheatSea$June", tyX6, rfl, inTX6, by decide, gmi 172 (by decide +kernel) (by decide +kernel), Or.inl rfl, tyX6_ok, nmX6⟩
theorem fl_X6_15_X6 : FL RX6 15 6 1 := ⟨RX6, TX6, 4, "WheatSea$June", tyX6, rfl, inTX6, by decide, gmi 173 (by decide +kernel) (by decide +kernel), Or.inl rfl, tyX6_ok, nmX6⟩
theorem fl_X11_209_X6 : FL RX11 209 6 1 := ⟨RX6, TX6, 4, "WheatSea$June", tyX6, rfl, inTX6, by decide, gmi 174 (by decide +kernel) (by decide +kernel), Or.inl rfl, tyX6_ok, nmX6⟩
theorem fl_X6_19_X6 : FL RX6 19 6 2 := ⟨RX6, TX6, 4, "WheatSea$June", tyX6, rfl, inTX6, by decide, gmi 175 (by decide +kernel) (by decide +kernel), Or.inl rfl, tyX6_ok, nmX6⟩
theorem fl_X11_210_X6 : FL RX11 210 6 2 := ⟨RX6, TX6, 4, "WheatSea$June", tyX6, rfl, inTX6, by decide, gmi 176 (by decide +kernel) (by decide +kernel), Or.inl rfl, tyX6_ok, nmX6⟩
theorem fl_X6_22_X6 : FL RX6 22 6 3 := ⟨RX6, TX6, 4, "WheatSea$June", tyX6, rfl, inTX6, by decide, gmi 177 (by decide +kernel) (by decide +kernel), Or.inl rfl, tyX6_ok, nmX6⟩
theorem fl_X11_202_X6 : FL RX11 202 6 3 := ⟨RX6, TX6, 4, "WheatSea$June", tyX6, rfl, inTX6, by decide, gmi 178 (by decide +kernel) (by decide +kernel), Or.inl rfl, tyX6_ok, nmX6⟩
theorem fl_X7_15_X7 : FL RX7 15 7 0 := ⟨RX7, TX7, 3, "WheatSea$Sea", tyX7, rfl, inTX7, by decide, gmi 194 (by decide +kernel) (by decide +kernel), Or.inl rfl, tyX7_ok, nmX7⟩
theorem fl_X7_19_X7 : FL RX7 19 7 1 := ⟨RX7, TX7, 3, "WheatSea$Sea", tyX7, rfl, inTX7, by decide, gmi 195 (by decide +kernel) (by decide +kernel), Or.inl rfl, tyX7_ok, nmX7⟩
theorem fl_X11_96_X7 : FL RX11 96 7 1 := ⟨RX7, TX7, 3, "WheatSea$Sea", tyX7, rfl, inTX7, by decide, gmi 196 (by decide +kernel) (by decide +kernel), Or.inl rfl, tyX7_ok, nmX7⟩
theorem fl_X7_9_X7 : FL RX7 9 7 2 := ⟨RX7, TX7, 3, "WheatSea$Sea", tyX7, rfl, inTX7, by decide, gmi 197 (by decide +kernel) (by decide +kernel), Or.inl rfl, tyX7_ok, nmX7⟩
theorem fl_X6_34_X7 : FL RX6 34 7 2 := ⟨RX7, TX7, 3, "WheatSea$Sea", tyX7, rfl, inTX7, by decide, gmi 198 (by decide +kernel) (by decide +kernel), Or.inl rfl, tyX7_ok, nmX7⟩
theorem fl_X11_123_X7 : FL RX11 123 7 2 := ⟨RX7, TX7, 3, "WheatSea$Sea", tyX7, rfl, inTX7, by decide, gmi 199 (by decide +kernel) (by decide +kernel), Or.inl rfl, tyX7_ok, nmX7⟩
theorem fl_X11_9_X11 : FL RX11 9 11 0 := ⟨RX11, TX11, 13, "WheatSea", tyX11, rfl, inTX11, by decide, gmi 207 (by decide +kernel) (by decide +kernel), Or.inl rfl, tyX11_ok, nmX11⟩
theorem fl_X11_66_X11 : FL RX11 66 11 1 := ⟨RX11, TX11, 13, "WheatSea", tyX11, rfl, inTX11, by decide, gmi 208 (by decide +kernel) (by decide +kernel), Or.inl rfl, tyX11_ok, nmX11⟩
theorem fl_X11_99_X11 : FL RX11 99 11 2 := ⟨RX11, TX11, 13, "WheatSea", tyX11, rfl, inTX11, by decide, gmi 209 (by decide +kernel) (by decide +kernel), Or.inl rfl, tyX11_ok, nmX11⟩
theorem fl_X11_59_X11 : FL RX11 59 11 3 := ⟨RX11, TX11, 13, "WheatSea", tyX11, rfl, inTX11, by decide, gmi 210 (by decide +kernel) (by decide +kernel), Or.inl rfl, tyX11_ok, nmX11⟩
theorem fl_X11_63_X11 : FL RX11 63 11 4 := ⟨RX11, TX11, 13, "WheatSea", tyX11, rfl, inTX11, by decide, gmi 211 (by decide +kernel) (by decide +kernel), Or.inl rfl, tyX11_ok, nmX11⟩
theorem fl_X11_15_X11 : FL RX11 15 11 5 := ⟨RX11, TX11, 13, "WheatSea", tyX11, rfl, inTX11, by decide, gmi 212 (by decide +kernel) (by decide +kernel), Or.inl rfl, tyX11_ok, nmX11⟩
theorem fl_X11_126_X11 : FL RX11 126 11 6 := ⟨RX11, TX11, 13, "WheatSea", tyX11, rfl, inTX11, by decide, gmi 213 (by decide +kernel) (by decide +kernel), Or.inl rfl, tyX11_ok, nmX11⟩
theorem fl_X11_106_X11 : FL RX11 106 11 7 := ⟨RX11, TX11, 13, "WheatSea", tyX11, rfl, inTX11, by decide, gmi 214 (by decide +kernel) (by decide +kernel), Or.inl rfl, tyX11_ok, nmX11⟩
theorem fl_X11_22_X11 : FL RX11 22 11 8 := ⟨RX11, TX11, 13, "WheatSea", tyX11, rfl, inTX11, by decide, gmi 215 (by decide +kernel) (by decide +kernel), Or.inl rfl, tyX11_ok, nmX11⟩
theorem fl_X11_29_X11 : FL RX11 29 11 9 := ⟨RX11, TX11, 13, "WheatSea", tyX11, rfl, inTX11, by decide, gmi 216 (by decide +kernel) (by decide +kernel), Or.inl rfl, tyX11_ok, nmX11⟩
theorem fl_X11_36_X11 : FL RX11 36 11 10 := ⟨RX11, TX11, 13, "WheatSea", tyX11, rfl, inTX11, by decide, gmi 217 (by decide +kernel) (by decide +kernel), Or.inl rfl, tyX11_ok, nmX11⟩
theorem fl_X11_43_X11 : FL RX11 43 11 11 := ⟨RX11, TX11, 13, "WheatSea", tyX11, rfl, inTX11, by decide, gmi 218 (by decide +kernel) (by decide +kernel), Or.inl rfl, tyX11_ok, nmX11⟩
theorem fl_X11_50_X11 : FL RX11 50 11 12 := ⟨RX11, TX11, 13, "WheatSea", tyX11, rfl, inTX11, by decide, gmi 219 (by decide +kernel) (by decide +kernel), Or.inl rfl, tyX11_ok, nmX11⟩
theorem fl_X4_9_X1 : FL RX4 9 1 0 := ⟨RX1, TX1, 3, "WheatSea$Hull", tyX1, rfl, inTX1, by decide, gmi 380 (by decide +kernel) (by decide +kernel), Or.inl rfl, tyX1_ok, nmX1⟩
theorem fl_X4_9_X2 : FL RX4 9 2 0 := ⟨RX2, TX2, 3, "WheatSea$Hull", tyX2, rfl, inTX2, by decide, gmi 380 (by decide +kernel) (by decide +kernel), Or.inl rfl, tyX2_ok, nmX2⟩
theorem fl_X4_9_X4 : FL RX4 9 4 0 := ⟨RX4, TX4, 3, "WheatSea$Hull", tyX4, rfl, inTX4, by decide, gmi 380 (by decide +kernel) (by decide +kernel), Or.inl rfl, tyX4_ok, nmX4⟩
theorem fl_X4_9_X9 : FL RX4 9 9 0 := ⟨RX9, TX9, 3, "WheatSea$Hull", tyX9, rfl, inTX9, by decide, gmi 380 (by decide +kernel) (by decide +kernel), Or.inl rfl, tyX9_ok, nmX9⟩
theorem fl_X4_9_X10 : FL RX4 9 10 0 := ⟨RX10, TX10, 3, "WheatSea$Hull", tyX10, rfl, inTX10, by decide, gmi 380 (by decide +kernel) (by decide +kernel), Or.inl rfl, tyX10_ok, nmX10⟩
theorem fl_X10_7_X1 : FL RX10 7 1 0 := ⟨RX1, TX1, 3, "WheatSea$Sloop", tyX1, rfl, inTX1, by decide, gmi 381 (by decide +kernel) (by decide +kernel), Or.inr (gm (by decide +kernel) (by decide +kernel)), tyX1_ok, nmX1⟩
theorem fl_X10_7_X2 : FL RX10 7 2 0 := ⟨RX2, TX2, 3, "WheatSea$Sloop", tyX2, rfl, inTX2, by decide, gmi 381 (by decide +kernel) (by decide +kernel), Or.inr (gm (by decide +kernel) (by decide +kernel)), tyX2_ok, nmX2⟩
theorem fl_X10_7_X4 : FL RX10 7 4 0 := ⟨RX4, TX4, 3, "WheatSea$Sloop", tyX4, rfl, inTX4, by decide, gmi 381 (by decide +kernel) (by decide +kernel), Or.inr (gm (by decide +kernel) (by decide +kernel)), tyX4_ok, nmX4⟩
theorem fl_X10_7_X9 : FL RX10 7 9 0 := ⟨RX9, TX9, 3, "WheatSea$Sloop", tyX9, rfl, inTX9, by decide, gmi 381 (by decide +kernel) (by decide +kernel), Or.inr (gm (by decide +kernel) (by decide +kernel)), tyX9_ok, nmX9⟩
theorem fl_X10_7_X10 : FL RX10 7 10 0 := ⟨RX10, TX10, 3, "WheatSea$Sloop", tyX10, rfl, inTX10, by decide, gmi 381 (by decide +kernel) (by decide +kernel), Or.inr (gm (by decide +kernel) (by decide +kernel)), tyX10_ok, nmX10⟩
theorem fl_X11_140_X1 : FL RX11 140 1 0 := ⟨RX1, TX1, 3, "WheatSea$Hull", tyX1, rfl, inTX1, by decide, gmi 383 (by decide +kernel) (by decide +kernel), Or.inl rfl, tyX1_ok, nmX1⟩
theorem fl_X11_140_X2 : FL RX11 140 2 0 := ⟨RX2, TX2, 3, "WheatSea$Hull", tyX2, rfl, inTX2, by decide, gmi 383 (by decide +kernel) (by decide +kernel), Or.inl rfl, tyX2_ok, nmX2⟩
theorem fl_X11_140_X4 : FL RX11 140 4 0 := ⟨RX4, TX4, 3, "WheatSea$Hull", tyX4, rfl, inTX4, by decide, gmi 383 (by decide +kernel) (by decide +kernel), Or.inl rfl, tyX4_ok, nmX4⟩
theorem fl_X11_140_X9 : FL RX11 140 9 0 := ⟨RX9, TX9, 3, "WheatSea$Hull", tyX9, rfl, inTX9, by decide, gmi 383 (by decide +kernel) (by decide +kernel), Or.inl rfl, tyX9_ok, nmX9⟩
theorem fl_X11_140_X10 : FL RX11 140 10 0 := ⟨RX10, TX10, 3, "WheatSea$Hull", tyX10, rfl, inTX10, by decide, gmi 383 (by decide +kernel) (by decide +kernel), Or.inl rfl, tyX10_ok, nmX10⟩
theorem fl_X4_15_X1 : FL RX4 15 1 1 := ⟨RX1, TX1, 3, "WheatSea$Hull", tyX1, rfl, inTX1, by decide, gmi 384 (by decide +kernel) (by decide +kernel), Or.inl rfl, tyX1_ok, nmX1⟩
theorem fl_X4_15_X2 : FL RX4 15 2 1 := ⟨RX2, TX2, 3, "WheatSea$Hull", tyX2, rfl, inTX2, by decide, gmi 384 (by decide +kernel) (by decide +kernel), Or.inl rfl, tyX2_ok, nmX2⟩
theorem fl_X4_15_X4 : FL RX4 15 4 1 := ⟨RX4, TX4, 3, "WheatSea$Hull", tyX4, rfl, inTX4, by decide, gmi 384 (by decide +kernel) (by decide +kernel), Or.inl rfl, tyX4_ok, nmX4⟩
theorem fl_X4_15_X9 : FL RX4 15 9 1 := ⟨RX9, TX9, 3, "WheatSea$Hull", tyX9, rfl, inTX9, by decide, gmi 384 (by decide +kernel) (by decide +kernel), Or.inl rfl, tyX9_ok, nmX9⟩
theorem fl_X4_15_X10 : FL RX4 15 10 1 := ⟨RX10, TX10, 3, "WheatSea$Hull", tyX10, rfl, inTX10, by decide, gmi 384 (by decide +kernel) (by decide +kernel), Or.inl rfl, tyX10_ok, nmX10⟩
theorem fl_X5_33_X1 : FL RX5 33 1 1 := ⟨RX1, TX1, 3, "WheatSea$Hull", tyX1, rfl, inTX1, by decide, gmi 385 (by decide +kernel) (by decide +kernel), Or.inl rfl, tyX1_ok, nmX1⟩
theorem fl_X5_33_X2 : FL RX5 33 2 1 := ⟨RX2, TX2, 3, "WheatSea$Hull", tyX2, rfl, inTX2, by decide, gmi 385 (by decide +kernel) (by decide +kernel), Or.inl rfl, tyX2_ok, nmX2⟩
theorem fl_X5_33_X4 : FL RX5 33 4 1 := ⟨RX4, TX4, 3, "WheatSea$Hull", tyX4, rfl, inTX4, by decide, gmi 385 (by decide +kernel) (by decide +kernel), Or.inl rfl, tyX4_ok, nmX4⟩
theorem fl_X5_33_X9 : FL RX5 33 9 1 := ⟨RX9, TX9, 3, "WheatSea$Hull", tyX9, rfl, inTX9, by decide, gmi 385 (by decide +kernel) (by decide +kernel), Or.inl rfl, tyX9_ok, nmX9⟩
theorem fl_X5_33_X10 : FL RX5 33 10 1 := ⟨RX10, TX10, 3, "WheatSea$Hull", tyX10, rfl, inTX10, by decide, gmi 385 (by decide +kernel) (by decide +kernel), Or.inl rfl, tyX10_ok, nmX10⟩
theorem fl_X6_25_X1 : FL RX6 25 1 1 := ⟨RX1, TX1, 3, "WheatSea$Hull", tyX1, rfl, inTX1, by decide, gmi 386 (by decide +kernel) (by decide +kernel), Or.inl rfl, tyX1_ok, nmX1⟩
theorem fl_X6_25_X2 : FL RX6 25 2 1 := ⟨RX2, TX2, 3, "WheatSea$Hull", tyX2, rfl, inTX2, by decide, gmi 386 (by decide +kernel) (by decide +kernel), Or.inl rfl, tyX2_ok, nmX2⟩
theorem fl_X6_25_X4 : FL RX6 25 4 1 := ⟨RX4, TX4, 3, "WheatSea$Hull", tyX4, rfl, inTX4, by decide, gmi 386 (by decide +kernel) (by decide +kernel), Or.inl rfl, tyX4_ok, nmX4⟩
theorem fl_X6_25_X9 : FL RX6 25 9 1 := ⟨RX9, TX9, 3, "WheatSea$Hull", tyX9, rfl, inTX9, by decide, gmi 386 (by decide +kernel) (by decide +kernel), Or.inl rfl, tyX9_ok, nmX9⟩
theorem fl_X6_25_X10 : FL RX6 25 10 1 := ⟨RX10, TX10, 3, "WheatSea$Hull", tyX10, rfl, inTX10, by decide, gmi 386 (by decide +kernel) (by decide +kernel), Or.inl rfl, tyX10_ok, nmX10⟩
theorem fl_X3_29_X1 : FL RX3 29 1 1 := ⟨RX1, TX1, 3, "WheatSea$Hull", tyX1, rfl, inTX1, by decide, gmi 387 (by decide +kernel) (by decide +kernel), Or.inl rfl, tyX1_ok, nmX1⟩
theorem fl_X3_29_X2 : FL RX3 29 2 1 := ⟨RX2, TX2, 3, "WheatSea$Hull", tyX2, rfl, inTX2, by decide, gmi 387 (by decide +kernel) (by decide +kernel), Or.inl rfl, tyX2_ok, nmX2⟩
theorem fl_X3_29_X4 : FL RX3 29 4 1 := ⟨RX4, TX4, 3, "WheatSea$Hull", tyX4, rfl, inTX4, by decide, gmi 387 (by decide +kernel) (by decide +kernel), Or.inl rfl, tyX4_ok, nmX4⟩
theorem fl_X3_29_X9 : FL RX3 29 9 1 := ⟨RX9, TX9, 3, "WheatSea$Hull", tyX9, rfl, inTX9, by decide, gmi 387 (by decide +kernel) (by decide +kernel), Or.inl rfl, tyX9_ok, nmX9⟩
theorem fl_X3_29_X10 : FL RX3 29 10 1 := ⟨RX10, TX10, 3, "WheatSea$Hull", tyX10, rfl, inTX10, by decide, gmi 387 (by decide +kernel) (by decide +kernel), Or.inl rfl, tyX10_ok, nmX10⟩
theorem fl_X11_143_X1 : FL RX11 143 1 1 := ⟨RX1, TX1, 3, "WheatSea$Hull", tyX1, rfl, inTX1, by decide, gmi 388 (by decide +kernel) (by decide +kernel), Or.inl rfl, tyX1_ok, nmX1⟩
theorem fl_X11_143_X2 : FL RX11 143 2 1 := ⟨RX2, TX2, 3, "WheatSea$Hull", tyX2, rfl, inTX2, by decide, gmi 388 (by decide +kernel) (by decide +kernel), Or.inl rfl, tyX2_ok, nmX2⟩
theorem fl_X11_143_X4 : FL RX11 143 4 1 := ⟨RX4, TX4, 3, "WheatSea$Hull", tyX4, rfl, inTX4, by decide, gmi 388 (by decide +kernel) (by decide +kernel), Or.inl rfl, tyX4_ok, nmX4⟩
theorem fl_X11_143_X9 : FL RX11 143 9 1 := ⟨RX9, TX9, 3, "WheatSea$Hull", tyX9, rfl, inTX9, by decide, gmi 388 (by decide +kernel) (by decide +kernel), Or.inl rfl, tyX9_ok, nmX9⟩
theorem fl_X11_143_X10 : FL RX11 143 10 1 := ⟨RX10, TX10, 3, "WheatSea$Hull", tyX10, rfl, inTX10, by decide, gmi 388 (by decide +kernel) (by decide +kernel), Or.inl rfl, tyX10_ok, nmX10⟩
theorem fl_X5_38_X1 : FL RX5 38 1 2 := ⟨RX1, TX1, 3, "WheatSea$Hull", tyX1, rfl, inTX1, by decide, gmi 389 (by decide +kernel) (by decide +kernel), Or.inl rfl, tyX1_ok, nmX1⟩
theorem fl_X5_38_X2 : FL RX5 38 2 2 := ⟨RX2, TX2, 3, "WheatSea$Hull", tyX2, rfl, inTX2, by decide, gmi 389 (by decide +kernel) (by decide +kernel), Or.inl rfl, tyX2_ok, nmX2⟩
theorem fl_X5_38_X4 : FL RX5 38 4 2 := ⟨RX4, TX4, 3, "WheatSea$Hull", tyX4, rfl, inTX4, by decide, gmi 389 (by decide +kernel) (by decide +kernel), Or.inl rfl, tyX4_ok, nmX4⟩
theorem fl_X5_38_X9 : FL RX5 38 9 2 := ⟨RX9, TX9, 3, "WheatSea$Hull", tyX9, rfl, inTX9, by decide, gmi 389 (by decide +kernel) (by decide +kernel), Or.inl rfl, tyX9_ok, nmX9⟩
theorem fl_X5_38_X10 : FL RX5 38 10 2 := ⟨RX10, TX10, 3, "WheatSea$Hull", tyX10, rfl, inTX10, by decide, gmi 389 (by decide +kernel) (by decide +kernel), Or.inl rfl, tyX10_ok, nmX10⟩
theorem fl_X11_150_X1 : FL RX11 150 1 2 := ⟨RX1, TX1, 3, "WheatSea$Hull", tyX1, rfl, inTX1, by decide, gmi 390 (by decide +kernel) (by decide +kernel), Or.inl rfl, tyX1_ok, nmX1⟩
theorem fl_X11_150_X2 : FL RX11 150 2 2 := ⟨RX2, TX2, 3, "WheatSea$Hull", tyX2, rfl, inTX2, by decide, gmi 390 (by decide +kernel) (by decide +kernel), Or.inl rfl, tyX2_ok, nmX2⟩
theorem fl_X11_150_X4 : FL RX11 150 4 2 := ⟨RX4, TX4, 3, "WheatSea$Hull", tyX4, rfl, inTX4, by decide, gmi 390 (by decide +kernel) (by decide +kernel), Or.inl rfl, tyX4_ok, nmX4⟩
theorem fl_X11_150_X9 : FL RX11 150 9 2 := ⟨RX9, TX9, 3, "WheatSea$Hull", tyX9, rfl, inTX9, by decide, gmi 390 (by decide +kernel) (by decide +kernel), Or.inl rfl, tyX9_ok, nmX9⟩
theorem fl_X11_150_X10 : FL RX11 150 10 2 := ⟨RX10, TX10, 3, "WheatSea$Hull", tyX10, rfl, inTX10, by decide, gmi 390 (by decide +kernel) (by decide +kernel), Or.inl rfl, tyX10_ok, nmX10⟩
theorem fl_X12_7_X12 : FL RX12 7 12 0 := ⟨RX12, TX12, 28, "WheatSeaModel", tyX12, rfl, inTX12, by decide, gmi 745 (by decide +kernel) (by decide +kernel), Or.inl rfl, tyX12_ok, nmX12⟩
theorem fl_X12_59_X12 : FL RX12 59 12 1 := ⟨RX12, TX12, 28, "WheatSeaModel", tyX12, rfl, inTX12, by decide, gmi 746 (by decide +kernel) (by decide +kernel), Or.inl rfl, tyX12_ok, nmX12⟩
theorem fl_X12_72_X12 : FL RX12 72 12 2 := ⟨RX12, TX12, 28, "WheatSeaModel", tyX12, rfl, inTX12, by decide, gmi 747 (by decide +kernel) (by decide +kernel), Or.inl rfl, tyX12_ok, nmX12⟩
theorem fl_X12_75_X12 : FL RX12 75 12 3 := ⟨RX12, TX12, 28, "WheatSeaModel", tyX12, rfl, inTX12, by decide, gmi 748 (by decide +kernel) (by decide +kernel), Or.inl rfl, tyX12_ok, nmX12⟩
theorem fl_X12_50_X12 : FL RX12 50 12 4 := ⟨RX12, TX12, 28, "WheatSeaModel", tyX12, rfl, inTX12, by decide, gmi 749 (by decide +kernel) (by decide +kernel), Or.inl rfl, tyX12_ok, nmX12⟩
theorem fl_X12_84_X12 : FL RX12 84 12 5 := ⟨RX12, TX12, 28, "WheatSeaModel", tyX12, rfl, inTX12, by decide, gmi 750 (by decide +kernel) (by decide +kernel), Or.inl rfl, tyX12_ok, nmX12⟩
theorem fl_X12_13_X12 : FL RX12 13 12 6 := ⟨RX12, TX12, 28, "WheatSeaModel", tyX12, rfl, inTX12, by decide, gmi 751 (by decide +kernel) (by decide +kernel), Or.inl rfl, tyX12_ok, nmX12⟩
theorem fl_X12_78_X12 : FL RX12 78 12 7 := ⟨RX12, TX12, 28, "WheatSeaModel", tyX12, rfl, inTX12, by decide, gmi 752 (by decide +kernel) (by decide +kernel), Or.inl rfl, tyX12_ok, nmX12⟩
theorem fl_X12_16_X12 : FL RX12 16 12 8 := ⟨RX12, TX12, 28, "WheatSeaModel", tyX12, rfl, inTX12, by decide, gmi 753 (by decide +kernel) (by decide +kernel), Or.inl rfl, tyX12_ok, nmX12⟩
theorem fl_X12_19_X12 : FL RX12 19 12 9 := ⟨RX12, TX12, 28, "WheatSeaModel", tyX12, rfl, inTX12, by decide, gmi 754 (by decide +kernel) (by decide +kernel), Or.inl rfl, tyX12_ok, nmX12⟩
theorem fl_X12_22_X12 : FL RX12 22 12 10 := ⟨RX12, TX12, 28, "WheatSeaModel", tyX12, rfl, inTX12, by decide, gmi 755 (by decide +kernel) (by decide +kernel), Or.inl rfl, tyX12_ok, nmX12⟩
theorem fl_X12_25_X12 : FL RX12 25 12 11 := ⟨RX12, TX12, 28, "WheatSeaModel", tyX12, rfl, inTX12, by decide, gmi 756 (by decide +kernel) (by decide +kernel), Or.inl rfl, tyX12_ok, nmX12⟩
theorem fl_X12_28_X12 : FL RX12 28 12 12 := ⟨RX12, TX12, 28, "WheatSeaModel", tyX12, rfl, inTX12, by decide, gmi 757 (by decide +kernel) (by decide +kernel), Or.inl rfl, tyX12_ok, nmX12⟩
theorem fl_X12_151_X12 : FL RX12 151 12 13 := ⟨RX12, TX12, 28, "WheatSeaModel", tyX12, rfl, inTX12, by decide, gmi 758 (by decide +kernel) (by decide +kernel), Or.inl rfl, tyX12_ok, nmX12⟩
theorem fl_X12_154_X12 : FL RX12 154 12 14 := ⟨RX12, TX12, 28, "WheatSeaModel", tyX12, rfl, inTX12, by decide, gmi 759 (by decide +kernel) (by decide +kernel), Or.inl rfl, tyX12_ok, nmX12⟩
theorem fl_X12_81_X12 : FL RX12 81 12 15 := ⟨RX12, TX12, 28, "WheatSeaModel", tyX12, rfl, inTX12, by decide, gmi 760 (by decide +kernel) (by decide +kernel), Or.inl rfl, tyX12_ok, nmX12⟩
theorem fl_X12_31_X12 : FL RX12 31 12 16 := ⟨RX12, TX12, 28, "WheatSeaModel", tyX12, rfl, inTX12, by decide, gmi 761 (by decide +kernel) (by decide +kernel), Or.inl rfl, tyX12_ok, nmX12⟩
theorem fl_X12_34_X12 : FL RX12 34 12 17 := ⟨RX12, TX12, 28, "WheatSeaModel", tyX12, rfl, inTX12, by decide, gmi 762 (by decide +kernel) (by decide +kernel), Or.inl rfl, tyX12_ok, nmX12⟩
theorem fl_X12_187_X12 : FL RX12 187 12 18 := ⟨RX12, TX12, 28, "WheatSeaModel", tyX12, rfl, inTX12, by decide, gmi 763 (by decide +kernel) (by decide +kernel), Or.inl rfl, tyX12_ok, nmX12⟩
theorem fl_X12_37_X12 : FL RX12 37 12 19 := ⟨RX12, TX12, 28, "WheatSeaModel", tyX12, rfl, inTX12, by decide, gmi 764 (by decide +kernel) (by decide +kernel), Or.inl rfl, tyX12_ok, nmX12⟩
theorem fl_X12_46_X12 : FL RX12 46 12 20 := ⟨RX12, TX12, 28, "WheatSeaModel", tyX12, rfl, inTX12, by decide, gmi 765 (by decide +kernel) (by decide +kernel), Or.inl rfl, tyX12_ok, nmX12⟩
theorem fl_X12_203_X12 : FL RX12 203 12 21 := ⟨RX12, TX12, 28, "WheatSeaModel", tyX12, rfl, inTX12, by decide, gmi 766 (by decide +kernel) (by decide +kernel), Or.inl rfl, tyX12_ok, nmX12⟩
theorem fl_X12_206_X12 : FL RX12 206 12 22 := ⟨RX12, TX12, 28, "WheatSeaModel", tyX12, rfl, inTX12, by decide, gmi 767 (by decide +kernel) (by decide +kernel), Or.inl rfl, tyX12_ok, nmX12⟩
theorem fl_X12_209_X12 : FL RX12 209 12 23 := ⟨RX12, TX12, 28, "WheatSeaModel", tyX12, rfl, inTX12, by decide, gmi 768 (by decide +kernel) (by decide +kernel), Or.inl rfl, tyX12_ok, nmX12⟩
theorem fl_X12_212_X12 : FL RX12 212 12 24 := ⟨RX12, TX12, 28, "WheatSeaModel", tyX12, rfl, inTX12, by decide, gmi 769 (by decide +kernel) (by decide +kernel), Or.inl rfl, tyX12_ok, nmX12⟩
theorem fl_X12_40_X12 : FL RX12 40 12 25 := ⟨RX12, TX12, 28, "WheatSeaModel", tyX12, rfl, inTX12, by decide, gmi 770 (by decide +kernel) (by decide +kernel), Or.inl rfl, tyX12_ok, nmX12⟩
theorem fl_X12_43_X12 : FL RX12 43 12 26 := ⟨RX12, TX12, 28, "WheatSeaModel", tyX12, rfl, inTX12, by decide, gmi 771 (by decide +kernel) (by decide +kernel), Or.inl rfl, tyX12_ok, nmX12⟩
theorem fl_X12_223_X12 : FL RX12 223 12 27 := ⟨RX12, TX12, 28, "WheatSeaModel", tyX12, rfl, inTX12, by decide, gmi 772 (by decide +kernel) (by decide +kernel), Or.inl rfl, tyX12_ok, nmX12⟩
theorem fp_X0_0 : FP RX0 0 0 true (.array .int) := fun C T N h => by
  have h' : some (RX0, TX0, 2) = some (C, T, N) := h
  cases h'
  exact ⟨by decide +kernel, rfl, fun _ => rfl⟩
theorem fp_X0_1 : FP RX0 0 1 true (.array .int) := fun C T N h => by
  have h' : some (RX0, TX0, 2) = some (C, T, N) := h
  cases h'
  exact ⟨by decide +kernel, rfl, fun _ => rfl⟩
theorem fp_X1_0 : FP RX4 1 0 true (.int) := fun C T N h => by
  have h' : some (RX1, TX1, 3) = some (C, T, N) := h
  cases h'
  exact ⟨by decide +kernel, rfl, fun _ => rfl⟩
theorem fp_X1_1 : FP RX4 1 1 false (.int) := fun C T N h => by
  have h' : some (RX1, TX1, 3) = some (C, T, N) := h
  cases h'
  exact ⟨by decide +kernel, rfl, fun _ => rfl⟩
theorem fp_X1_2 : FP RX4 1 2 false (.int) := fun C T N h => by
  have h' : some (RX1, TX1, 3) = some (C, T, N) := h
  cases h'
  exact ⟨by decide +kernel, rfl, fun _ => rfl⟩
theorem fp_X2_0 : FP RX4 2 0 true (.int) := fun C T N h => by
  have h' : some (RX2, TX2, 3) = some (C, T, N) := h
  cases h'
  exact ⟨by decide +kernel, rfl, fun _ => rfl⟩
theorem fp_X2_1 : FP RX4 2 1 false (.int) := fun C T N h => by
  have h' : some (RX2, TX2, 3) = some (C, T, N) := h
  cases h'
  exact ⟨by decide +kernel, rfl, fun _ => rfl⟩
theorem fp_X2_2 : FP RX4 2 2 false (.int) := fun C T N h => by
  have h' : some (RX2, TX2, 3) = some (C, T, N) := h
  cases h'
  exact ⟨by decide +kernel, rfl, fun _ => rfl⟩
theorem fp_X3_0 : FP RX3 3 0 false (.int) := fun C T N h => by
  have h' : some (RX3, TX3, 3) = some (C, T, N) := h
  cases h'
  exact ⟨by decide +kernel, rfl, fun _ => rfl⟩
theorem fp_X3_1 : FP RX3 3 1 false (.int) := fun C T N h => by
  have h' : some (RX3, TX3, 3) = some (C, T, N) := h
  cases h'
  exact ⟨by decide +kernel, rfl, fun _ => rfl⟩
theorem fp_X3_2 : FP RX3 3 2 false (.int) := fun C T N h => by
  have h' : some (RX3, TX3, 3) = some (C, T, N) := h
  cases h'
  exact ⟨by decide +kernel, rfl, fun _ => rfl⟩
theorem fp_X4_0 : FP RX4 4 0 true (.int) := fun C T N h => by
  have h' : some (RX4, TX4, 3) = some (C, T, N) := h
  cases h'
  exact ⟨by decide +kernel, rfl, fun _ => rfl⟩
theorem fp_X4_1 : FP RX4 4 1 false (.int) := fun C T N h => by
  have h' : some (RX4, TX4, 3) = some (C, T, N) := h
  cases h'
  exact ⟨by decide +kernel, rfl, fun _ => rfl⟩
theorem fp_X4_2 : FP RX4 4 2 false (.int) := fun C T N h => by
  have h' : some (RX4, TX4, 3) = some (C, T, N) := h
  cases h'
  exact ⟨by decide +kernel, rfl, fun _ => rfl⟩
theorem fp_X5_0 : FP RX5 5 0 false (.boolean) := fun C T N h => by
  have h' : some (RX5, TX5, 7) = some (C, T, N) := h
  cases h'
  exact ⟨by decide +kernel, rfl, fun _ => rfl⟩
theorem fp_X5_1 : FP RX5 5 1 false (.int) := fun C T N h => by
  have h' : some (RX5, TX5, 7) = some (C, T, N) := h
  cases h'
  exact ⟨by decide +kernel, rfl, fun _ => rfl⟩
theorem fp_X5_2 : FP RX5 5 2 false (.int) := fun C T N h => by
  have h' : some (RX5, TX5, 7) = some (C, T, N) := h
  cases h'
  exact ⟨by decide +kernel, rfl, fun _ => rfl⟩
theorem fp_X5_3 : FP RX5 5 3 false (.int) := fun C T N h => by
  have h' : some (RX5, TX5, 7) = some (C, T, N) := h
  cases h'
  exact ⟨by decide +kernel, rfl, fun _ => rfl⟩
theorem fp_X5_4 : FP RX5 5 4 true (.object "WheatSea$Seen") := fun C T N h => by
  have h' : some (RX5, TX5, 7) = some (C, T, N) := h
  cases h'
  exact ⟨by decide +kernel, rfl, fun _ => rfl⟩
theorem fp_X5_5 : FP RX5 5 5 true (.array .int) := fun C T N h => by
  have h' : some (RX5, TX5, 7) = some (C, T, N) := h
  cases h'
  exact ⟨by decide +kernel, rfl, fun _ => rfl⟩
theorem fp_X5_6 : FP RX5 5 6 true (.array .int) := fun C T N h => by
  have h' : some (RX5, TX5, 7) = some (C, T, N) := h
  cases h'
  exact ⟨by decide +kernel, rfl, fun _ => rfl⟩
theorem fp_X6_0 : FP RX6 6 0 true (.array .int) := fun C T N h => by
  have h' : some (RX6, TX6, 4) = some (C, T, N) := h
  cases h'
  exact ⟨by decide +kernel, rfl, fun _ => rfl⟩
theorem fp_X6_1 : FP RX6 6 1 false (.int) := fun C T N h => by
  have h' : some (RX6, TX6, 4) = some (C, T, N) := h
  cases h'
  exact ⟨by decide +kernel, rfl, fun _ => rfl⟩
theorem fp_X6_2 : FP RX6 6 2 false (.int) := fun C T N h => by
  have h' : some (RX6, TX6, 4) = some (C, T, N) := h
  cases h'
  exact ⟨by decide +kernel, rfl, fun _ => rfl⟩
theorem fp_X6_3 : FP RX6 6 3 false (.int) := fun C T N h => by
  have h' : some (RX6, TX6, 4) = some (C, T, N) := h
  cases h'
  exact ⟨by decide +kernel, rfl, fun _ => rfl⟩
theorem fp_X7_0 : FP RX7 7 0 true (.array .int) := fun C T N h => by
  have h' : some (RX7, TX7, 3) = some (C, T, N) := h
  cases h'
  exact ⟨by decide +kernel, rfl, fun _ => rfl⟩
theorem fp_X7_1 : FP RX7 7 1 false (.int) := fun C T N h => by
  have h' : some (RX7, TX7, 3) = some (C, T, N) := h
  cases h'
  exact ⟨by decide +kernel, rfl, fun _ => rfl⟩
theorem fp_X7_2 : FP RX7 7 2 false (.int) := fun C T N h => by
  have h' : some (RX7, TX7, 3) = some (C, T, N) := h
  cases h'
  exact ⟨by decide +kernel, rfl, fun _ => rfl⟩
theorem fp_X8_0 : FP RX8 8 0 false (.int) := fun C T N h => by
  have h' : some (RX8, TX8, 6) = some (C, T, N) := h
  cases h'
  exact ⟨by decide +kernel, rfl, fun _ => rfl⟩
theorem fp_X8_1 : FP RX8 8 1 true (.array .int) := fun C T N h => by
  have h' : some (RX8, TX8, 6) = some (C, T, N) := h
  cases h'
  exact ⟨by decide +kernel, rfl, fun _ => rfl⟩
theorem fp_X8_2 : FP RX8 8 2 true (.array .int) := fun C T N h => by
  have h' : some (RX8, TX8, 6) = some (C, T, N) := h
  cases h'
  exact ⟨by decide +kernel, rfl, fun _ => rfl⟩
theorem fp_X8_3 : FP RX8 8 3 true (.array .int) := fun C T N h => by
  have h' : some (RX8, TX8, 6) = some (C, T, N) := h
  cases h'
  exact ⟨by decide +kernel, rfl, fun _ => rfl⟩
theorem fp_X8_4 : FP RX8 8 4 true (.array .int) := fun C T N h => by
  have h' : some (RX8, TX8, 6) = some (C, T, N) := h
  cases h'
  exact ⟨by decide +kernel, rfl, fun _ => rfl⟩
theorem fp_X8_5 : FP RX8 8 5 true (.array .int) := fun C T N h => by
  have h' : some (RX8, TX8, 6) = some (C, T, N) := h
  cases h'
  exact ⟨by decide +kernel, rfl, fun _ => rfl⟩
theorem fp_X9_0 : FP RX4 9 0 true (.int) := fun C T N h => by
  have h' : some (RX9, TX9, 3) = some (C, T, N) := h
  cases h'
  exact ⟨by decide +kernel, rfl, fun _ => rfl⟩
theorem fp_X9_1 : FP RX4 9 1 false (.int) := fun C T N h => by
  have h' : some (RX9, TX9, 3) = some (C, T, N) := h
  cases h'
  exact ⟨by decide +kernel, rfl, fun _ => rfl⟩
theorem fp_X9_2 : FP RX4 9 2 false (.int) := fun C T N h => by
  have h' : some (RX9, TX9, 3) = some (C, T, N) := h
  cases h'
  exact ⟨by decide +kernel, rfl, fun _ => rfl⟩
theorem fp_X10_0 : FP RX4 10 0 true (.int) := fun C T N h => by
  have h' : some (RX10, TX10, 3) = some (C, T, N) := h
  cases h'
  exact ⟨by decide +kernel, rfl, fun _ => rfl⟩
theorem fp_X10_1 : FP RX4 10 1 false (.int) := fun C T N h => by
  have h' : some (RX10, TX10, 3) = some (C, T, N) := h
  cases h'
  exact ⟨by decide +kernel, rfl, fun _ => rfl⟩
theorem fp_X10_2 : FP RX4 10 2 false (.int) := fun C T N h => by
  have h' : some (RX10, TX10, 3) = some (C, T, N) := h
  cases h'
  exact ⟨by decide +kernel, rfl, fun _ => rfl⟩
theorem fp_X11_0 : FP RX11 11 0 true (.array .int) := fun C T N h => by
  have h' : some (RX11, TX11, 13) = some (C, T, N) := h
  cases h'
  exact ⟨by decide +kernel, rfl, fun _ => rfl⟩
theorem fp_X11_1 : FP RX11 11 1 false (.int) := fun C T N h => by
  have h' : some (RX11, TX11, 13) = some (C, T, N) := h
  cases h'
  exact ⟨by decide +kernel, rfl, fun _ => rfl⟩
theorem fp_X11_2 : FP RX11 11 2 false (.int) := fun C T N h => by
  have h' : some (RX11, TX11, 13) = some (C, T, N) := h
  cases h'
  exact ⟨by decide +kernel, rfl, fun _ => rfl⟩
theorem fp_X11_3 : FP RX11 11 3 true (.object "WheatSea$Sea") := fun C T N h => by
  have h' : some (RX11, TX11, 13) = some (C, T, N) := h
  cases h'
  exact ⟨by decide +kernel, rfl, fun _ => rfl⟩
theorem fp_X11_4 : FP RX11 11 4 true (.object "WheatSea$Sea") := fun C T N h => by
  have h' : some (RX11, TX11, 13) = some (C, T, N) := h
  cases h'
  exact ⟨by decide +kernel, rfl, fun _ => rfl⟩
theorem fp_X11_5 : FP RX11 11 5 true (.array (.object "WheatSea$Hull")) := fun C T N h => by
  have h' : some (RX11, TX11, 13) = some (C, T, N) := h
  cases h'
  exact ⟨by decide +kernel, rfl, fun _ => rfl⟩
theorem fp_X11_6 : FP RX11 11 6 false (.int) := fun C T N h => by
  have h' : some (RX11, TX11, 13) = some (C, T, N) := h
  cases h'
  exact ⟨by decide +kernel, rfl, fun _ => rfl⟩
theorem fp_X11_7 : FP RX11 11 7 false (.int) := fun C T N h => by
  have h' : some (RX11, TX11, 13) = some (C, T, N) := h
  cases h'
  exact ⟨by decide +kernel, rfl, fun _ => rfl⟩
theorem fp_X11_8 : FP RX11 11 8 true (.object "WheatSea$Seen") := fun C T N h => by
  have h' : some (RX11, TX11, 13) = some (C, T, N) := h
  cases h'
  exact ⟨by decide +kernel, rfl, fun _ => rfl⟩
theorem fp_X11_9 : FP RX11 11 9 true (.object "WheatSea$Image") := fun C T N h => by
  have h' : some (RX11, TX11, 13) = some (C, T, N) := h
  cases h'
  exact ⟨by decide +kernel, rfl, fun _ => rfl⟩
theorem fp_X11_10 : FP RX11 11 10 true (.object "WheatSea$Chart") := fun C T N h => by
  have h' : some (RX11, TX11, 13) = some (C, T, N) := h
  cases h'
  exact ⟨by decide +kernel, rfl, fun _ => rfl⟩
theorem fp_X11_11 : FP RX11 11 11 true (.object "WheatSea$Homecoming") := fun C T N h => by
  have h' : some (RX11, TX11, 13) = some (C, T, N) := h
  cases h'
  exact ⟨by decide +kernel, rfl, fun _ => rfl⟩
theorem fp_X11_12 : FP RX11 11 12 true (.object "WheatSea$June") := fun C T N h => by
  have h' : some (RX11, TX11, 13) = some (C, T, N) := h
  cases h'
  exact ⟨by decide +kernel, rfl, fun _ => rfl⟩
theorem fp_X12_0 : FP RX12 12 0 true (.array .int) := fun C T N h => by
  have h' : some (RX12, TX12, 28) = some (C, T, N) := h
  cases h'
  exact ⟨by decide +kernel, rfl, fun _ => rfl⟩
theorem fp_X12_1 : FP RX12 12 1 false (.int) := fun C T N h => by
  have h' : some (RX12, TX12, 28) = some (C, T, N) := h
  cases h'
  exact ⟨by decide +kernel, rfl, fun _ => rfl⟩
theorem fp_X12_2 : FP RX12 12 2 false (.int) := fun C T N h => by
  have h' : some (RX12, TX12, 28) = some (C, T, N) := h
  cases h'
  exact ⟨by decide +kernel, rfl, fun _ => rfl⟩
theorem fp_X12_3 : FP RX12 12 3 false (.int) := fun C T N h => by
  have h' : some (RX12, TX12, 28) = some (C, T, N) := h
  cases h'
  exact ⟨by decide +kernel, rfl, fun _ => rfl⟩
theorem fp_X12_4 : FP RX12 12 4 false (.int) := fun C T N h => by
  have h' : some (RX12, TX12, 28) = some (C, T, N) := h
  cases h'
  exact ⟨by decide +kernel, rfl, fun _ => rfl⟩
theorem fp_X12_5 : FP RX12 12 5 false (.int) := fun C T N h => by
  have h' : some (RX12, TX12, 28) = some (C, T, N) := h
  cases h'
  exact ⟨by decide +kernel, rfl, fun _ => rfl⟩
theorem fp_X12_6 : FP RX12 12 6 true (.array .int) := fun C T N h => by
  have h' : some (RX12, TX12, 28) = some (C, T, N) := h
  cases h'
  exact ⟨by decide +kernel, rfl, fun _ => rfl⟩
theorem fp_X12_7 : FP RX12 12 7 false (.int) := fun C T N h => by
  have h' : some (RX12, TX12, 28) = some (C, T, N) := h
  cases h'
  exact ⟨by decide +kernel, rfl, fun _ => rfl⟩
theorem fp_X12_8 : FP RX12 12 8 true (.array .int) := fun C T N h => by
  have h' : some (RX12, TX12, 28) = some (C, T, N) := h
  cases h'
  exact ⟨by decide +kernel, rfl, fun _ => rfl⟩
theorem fp_X12_9 : FP RX12 12 9 true (.array .int) := fun C T N h => by
  have h' : some (RX12, TX12, 28) = some (C, T, N) := h
  cases h'
  exact ⟨by decide +kernel, rfl, fun _ => rfl⟩
theorem fp_X12_10 : FP RX12 12 10 true (.array .int) := fun C T N h => by
  have h' : some (RX12, TX12, 28) = some (C, T, N) := h
  cases h'
  exact ⟨by decide +kernel, rfl, fun _ => rfl⟩
theorem fp_X12_11 : FP RX12 12 11 true (.array .int) := fun C T N h => by
  have h' : some (RX12, TX12, 28) = some (C, T, N) := h
  cases h'
  exact ⟨by decide +kernel, rfl, fun _ => rfl⟩
theorem fp_X12_12 : FP RX12 12 12 true (.array .int) := fun C T N h => by
  have h' : some (RX12, TX12, 28) = some (C, T, N) := h
  cases h'
  exact ⟨by decide +kernel, rfl, fun _ => rfl⟩
theorem fp_X12_13 : FP RX12 12 13 false (.int) := fun C T N h => by
  have h' : some (RX12, TX12, 28) = some (C, T, N) := h
  cases h'
  exact ⟨by decide +kernel, rfl, fun _ => rfl⟩
theorem fp_X12_14 : FP RX12 12 14 false (.int) := fun C T N h => by
  have h' : some (RX12, TX12, 28) = some (C, T, N) := h
  cases h'
  exact ⟨by decide +kernel, rfl, fun _ => rfl⟩
theorem fp_X12_15 : FP RX12 12 15 false (.int) := fun C T N h => by
  have h' : some (RX12, TX12, 28) = some (C, T, N) := h
  cases h'
  exact ⟨by decide +kernel, rfl, fun _ => rfl⟩
theorem fp_X12_16 : FP RX12 12 16 true (.array .int) := fun C T N h => by
  have h' : some (RX12, TX12, 28) = some (C, T, N) := h
  cases h'
  exact ⟨by decide +kernel, rfl, fun _ => rfl⟩
theorem fp_X12_17 : FP RX12 12 17 true (.array .int) := fun C T N h => by
  have h' : some (RX12, TX12, 28) = some (C, T, N) := h
  cases h'
  exact ⟨by decide +kernel, rfl, fun _ => rfl⟩
theorem fp_X12_18 : FP RX12 12 18 false (.int) := fun C T N h => by
  have h' : some (RX12, TX12, 28) = some (C, T, N) := h
  cases h'
  exact ⟨by decide +kernel, rfl, fun _ => rfl⟩
theorem fp_X12_19 : FP RX12 12 19 true (.array .int) := fun C T N h => by
  have h' : some (RX12, TX12, 28) = some (C, T, N) := h
  cases h'
  exact ⟨by decide +kernel, rfl, fun _ => rfl⟩
theorem fp_X12_20 : FP RX12 12 20 false (.int) := fun C T N h => by
  have h' : some (RX12, TX12, 28) = some (C, T, N) := h
  cases h'
  exact ⟨by decide +kernel, rfl, fun _ => rfl⟩
theorem fp_X12_21 : FP RX12 12 21 false (.int) := fun C T N h => by
  have h' : some (RX12, TX12, 28) = some (C, T, N) := h
  cases h'
  exact ⟨by decide +kernel, rfl, fun _ => rfl⟩
theorem fp_X12_22 : FP RX12 12 22 false (.int) := fun C T N h => by
  have h' : some (RX12, TX12, 28) = some (C, T, N) := h
  cases h'
  exact ⟨by decide +kernel, rfl, fun _ => rfl⟩
theorem fp_X12_23 : FP RX12 12 23 false (.int) := fun C T N h => by
  have h' : some (RX12, TX12, 28) = some (C, T, N) := h
  cases h'
  exact ⟨by decide +kernel, rfl, fun _ => rfl⟩
theorem fp_X12_24 : FP RX12 12 24 false (.int) := fun C T N h => by
  have h' : some (RX12, TX12, 28) = some (C, T, N) := h
  cases h'
  exact ⟨by decide +kernel, rfl, fun _ => rfl⟩
theorem fp_X12_25 : FP RX12 12 25 true (.array .int) := fun C T N h => by
  have h' : some (RX12, TX12, 28) = some (C, T, N) := h
  cases h'
  exact ⟨by decide +kernel, rfl, fun _ => rfl⟩
theorem fp_X12_26 : FP RX12 12 26 true (.array .int) := fun C T N h => by
  have h' : some (RX12, TX12, 28) = some (C, T, N) := h
  cases h'
  exact ⟨by decide +kernel, rfl, fun _ => rfl⟩
theorem fp_X12_27 : FP RX12 12 27 false (.long) := fun C T N h => by
  have h' : some (RX12, TX12, 28) = some (C, T, N) := h
  cases h'
  exact ⟨by decide +kernel, rfl, fun _ => rfl⟩
theorem fp_any {own own2 : String} {ci k : Nat} {ty : FieldType} (h : FP own ci k false ty) : FP own2 ci k false ty := fun C T N hc => ⟨(h C T N hc).1, (h C T N hc).2.1, fun q => by cases q⟩
theorem nw_L_7 : NW RL 7 11 [.null, .int 0, .int 0, .null, .null, .null, .int 0, .int 0, .null, .null, .null, .null, .null] := ⟨RX11, TX11, 13, tyX11, rfl, inTX11, tyX11_ok, gmi 65 (by decide +kernel) (by decide +kernel), gmi 66 (by decide +kernel) (by decide +kernel), gmi 47 (by decide +kernel) (by decide +kernel), (by decide +kernel), rfl⟩
theorem cl_L_7 : Cond.classLink RL 7 RX11 ∈ lw_g := gmi 65 (by decide +kernel) (by decide +kernel)
theorem nw_X11_13 : NW RX11 13 4 [.int 0, .int 0, .int 0] := ⟨RX4, TX4, 3, tyX4, rfl, inTX4, tyX4_ok, gmi 73 (by decide +kernel) (by decide +kernel), gmi 428 (by decide +kernel) (by decide +kernel), gmi 59 (by decide +kernel) (by decide +kernel), (by decide +kernel), rfl⟩
theorem cl_X11_13 : Cond.classLink RX11 13 RX4 ∈ lw_g := gmi 73 (by decide +kernel) (by decide +kernel)
theorem nw_X11_19 : NW RX11 19 8 [.int 0, .null, .null, .null, .null, .null] := ⟨RX8, TX8, 6, tyX8, rfl, inTX8, tyX8_ok, gmi 75 (by decide +kernel) (by decide +kernel), gmi 76 (by decide +kernel) (by decide +kernel), gmi 48 (by decide +kernel) (by decide +kernel), (by decide +kernel), rfl⟩
theorem cl_X11_19 : Cond.classLink RX11 19 RX8 ∈ lw_g := gmi 75 (by decide +kernel) (by decide +kernel)
theorem nw_X11_26 : NW RX11 26 5 [.int 0, .int 0, .int 0, .int 0, .null, .null, .null] := ⟨RX5, TX5, 7, tyX5, rfl, inTX5, tyX5_ok, gmi 102 (by decide +kernel) (by decide +kernel), gmi 103 (by decide +kernel) (by decide +kernel), gmi 49 (by decide +kernel) (by decide +kernel), (by decide +kernel), rfl⟩
theorem cl_X11_26 : Cond.classLink RX11 26 RX5 ∈ lw_g := gmi 102 (by decide +kernel) (by decide +kernel)
theorem nw_X5_9 : NW RX5 9 8 [.int 0, .null, .null, .null, .null, .null] := ⟨RX8, TX8, 6, tyX8, rfl, inTX8, tyX8_ok, gmi 108 (by decide +kernel) (by decide +kernel), gmi 76 (by decide +kernel) (by decide +kernel), gmi 48 (by decide +kernel) (by decide +kernel), (by decide +kernel), rfl⟩
theorem cl_X5_9 : Cond.classLink RX5 9 RX8 ∈ lw_g := gmi 108 (by decide +kernel) (by decide +kernel)
theorem nw_X11_33 : NW RX11 33 0 [.null, .null] := ⟨RX0, TX0, 2, tyX0, rfl, inTX0, tyX0_ok, gmi 135 (by decide +kernel) (by decide +kernel), gmi 136 (by decide +kernel) (by decide +kernel), gmi 50 (by decide +kernel) (by decide +kernel), (by decide +kernel), rfl⟩
theorem cl_X11_33 : Cond.classLink RX11 33 RX0 ∈ lw_g := gmi 135 (by decide +kernel) (by decide +kernel)
theorem nw_X11_40 : NW RX11 40 3 [.int 0, .int 0, .int 0] := ⟨RX3, TX3, 3, tyX3, rfl, inTX3, tyX3_ok, gmi 148 (by decide +kernel) (by decide +kernel), gmi 149 (by decide +kernel) (by decide +kernel), gmi 51 (by decide +kernel) (by decide +kernel), (by decide +kernel), rfl⟩
theorem cl_X11_40 : Cond.classLink RX11 40 RX3 ∈ lw_g := gmi 148 (by decide +kernel) (by decide +kernel)
theorem nw_X11_47 : NW RX11 47 6 [.null, .int 0, .int 0, .int 0] := ⟨RX6, TX6, 4, tyX6, rfl, inTX6, tyX6_ok, gmi 166 (by decide +kernel) (by decide +kernel), gmi 167 (by decide +kernel) (by decide +kernel), gmi 52 (by decide +kernel) (by decide +kernel), (by decide +kernel), rfl⟩
theorem cl_X11_47 : Cond.classLink RX11 47 RX6 ∈ lw_g := gmi 166 (by decide +kernel) (by decide +kernel)
theorem nw_X11_54 : NW RX11 54 7 [.null, .int 0, .int 0] := ⟨RX7, TX7, 3, tyX7, rfl, inTX7, tyX7_ok, gmi 188 (by decide +kernel) (by decide +kernel), gmi 189 (by decide +kernel) (by decide +kernel), gmi 53 (by decide +kernel) (by decide +kernel), (by decide +kernel), rfl⟩
theorem cl_X11_54 : Cond.classLink RX11 54 RX7 ∈ lw_g := gmi 188 (by decide +kernel) (by decide +kernel)
theorem nw_X11_266 : NW RX11 266 10 [.int 0, .int 0, .int 0] := ⟨RX10, TX10, 3, tyX10, rfl, inTX10, tyX10_ok, gmi 371 (by decide +kernel) (by decide +kernel), gmi 372 (by decide +kernel) (by decide +kernel), gmi 60 (by decide +kernel) (by decide +kernel), (by decide +kernel), rfl⟩
theorem cl_X11_266 : Cond.classLink RX11 266 RX10 ∈ lw_g := gmi 371 (by decide +kernel) (by decide +kernel)
theorem nw_X11_270 : NW RX11 270 2 [.int 0, .int 0, .int 0] := ⟨RX2, TX2, 3, tyX2, rfl, inTX2, tyX2_ok, gmi 398 (by decide +kernel) (by decide +kernel), gmi 399 (by decide +kernel) (by decide +kernel), gmi 61 (by decide +kernel) (by decide +kernel), (by decide +kernel), rfl⟩
theorem cl_X11_270 : Cond.classLink RX11 270 RX2 ∈ lw_g := gmi 398 (by decide +kernel) (by decide +kernel)
theorem nw_X11_273 : NW RX11 273 9 [.int 0, .int 0, .int 0] := ⟨RX9, TX9, 3, tyX9, rfl, inTX9, tyX9_ok, gmi 408 (by decide +kernel) (by decide +kernel), gmi 409 (by decide +kernel) (by decide +kernel), gmi 62 (by decide +kernel) (by decide +kernel), (by decide +kernel), rfl⟩
theorem cl_X11_273 : Cond.classLink RX11 273 RX9 ∈ lw_g := gmi 408 (by decide +kernel) (by decide +kernel)
theorem nw_X11_276 : NW RX11 276 1 [.int 0, .int 0, .int 0] := ⟨RX1, TX1, 3, tyX1, rfl, inTX1, tyX1_ok, gmi 418 (by decide +kernel) (by decide +kernel), gmi 419 (by decide +kernel) (by decide +kernel), gmi 63 (by decide +kernel) (by decide +kernel), (by decide +kernel), rfl⟩
theorem cl_X11_276 : Cond.classLink RX11 276 RX1 ∈ lw_g := gmi 418 (by decide +kernel) (by decide +kernel)
theorem nw_L_10 : NW RL 10 12 [.null, .int 0, .int 0, .int 0, .int 0, .int 0, .null, .int 0, .null, .null, .null, .null, .null, .int 0, .int 0, .int 0, .null, .null, .int 0, .null, .int 0, .int 0, .int 0, .int 0, .int 0, .null, .null, .long 0] := ⟨RX12, TX12, 28, tyX12, rfl, inTX12, tyX12_ok, gmi 739 (by decide +kernel) (by decide +kernel), gmi 740 (by decide +kernel) (by decide +kernel), gmi 54 (by decide +kernel) (by decide +kernel), (by decide +kernel), rfl⟩
theorem cl_L_10 : Cond.classLink RL 10 RX12 ∈ lw_g := gmi 739 (by decide +kernel) (by decide +kernel)
theorem wm_X0_init : WM yX0_init cX0_init 1 none 0 := ⟨gmi 139 (by decide +kernel) (by decide +kernel), gmi 50 (by decide +kernel) (by decide +kernel), by decide +kernel, by decide +kernel, by decide +kernel⟩
theorem wm_X11_isCell : WM yX11_isCell cX11_isCell 1 (some .boolean) 1 := ⟨gmi 343 (by decide +kernel) (by decide +kernel), gmi 47 (by decide +kernel) (by decide +kernel), by decide +kernel, by decide +kernel, by decide +kernel⟩
theorem wm_X11_beside : WM yX11_beside cX11_beside 2 (some .int) 2 := ⟨gmi 483 (by decide +kernel) (by decide +kernel), gmi 47 (by decide +kernel) (by decide +kernel), by decide +kernel, by decide +kernel, by decide +kernel⟩
theorem wm_X7_highAt : WM yX7_highAt cX7_highAt 3 (some .int) 2 := ⟨gmi 347 (by decide +kernel) (by decide +kernel), gmi 53 (by decide +kernel) (by decide +kernel), by decide +kernel, by decide +kernel, by decide +kernel⟩
theorem wm_X10_cornNeeded : WM yX10_cornNeeded cX10_cornNeeded 1 (some .int) 0 := ⟨gmi 470 (by decide +kernel) (by decide +kernel), gmi 60 (by decide +kernel) (by decide +kernel), by decide +kernel, by decide +kernel, by decide +kernel⟩
theorem wm_X4_cornNeeded : WM yX4_cornNeeded cX4_cornNeeded 1 (some .int) 0 := ⟨gmi 476 (by decide +kernel) (by decide +kernel), gmi 59 (by decide +kernel) (by decide +kernel), by decide +kernel, by decide +kernel, by decide +kernel⟩
theorem wm_X9_cornNeeded : WM yX9_cornNeeded cX9_cornNeeded 1 (some .int) 0 := ⟨gmi 474 (by decide +kernel) (by decide +kernel), gmi 62 (by decide +kernel) (by decide +kernel), by decide +kernel, by decide +kernel, by decide +kernel⟩
theorem wm_X7_floats : WM yX7_floats cX7_floats 4 (some .boolean) 3 := ⟨gmi 462 (by decide +kernel) (by decide +kernel), gmi 53 (by decide +kernel) (by decide +kernel), by decide +kernel, by decide +kernel, by decide +kernel⟩
theorem wm_X1_hoursBecalmed : WM yX1_hoursBecalmed cX1_hoursBecalmed 1 (some .int) 0 := ⟨gmi 500 (by decide +kernel) (by decide +kernel), gmi 63 (by decide +kernel) (by decide +kernel), by decide +kernel, by decide +kernel, by decide +kernel⟩
theorem wm_X4_hoursBecalmed : WM yX4_hoursBecalmed cX4_hoursBecalmed 1 (some .int) 0 := ⟨gmi 506 (by decide +kernel) (by decide +kernel), gmi 59 (by decide +kernel) (by decide +kernel), by decide +kernel, by decide +kernel, by decide +kernel⟩
theorem wm_X9_hoursBecalmed : WM yX9_hoursBecalmed cX9_hoursBecalmed 1 (some .int) 0 := ⟨gmi 504 (by decide +kernel) (by decide +kernel), gmi 62 (by decide +kernel) (by decide +kernel), by decide +kernel, by decide +kernel, by decide +kernel⟩
theorem wm_X4_hoursWith : WM yX4_hoursWith cX4_hoursWith 1 (some .int) 0 := ⟨gmi 517 (by decide +kernel) (by decide +kernel), gmi 59 (by decide +kernel) (by decide +kernel), by decide +kernel, by decide +kernel, by decide +kernel⟩
theorem wm_X9_hoursWith : WM yX9_hoursWith cX9_hoursWith 1 (some .int) 0 := ⟨gmi 515 (by decide +kernel) (by decide +kernel), gmi 62 (by decide +kernel) (by decide +kernel), by decide +kernel, by decide +kernel, by decide +kernel⟩
theorem wm_X1_hoursAgainst : WM yX1_hoursAgainst cX1_hoursAgainst 1 (some .int) 0 := ⟨gmi 524 (by decide +kernel) (by decide +kernel), gmi 63 (by decide +kernel) (by decide +kernel), by decide +kernel, by decide +kernel, by decide +kernel⟩
theorem wm_X4_hoursAgainst : WM yX4_hoursAgainst cX4_hoursAgainst 1 (some .int) 0 := ⟨gmi 530 (by decide +kernel) (by decide +kernel), gmi 59 (by decide +kernel) (by decide +kernel), by decide +kernel, by decide +kernel, by decide +kernel⟩
theorem wm_X2_hoursAgainst : WM yX2_hoursAgainst cX2_hoursAgainst 1 (some .int) 0 := ⟨gmi 527 (by decide +kernel) (by decide +kernel), gmi 61 (by decide +kernel) (by decide +kernel), by decide +kernel, by decide +kernel, by decide +kernel⟩
theorem wm_X4_hoursAcross : WM yX4_hoursAcross cX4_hoursAcross 1 (some .int) 0 := ⟨gmi 541 (by decide +kernel) (by decide +kernel), gmi 59 (by decide +kernel) (by decide +kernel), by decide +kernel, by decide +kernel, by decide +kernel⟩
theorem wm_X9_hoursAcross : WM yX9_hoursAcross cX9_hoursAcross 1 (some .int) 0 := ⟨gmi 539 (by decide +kernel) (by decide +kernel), gmi 62 (by decide +kernel) (by decide +kernel), by decide +kernel, by decide +kernel, by decide +kernel⟩
theorem wm_X4_hoursFor : WM yX4_hoursFor cX4_hoursFor 3 (some .int) 2 := ⟨gmi 493 (by decide +kernel) (by decide +kernel), gmi 59 (by decide +kernel) (by decide +kernel), by decide +kernel, by decide +kernel, by decide +kernel⟩
theorem wm_X7_hoursToSail : WM yX7_hoursToSail cX7_hoursToSail 7 (some .int) 4 := ⟨gmi 480 (by decide +kernel) (by decide +kernel), gmi 53 (by decide +kernel) (by decide +kernel), by decide +kernel, by decide +kernel, by decide +kernel⟩
theorem wm_X0_arrive : WM yX0_arrive cX0_arrive 5 none 3 := ⟨gmi 572 (by decide +kernel) (by decide +kernel), gmi 50 (by decide +kernel) (by decide +kernel), by decide +kernel, by decide +kernel, by decide +kernel⟩
theorem wm_X0_sailOnFrom : WM yX0_sailOnFrom cX0_sailOnFrom 7 none 3 := ⟨gmi 566 (by decide +kernel) (by decide +kernel), gmi 50 (by decide +kernel) (by decide +kernel), by decide +kernel, by decide +kernel, by decide +kernel⟩
theorem wm_X0_soonestOpen : WM yX0_soonestOpen cX0_soonestOpen 5 (some .int) 1 := ⟨gmi 576 (by decide +kernel) (by decide +kernel), gmi 50 (by decide +kernel) (by decide +kernel), by decide +kernel, by decide +kernel, by decide +kernel⟩
theorem wm_X0_plot : WM yX0_plot cX0_plot 8 none 4 := ⟨gmi 561 (by decide +kernel) (by decide +kernel), gmi 50 (by decide +kernel) (by decide +kernel), by decide +kernel, by decide +kernel, by decide +kernel⟩
theorem wm_X0_hourAt : WM yX0_hourAt cX0_hourAt 2 (some .int) 1 := ⟨gmi 580 (by decide +kernel) (by decide +kernel), gmi 50 (by decide +kernel) (by decide +kernel), by decide +kernel, by decide +kernel, by decide +kernel⟩
theorem wm_X0_firstWayTo : WM yX0_firstWayTo cX0_firstWayTo 2 (some .int) 1 := ⟨gmi 584 (by decide +kernel) (by decide +kernel), gmi 50 (by decide +kernel) (by decide +kernel), by decide +kernel, by decide +kernel, by decide +kernel⟩
theorem wm_X4_init : WM yX4_init cX4_init 3 none 2 := ⟨gmi 378 (by decide +kernel) (by decide +kernel), gmi 59 (by decide +kernel) (by decide +kernel), by decide +kernel, by decide +kernel, by decide +kernel⟩
theorem wm_X10_init : WM yX10_init cX10_init 3 none 2 := ⟨gmi 375 (by decide +kernel) (by decide +kernel), gmi 60 (by decide +kernel) (by decide +kernel), by decide +kernel, by decide +kernel, by decide +kernel⟩
theorem wm_X1_init : WM yX1_init cX1_init 3 none 2 := ⟨gmi 422 (by decide +kernel) (by decide +kernel), gmi 63 (by decide +kernel) (by decide +kernel), by decide +kernel, by decide +kernel, by decide +kernel⟩
theorem wm_X1_kind : WM yX1_kind cX1_kind 1 (some .int) 0 := ⟨gmi 448 (by decide +kernel) (by decide +kernel), gmi 63 (by decide +kernel) (by decide +kernel), by decide +kernel, by decide +kernel, by decide +kernel⟩
theorem wm_X2_init : WM yX2_init cX2_init 3 none 2 := ⟨gmi 402 (by decide +kernel) (by decide +kernel), gmi 61 (by decide +kernel) (by decide +kernel), by decide +kernel, by decide +kernel, by decide +kernel⟩
theorem wm_X2_kind : WM yX2_kind cX2_kind 1 (some .int) 0 := ⟨gmi 451 (by decide +kernel) (by decide +kernel), gmi 61 (by decide +kernel) (by decide +kernel), by decide +kernel, by decide +kernel, by decide +kernel⟩
theorem wm_X3_init : WM yX3_init cX3_init 1 none 0 := ⟨gmi 152 (by decide +kernel) (by decide +kernel), gmi 51 (by decide +kernel) (by decide +kernel), by decide +kernel, by decide +kernel, by decide +kernel⟩
theorem wm_X3_numberIn : WM yX3_numberIn cX3_numberIn 4 (some .int) 2 := ⟨gmi 606 (by decide +kernel) (by decide +kernel), gmi 51 (by decide +kernel) (by decide +kernel), by decide +kernel, by decide +kernel, by decide +kernel⟩
theorem wm_X3_hullIn : WM yX3_hullIn cX3_hullIn 5 (some (.object "WheatSea$Hull")) 3 := ⟨gmi 602 (by decide +kernel) (by decide +kernel), gmi 51 (by decide +kernel) (by decide +kernel), by decide +kernel, by decide +kernel, by decide +kernel⟩
theorem wm_X3_find : WM yX3_find cX3_find 12 none 5 := ⟨gmi 596 (by decide +kernel) (by decide +kernel), gmi 51 (by decide +kernel) (by decide +kernel), by decide +kernel, by decide +kernel, by decide +kernel⟩
theorem wm_X3_hullInPlace : WM yX3_hullInPlace cX3_hullInPlace 2 (some .int) 1 := ⟨gmi 612 (by decide +kernel) (by decide +kernel), gmi 51 (by decide +kernel) (by decide +kernel), by decide +kernel, by decide +kernel, by decide +kernel⟩
theorem wm_X4_kind : WM yX4_kind cX4_kind 1 (some .int) 0 := ⟨gmi 458 (by decide +kernel) (by decide +kernel), gmi 59 (by decide +kernel) (by decide +kernel), by decide +kernel, by decide +kernel, by decide +kernel⟩
theorem wm_X8_init : WM yX8_init cX8_init 1 none 0 := ⟨gmi 79 (by decide +kernel) (by decide +kernel), gmi 48 (by decide +kernel) (by decide +kernel), by decide +kernel, by decide +kernel, by decide +kernel⟩
theorem wm_X5_init : WM yX5_init cX5_init 1 none 0 := ⟨gmi 106 (by decide +kernel) (by decide +kernel), gmi 49 (by decide +kernel) (by decide +kernel), by decide +kernel, by decide +kernel, by decide +kernel⟩
theorem wm_X5_keep : WM yX5_keep cX5_keep 5 none 2 := ⟨gmi 697 (by decide +kernel) (by decide +kernel), gmi 49 (by decide +kernel) (by decide +kernel), by decide +kernel, by decide +kernel, by decide +kernel⟩
theorem wm_X5_giveBack : WM yX5_giveBack cX5_giveBack 4 none 1 := ⟨gmi 709 (by decide +kernel) (by decide +kernel), gmi 49 (by decide +kernel) (by decide +kernel), by decide +kernel, by decide +kernel, by decide +kernel⟩
theorem wm_X6_init : WM yX6_init cX6_init 1 none 0 := ⟨gmi 170 (by decide +kernel) (by decide +kernel), gmi 52 (by decide +kernel) (by decide +kernel), by decide +kernel, by decide +kernel, by decide +kernel⟩
theorem wm_X6_begin : WM yX6_begin cX6_begin 6 none 3 := ⟨gmi 666 (by decide +kernel) (by decide +kernel), gmi 52 (by decide +kernel) (by decide +kernel), by decide +kernel, by decide +kernel, by decide +kernel⟩
theorem wm_X6_drawn : WM yX6_drawn cX6_drawn 2 (some .int) 1 := ⟨gmi 674 (by decide +kernel) (by decide +kernel), gmi 52 (by decide +kernel) (by decide +kernel), by decide +kernel, by decide +kernel, by decide +kernel⟩
theorem wm_X6_afterSailing : WM yX6_afterSailing cX6_afterSailing 6 (some .int) 4 := ⟨gmi 682 (by decide +kernel) (by decide +kernel), gmi 52 (by decide +kernel) (by decide +kernel), by decide +kernel, by decide +kernel, by decide +kernel⟩
theorem wm_X6_run : WM yX6_run cX6_run 7 none 3 := ⟨gmi 670 (by decide +kernel) (by decide +kernel), gmi 52 (by decide +kernel) (by decide +kernel), by decide +kernel, by decide +kernel, by decide +kernel⟩
theorem wm_X6_stranded : WM yX6_stranded cX6_stranded 6 (some .int) 2 := ⟨gmi 688 (by decide +kernel) (by decide +kernel), gmi 52 (by decide +kernel) (by decide +kernel), by decide +kernel, by decide +kernel, by decide +kernel⟩
theorem wm_X7_init : WM yX7_init cX7_init 2 none 1 := ⟨gmi 192 (by decide +kernel) (by decide +kernel), gmi 53 (by decide +kernel) (by decide +kernel), by decide +kernel, by decide +kernel, by decide +kernel⟩
theorem wm_X7_sow : WM yX7_sow cX7_sow 3 none 2 := ⟨gmi 328 (by decide +kernel) (by decide +kernel), gmi 53 (by decide +kernel) (by decide +kernel), by decide +kernel, by decide +kernel, by decide +kernel⟩
theorem wm_X7_cutHour : WM yX7_cutHour cX7_cutHour 2 (some .int) 1 := ⟨gmi 351 (by decide +kernel) (by decide +kernel), gmi 53 (by decide +kernel) (by decide +kernel), by decide +kernel, by decide +kernel, by decide +kernel⟩
theorem wm_X8_add : WM yX8_add cX8_add 4 (some .boolean) 3 := ⟨gmi 624 (by decide +kernel) (by decide +kernel), gmi 48 (by decide +kernel) (by decide +kernel), by decide +kernel, by decide +kernel, by decide +kernel⟩
theorem wm_X8_become : WM yX8_become cX8_become 3 none 1 := ⟨gmi 701 (by decide +kernel) (by decide +kernel), gmi 48 (by decide +kernel) (by decide +kernel), by decide +kernel, by decide +kernel, by decide +kernel⟩
theorem wm_X8_lookUp : WM yX8_lookUp cX8_lookUp 5 (some .int) 1 := ⟨gmi 640 (by decide +kernel) (by decide +kernel), gmi 48 (by decide +kernel) (by decide +kernel), by decide +kernel, by decide +kernel, by decide +kernel⟩
theorem wm_X8_canBe : WM yX8_canBe cX8_canBe 4 (some .boolean) 3 := ⟨gmi 651 (by decide +kernel) (by decide +kernel), gmi 48 (by decide +kernel) (by decide +kernel), by decide +kernel, by decide +kernel, by decide +kernel⟩
theorem wm_X8_unseenBetween : WM yX8_unseenBetween cX8_unseenBetween 4 (some .boolean) 2 := ⟨gmi 657 (by decide +kernel) (by decide +kernel), gmi 48 (by decide +kernel) (by decide +kernel), by decide +kernel, by decide +kernel, by decide +kernel⟩
theorem wm_X8_goesOn : WM yX8_goesOn cX8_goesOn 8 (some .boolean) 5 := ⟨gmi 647 (by decide +kernel) (by decide +kernel), gmi 48 (by decide +kernel) (by decide +kernel), by decide +kernel, by decide +kernel, by decide +kernel⟩
theorem wm_X8_startsOf : WM yX8_startsOf cX8_startsOf 8 (some .int) 3 := ⟨gmi 636 (by decide +kernel) (by decide +kernel), gmi 48 (by decide +kernel) (by decide +kernel), by decide +kernel, by decide +kernel, by decide +kernel⟩
theorem wm_X9_init : WM yX9_init cX9_init 3 none 2 := ⟨gmi 412 (by decide +kernel) (by decide +kernel), gmi 62 (by decide +kernel) (by decide +kernel), by decide +kernel, by decide +kernel, by decide +kernel⟩
theorem wm_X9_kind : WM yX9_kind cX9_kind 1 (some .int) 0 := ⟨gmi 454 (by decide +kernel) (by decide +kernel), gmi 62 (by decide +kernel) (by decide +kernel), by decide +kernel, by decide +kernel, by decide +kernel⟩
theorem wm_X10_kind : WM yX10_kind cX10_kind 1 (some .int) 0 := ⟨gmi 457 (by decide +kernel) (by decide +kernel), gmi 60 (by decide +kernel) (by decide +kernel), by decide +kernel, by decide +kernel, by decide +kernel⟩
theorem wm_X11_init : WM yX11_init cX11_init 2 none 0 := ⟨gmi 69 (by decide +kernel) (by decide +kernel), gmi 47 (by decide +kernel) (by decide +kernel), by decide +kernel, by decide +kernel, by decide +kernel⟩
theorem wm_X11_letter : WM yX11_letter cX11_letter 2 (some .int) 1 := ⟨gmi 250 (by decide +kernel) (by decide +kernel), gmi 47 (by decide +kernel) (by decide +kernel), by decide +kernel, by decide +kernel, by decide +kernel⟩
theorem wm_X11_blank : WM yX11_blank cX11_blank 2 (some .int) 0 := ⟨gmi 254 (by decide +kernel) (by decide +kernel), gmi 47 (by decide +kernel) (by decide +kernel), by decide +kernel, by decide +kernel, by decide +kernel⟩
theorem wm_J0_coder_7d493 : WM yJ0_coder_7d493 cJ0_coder_7d493 1 (some .byte) 0 := ⟨gmi 270 (by decide +kernel) (by decide +kernel), gmi 55 (by decide +kernel) (by decide +kernel), by decide +kernel, by decide +kernel, by decide +kernel⟩
theorem wm_J0_length_8abf5 : WM yJ0_length_8abf5 cJ0_length_8abf5 1 (some .int) 0 := ⟨gmi 266 (by decide +kernel) (by decide +kernel), gmi 55 (by decide +kernel) (by decide +kernel), by decide +kernel, by decide +kernel, by decide +kernel⟩
theorem wm_J0_isLatin1_aae02 : WM yJ0_isLatin1_aae02 cJ0_isLatin1_aae02 1 (some .boolean) 0 := ⟨gmi 280 (by decide +kernel) (by decide +kernel), gmi 55 (by decide +kernel) (by decide +kernel), by decide +kernel, by decide +kernel, by decide +kernel⟩
theorem wm_J3_checkIndex_8e157 : WM yJ3_checkIndex_8e157 cJ3_checkIndex_8e157 3 (some .int) 3 := ⟨gmi 291 (by decide +kernel) (by decide +kernel), gmi 57 (by decide +kernel) (by decide +kernel), by decide +kernel, by decide +kernel, by decide +kernel⟩
theorem wm_J0_checkIndex_df160 : WM yJ0_checkIndex_df160 cJ0_checkIndex_df160 2 none 2 := ⟨gmi 286 (by decide +kernel) (by decide +kernel), gmi 55 (by decide +kernel) (by decide +kernel), by decide +kernel, by decide +kernel, by decide +kernel⟩
theorem wm_J1_charAt_3b067 : WM yJ1_charAt_3b067 cJ1_charAt_3b067 2 (some .char) 2 := ⟨gmi 283 (by decide +kernel) (by decide +kernel), gmi 56 (by decide +kernel) (by decide +kernel), by decide +kernel, by decide +kernel, by decide +kernel⟩
theorem wm_J2_length_9d52b : WM yJ2_length_9d52b cJ2_length_9d52b 1 (some .int) 1 := ⟨gmi 300 (by decide +kernel) (by decide +kernel), gmi 58 (by decide +kernel) (by decide +kernel), by decide +kernel, by decide +kernel, by decide +kernel⟩
theorem wm_J2_checkIndex_2214a : WM yJ2_checkIndex_2214a cJ2_checkIndex_2214a 2 none 2 := ⟨gmi 297 (by decide +kernel) (by decide +kernel), gmi 58 (by decide +kernel) (by decide +kernel), by decide +kernel, by decide +kernel, by decide +kernel⟩
theorem wm_J2_getChar_3b067 : WM yJ2_getChar_3b067 cJ2_getChar_3b067 2 (some .char) 2 := ⟨gmi 304 (by decide +kernel) (by decide +kernel), gmi 58 (by decide +kernel) (by decide +kernel), by decide +kernel, by decide +kernel, by decide +kernel⟩
theorem wm_J2_charAt_3b067 : WM yJ2_charAt_3b067 cJ2_charAt_3b067 2 (some .char) 2 := ⟨gmi 294 (by decide +kernel) (by decide +kernel), gmi 58 (by decide +kernel) (by decide +kernel), by decide +kernel, by decide +kernel, by decide +kernel⟩
theorem wm_J0_charAt_5068e : WM yJ0_charAt_5068e cJ0_charAt_5068e 2 (some .char) 1 := ⟨gmi 276 (by decide +kernel) (by decide +kernel), gmi 55 (by decide +kernel) (by decide +kernel), by decide +kernel, by decide +kernel, by decide +kernel⟩
theorem wm_X11_fits : WM yX11_fits cX11_fits 3 (some .boolean) 2 := ⟨gmi 261 (by decide +kernel) (by decide +kernel), gmi 47 (by decide +kernel) (by decide +kernel), by decide +kernel, by decide +kernel, by decide +kernel⟩
theorem wm_X11_fault : WM yX11_fault cX11_fault 2 (some .int) 0 := ⟨gmi 258 (by decide +kernel) (by decide +kernel), gmi 47 (by decide +kernel) (by decide +kernel), by decide +kernel, by decide +kernel, by decide +kernel⟩
theorem wm_X11_forgetAll : WM yX11_forgetAll cX11_forgetAll 2 none 0 := ⟨gmi 320 (by decide +kernel) (by decide +kernel), gmi 47 (by decide +kernel) (by decide +kernel), by decide +kernel, by decide +kernel, by decide +kernel⟩
theorem wm_X11_digitAt : WM yX11_digitAt cX11_digitAt 2 (some .int) 1 := ⟨gmi 324 (by decide +kernel) (by decide +kernel), gmi 47 (by decide +kernel) (by decide +kernel), by decide +kernel, by decide +kernel, by decide +kernel⟩
theorem wm_X11_plain : WM yX11_plain cX11_plain 4 (some .int) 0 := ⟨gmi 315 (by decide +kernel) (by decide +kernel), gmi 47 (by decide +kernel) (by decide +kernel), by decide +kernel, by decide +kernel, by decide +kernel⟩
theorem wm_X11_hasPlain : WM yX11_hasPlain cX11_hasPlain 1 (some .boolean) 0 := ⟨gmi 340 (by decide +kernel) (by decide +kernel), gmi 47 (by decide +kernel) (by decide +kernel), by decide +kernel, by decide +kernel, by decide +kernel⟩
theorem wm_X11_isThere : WM yX11_isThere cX11_isThere 2 (some .boolean) 1 := ⟨gmi 336 (by decide +kernel) (by decide +kernel), gmi 47 (by decide +kernel) (by decide +kernel), by decide +kernel, by decide +kernel, by decide +kernel⟩
theorem wm_X11_hullsOn : WM yX11_hullsOn cX11_hullsOn 5 (some .int) 1 := ⟨gmi 355 (by decide +kernel) (by decide +kernel), gmi 47 (by decide +kernel) (by decide +kernel), by decide +kernel, by decide +kernel, by decide +kernel⟩
theorem wm_X11_cell : WM yX11_cell cX11_cell 3 (some .int) 2 := ⟨gmi 332 (by decide +kernel) (by decide +kernel), gmi 47 (by decide +kernel) (by decide +kernel), by decide +kernel, by decide +kernel, by decide +kernel⟩
theorem wm_X11_wind : WM yX11_wind cX11_wind 3 (some .int) 1 := ⟨gmi 359 (by decide +kernel) (by decide +kernel), gmi 47 (by decide +kernel) (by decide +kernel), by decide +kernel, by decide +kernel, by decide +kernel⟩
theorem wm_X11_pass : WM yX11_pass cX11_pass 2 (some .int) 1 := ⟨gmi 363 (by decide +kernel) (by decide +kernel), gmi 47 (by decide +kernel) (by decide +kernel), by decide +kernel, by decide +kernel, by decide +kernel⟩
theorem wm_X11_built : WM yX11_built cX11_built 3 (some (.object "WheatSea$Hull")) 3 := ⟨gmi 370 (by decide +kernel) (by decide +kernel), gmi 47 (by decide +kernel) (by decide +kernel), by decide +kernel, by decide +kernel, by decide +kernel⟩
theorem wm_X11_hull : WM yX11_hull cX11_hull 4 (some .int) 3 := ⟨gmi 367 (by decide +kernel) (by decide +kernel), gmi 47 (by decide +kernel) (by decide +kernel), by decide +kernel, by decide +kernel, by decide +kernel⟩
theorem wm_X11_hullNumbered : WM yX11_hullNumbered cX11_hullNumbered 2 (some (.object "WheatSea$Hull")) 1 := ⟨gmi 441 (by decide +kernel) (by decide +kernel), gmi 47 (by decide +kernel) (by decide +kernel), by decide +kernel, by decide +kernel, by decide +kernel⟩
theorem wm_X11_about : WM yX11_about cX11_about 4 (some .int) 2 := ⟨gmi 437 (by decide +kernel) (by decide +kernel), gmi 47 (by decide +kernel) (by decide +kernel), by decide +kernel, by decide +kernel, by decide +kernel⟩
theorem wm_X11_isKind : WM yX11_isKind cX11_isKind 2 (some .boolean) 2 := ⟨gmi 548 (by decide +kernel) (by decide +kernel), gmi 47 (by decide +kernel) (by decide +kernel), by decide +kernel, by decide +kernel, by decide +kernel⟩
theorem wm_X11_as : WM yX11_as cX11_as 4 (some .int) 2 := ⟨gmi 545 (by decide +kernel) (by decide +kernel), gmi 47 (by decide +kernel) (by decide +kernel), by decide +kernel, by decide +kernel, by decide +kernel⟩
theorem wm_X11_sail : WM yX11_sail cX11_sail 5 (some .int) 2 := ⟨gmi 552 (by decide +kernel) (by decide +kernel), gmi 47 (by decide +kernel) (by decide +kernel), by decide +kernel, by decide +kernel, by decide +kernel⟩
theorem wm_X11_voyage : WM yX11_voyage cX11_voyage 5 (some .int) 3 := ⟨gmi 557 (by decide +kernel) (by decide +kernel), gmi 47 (by decide +kernel) (by decide +kernel), by decide +kernel, by decide +kernel, by decide +kernel⟩
theorem wm_X11_latest : WM yX11_latest cX11_latest 5 (some .int) 2 := ⟨gmi 588 (by decide +kernel) (by decide +kernel), gmi 47 (by decide +kernel) (by decide +kernel), by decide +kernel, by decide +kernel, by decide +kernel⟩
theorem wm_X11_home : WM yX11_home cX11_home 4 (some .int) 2 := ⟨gmi 592 (by decide +kernel) (by decide +kernel), gmi 47 (by decide +kernel) (by decide +kernel), by decide +kernel, by decide +kernel, by decide +kernel⟩
theorem wm_X11_bestWind : WM yX11_bestWind cX11_bestWind 8 (some .int) 2 := ⟨gmi 616 (by decide +kernel) (by decide +kernel), gmi 47 (by decide +kernel) (by decide +kernel), by decide +kernel, by decide +kernel, by decide +kernel⟩
theorem wm_X11_see : WM yX11_see cX11_see 4 (some .int) 3 := ⟨gmi 620 (by decide +kernel) (by decide +kernel), gmi 47 (by decide +kernel) (by decide +kernel), by decide +kernel, by decide +kernel, by decide +kernel⟩
theorem wm_X11_forget : WM yX11_forget cX11_forget 2 (some .int) 0 := ⟨gmi 628 (by decide +kernel) (by decide +kernel), gmi 47 (by decide +kernel) (by decide +kernel), by decide +kernel, by decide +kernel, by decide +kernel⟩
theorem wm_X11_start : WM yX11_start cX11_start 3 (some .int) 1 := ⟨gmi 632 (by decide +kernel) (by decide +kernel), gmi 47 (by decide +kernel) (by decide +kernel), by decide +kernel, by decide +kernel, by decide +kernel⟩
theorem wm_X11_junes : WM yX11_junes cX11_junes 4 (some .int) 3 := ⟨gmi 662 (by decide +kernel) (by decide +kernel), gmi 47 (by decide +kernel) (by decide +kernel), by decide +kernel, by decide +kernel, by decide +kernel⟩
theorem wm_X11_image : WM yX11_image cX11_image 1 (some .int) 0 := ⟨gmi 693 (by decide +kernel) (by decide +kernel), gmi 47 (by decide +kernel) (by decide +kernel), by decide +kernel, by decide +kernel, by decide +kernel⟩
theorem wm_X11_restore : WM yX11_restore cX11_restore 1 (some .int) 0 := ⟨gmi 705 (by decide +kernel) (by decide +kernel), gmi 47 (by decide +kernel) (by decide +kernel), by decide +kernel, by decide +kernel, by decide +kernel⟩
theorem wm_X11_cutCells : WM yX11_cutCells cX11_cutCells 3 (some .int) 0 := ⟨gmi 717 (by decide +kernel) (by decide +kernel), gmi 47 (by decide +kernel) (by decide +kernel), by decide +kernel, by decide +kernel, by decide +kernel⟩
theorem wm_X11_strandedHulls : WM yX11_strandedHulls cX11_strandedHulls 4 (some .int) 0 := ⟨gmi 721 (by decide +kernel) (by decide +kernel), gmi 47 (by decide +kernel) (by decide +kernel), by decide +kernel, by decide +kernel, by decide +kernel⟩
theorem wm_X11_count : WM yX11_count cX11_count 2 (some .int) 1 := ⟨gmi 713 (by decide +kernel) (by decide +kernel), gmi 47 (by decide +kernel) (by decide +kernel), by decide +kernel, by decide +kernel, by decide +kernel⟩
theorem wm_X11_digestOfCells : WM yX11_digestOfCells cX11_digestOfCells 7 (some .long) 1 := ⟨gmi 730 (by decide +kernel) (by decide +kernel), gmi 47 (by decide +kernel) (by decide +kernel), by decide +kernel, by decide +kernel, by decide +kernel⟩
theorem wm_X11_digestOfHull : WM yX11_digestOfHull cX11_digestOfHull 8 (some .long) 3 := ⟨gmi 736 (by decide +kernel) (by decide +kernel), gmi 47 (by decide +kernel) (by decide +kernel), by decide +kernel, by decide +kernel, by decide +kernel⟩
theorem wm_X11_digest : WM yX11_digest cX11_digest 5 (some .long) 0 := ⟨gmi 725 (by decide +kernel) (by decide +kernel), gmi 47 (by decide +kernel) (by decide +kernel), by decide +kernel, by decide +kernel, by decide +kernel⟩
theorem wm_X12_init : WM yX12_init cX12_init 1 none 0 := ⟨gmi 743 (by decide +kernel) (by decide +kernel), gmi 54 (by decide +kernel) (by decide +kernel), by decide +kernel, by decide +kernel, by decide +kernel⟩
theorem wm_X12_in : WM yX12_in cX12_in 6 (some .boolean) 3 := ⟨gmi 837 (by decide +kernel) (by decide +kernel), gmi 54 (by decide +kernel) (by decide +kernel), by decide +kernel, by decide +kernel, by decide +kernel⟩
theorem wm_X12_letter : WM yX12_letter cX12_letter 2 (some .int) 1 := ⟨gmi 833 (by decide +kernel) (by decide +kernel), gmi 54 (by decide +kernel) (by decide +kernel), by decide +kernel, by decide +kernel, by decide +kernel⟩
theorem wm_X12_blank : WM yX12_blank cX12_blank 2 (some .int) 0 := ⟨gmi 841 (by decide +kernel) (by decide +kernel), gmi 54 (by decide +kernel) (by decide +kernel), by decide +kernel, by decide +kernel, by decide +kernel⟩
theorem wm_X12_isGood : WM yX12_isGood cX12_isGood 2 (some .boolean) 2 := ⟨gmi 852 (by decide +kernel) (by decide +kernel), gmi 54 (by decide +kernel) (by decide +kernel), by decide +kernel, by decide +kernel, by decide +kernel⟩
theorem wm_X12_faultOf : WM yX12_faultOf cX12_faultOf 2 (some .int) 0 := ⟨gmi 849 (by decide +kernel) (by decide +kernel), gmi 54 (by decide +kernel) (by decide +kernel), by decide +kernel, by decide +kernel, by decide +kernel⟩
theorem wm_X12_fault : WM yX12_fault cX12_fault 1 (some .int) 0 := ⟨gmi 845 (by decide +kernel) (by decide +kernel), gmi 54 (by decide +kernel) (by decide +kernel), by decide +kernel, by decide +kernel, by decide +kernel⟩
theorem wm_X12_plain : WM yX12_plain cX12_plain 3 (some .int) 0 := ⟨gmi 857 (by decide +kernel) (by decide +kernel), gmi 54 (by decide +kernel) (by decide +kernel), by decide +kernel, by decide +kernel, by decide +kernel⟩
theorem wm_X12_lacks : WM yX12_lacks cX12_lacks 1 (some .boolean) 0 := ⟨gmi 870 (by decide +kernel) (by decide +kernel), gmi 54 (by decide +kernel) (by decide +kernel), by decide +kernel, by decide +kernel, by decide +kernel⟩
theorem wm_X12_isCell : WM yX12_isCell cX12_isCell 2 (some .boolean) 1 := ⟨gmi 865 (by decide +kernel) (by decide +kernel), gmi 54 (by decide +kernel) (by decide +kernel), by decide +kernel, by decide +kernel, by decide +kernel⟩
theorem wm_X12_highAt : WM yX12_highAt cX12_highAt 4 (some .int) 3 := ⟨gmi 878 (by decide +kernel) (by decide +kernel), gmi 54 (by decide +kernel) (by decide +kernel), by decide +kernel, by decide +kernel, by decide +kernel⟩
theorem wm_X12_hullsAt : WM yX12_hullsAt cX12_hullsAt 4 (some .int) 1 := ⟨gmi 882 (by decide +kernel) (by decide +kernel), gmi 54 (by decide +kernel) (by decide +kernel), by decide +kernel, by decide +kernel, by decide +kernel⟩
theorem wm_X12_tellCell : WM yX12_tellCell cX12_tellCell 3 (some .int) 2 := ⟨gmi 874 (by decide +kernel) (by decide +kernel), gmi 54 (by decide +kernel) (by decide +kernel), by decide +kernel, by decide +kernel, by decide +kernel⟩
theorem wm_X12_cell : WM yX12_cell cX12_cell 3 (some .int) 2 := ⟨gmi 861 (by decide +kernel) (by decide +kernel), gmi 54 (by decide +kernel) (by decide +kernel), by decide +kernel, by decide +kernel, by decide +kernel⟩
theorem wm_X12_wind : WM yX12_wind cX12_wind 3 (some .int) 1 := ⟨gmi 886 (by decide +kernel) (by decide +kernel), gmi 54 (by decide +kernel) (by decide +kernel), by decide +kernel, by decide +kernel, by decide +kernel⟩
theorem wm_X12_pass : WM yX12_pass cX12_pass 2 (some .int) 1 := ⟨gmi 891 (by decide +kernel) (by decide +kernel), gmi 54 (by decide +kernel) (by decide +kernel), by decide +kernel, by decide +kernel, by decide +kernel⟩
theorem wm_X12_isHull : WM yX12_isHull cX12_isHull 2 (some .boolean) 1 := ⟨gmi 904 (by decide +kernel) (by decide +kernel), gmi 54 (by decide +kernel) (by decide +kernel), by decide +kernel, by decide +kernel, by decide +kernel⟩
theorem wm_X12_floats : WM yX12_floats cX12_floats 7 (some .boolean) 4 := ⟨gmi 924 (by decide +kernel) (by decide +kernel), gmi 54 (by decide +kernel) (by decide +kernel), by decide +kernel, by decide +kernel, by decide +kernel⟩
theorem wm_X12_beside : WM yX12_beside cX12_beside 3 (some .int) 2 := ⟨gmi 917 (by decide +kernel) (by decide +kernel), gmi 54 (by decide +kernel) (by decide +kernel), by decide +kernel, by decide +kernel, by decide +kernel⟩
theorem wm_X12_needs : WM yX12_needs cX12_needs 4 (some .int) 3 := ⟨gmi 920 (by decide +kernel) (by decide +kernel), gmi 54 (by decide +kernel) (by decide +kernel), by decide +kernel, by decide +kernel, by decide +kernel⟩
theorem wm_X12_hoursOf : WM yX12_hoursOf cX12_hoursOf 10 (some .int) 6 := ⟨gmi 914 (by decide +kernel) (by decide +kernel), gmi 54 (by decide +kernel) (by decide +kernel), by decide +kernel, by decide +kernel, by decide +kernel⟩
theorem wm_X12_hull : WM yX12_hull cX12_hull 4 (some .int) 3 := ⟨gmi 896 (by decide +kernel) (by decide +kernel), gmi 54 (by decide +kernel) (by decide +kernel), by decide +kernel, by decide +kernel, by decide +kernel⟩
theorem wm_X12_isStranded : WM yX12_isStranded cX12_isStranded 2 (some .boolean) 1 := ⟨gmi 928 (by decide +kernel) (by decide +kernel), gmi 54 (by decide +kernel) (by decide +kernel), by decide +kernel, by decide +kernel, by decide +kernel⟩
theorem wm_X12_tell : WM yX12_tell cX12_tell 3 (some .int) 2 := ⟨gmi 908 (by decide +kernel) (by decide +kernel), gmi 54 (by decide +kernel) (by decide +kernel), by decide +kernel, by decide +kernel, by decide +kernel⟩
theorem wm_X12_about : WM yX12_about cX12_about 3 (some .int) 2 := ⟨gmi 900 (by decide +kernel) (by decide +kernel), gmi 54 (by decide +kernel) (by decide +kernel), by decide +kernel, by decide +kernel, by decide +kernel⟩
theorem wm_X12_as : WM yX12_as cX12_as 5 (some .int) 2 := ⟨gmi 932 (by decide +kernel) (by decide +kernel), gmi 54 (by decide +kernel) (by decide +kernel), by decide +kernel, by decide +kernel, by decide +kernel⟩
theorem wm_X12_sail : WM yX12_sail cX12_sail 4 (some .int) 2 := ⟨gmi 936 (by decide +kernel) (by decide +kernel), gmi 54 (by decide +kernel) (by decide +kernel), by decide +kernel, by decide +kernel, by decide +kernel⟩
theorem wm_X12_layVoyage : WM yX12_layVoyage cX12_layVoyage 14 none 4 := ⟨gmi 949 (by decide +kernel) (by decide +kernel), gmi 54 (by decide +kernel) (by decide +kernel), by decide +kernel, by decide +kernel, by decide +kernel⟩
theorem wm_X12_hourBy : WM yX12_hourBy cX12_hourBy 6 (some .int) 5 := ⟨gmi 945 (by decide +kernel) (by decide +kernel), gmi 54 (by decide +kernel) (by decide +kernel), by decide +kernel, by decide +kernel, by decide +kernel⟩
theorem wm_X12_voyage : WM yX12_voyage cX12_voyage 5 (some .int) 3 := ⟨gmi 941 (by decide +kernel) (by decide +kernel), gmi 54 (by decide +kernel) (by decide +kernel), by decide +kernel, by decide +kernel, by decide +kernel⟩
theorem wm_X12_latest : WM yX12_latest cX12_latest 4 (some .int) 2 := ⟨gmi 954 (by decide +kernel) (by decide +kernel), gmi 54 (by decide +kernel) (by decide +kernel), by decide +kernel, by decide +kernel, by decide +kernel⟩
theorem wm_X12_isOrder : WM yX12_isOrder cX12_isOrder 5 (some .boolean) 1 := ⟨gmi 967 (by decide +kernel) (by decide +kernel), gmi 54 (by decide +kernel) (by decide +kernel), by decide +kernel, by decide +kernel, by decide +kernel⟩
theorem wm_X12_copy : WM yX12_copy cX12_copy 3 none 2 := ⟨gmi 970 (by decide +kernel) (by decide +kernel), gmi 54 (by decide +kernel) (by decide +kernel), by decide +kernel, by decide +kernel, by decide +kernel⟩
theorem wm_X12_layHome : WM yX12_layHome cX12_layHome 8 none 1 := ⟨gmi 963 (by decide +kernel) (by decide +kernel), gmi 54 (by decide +kernel) (by decide +kernel), by decide +kernel, by decide +kernel, by decide +kernel⟩
theorem wm_X12_home : WM yX12_home cX12_home 3 (some .int) 2 := ⟨gmi 958 (by decide +kernel) (by decide +kernel), gmi 54 (by decide +kernel) (by decide +kernel), by decide +kernel, by decide +kernel, by decide +kernel⟩
theorem wm_X12_bestWind : WM yX12_bestWind cX12_bestWind 8 (some .int) 2 := ⟨gmi 974 (by decide +kernel) (by decide +kernel), gmi 54 (by decide +kernel) (by decide +kernel), by decide +kernel, by decide +kernel, by decide +kernel⟩
theorem wm_X12_see : WM yX12_see cX12_see 4 (some .int) 3 := ⟨gmi 978 (by decide +kernel) (by decide +kernel), gmi 54 (by decide +kernel) (by decide +kernel), by decide +kernel, by decide +kernel, by decide +kernel⟩
theorem wm_X12_forget : WM yX12_forget cX12_forget 2 (some .int) 0 := ⟨gmi 983 (by decide +kernel) (by decide +kernel), gmi 54 (by decide +kernel) (by decide +kernel), by decide +kernel, by decide +kernel, by decide +kernel⟩
theorem wm_X12_seenAt : WM yX12_seenAt cX12_seenAt 5 (some .int) 2 := ⟨gmi 999 (by decide +kernel) (by decide +kernel), gmi 54 (by decide +kernel) (by decide +kernel), by decide +kernel, by decide +kernel, by decide +kernel⟩
theorem wm_X12_isSeenBetween : WM yX12_isSeenBetween cX12_isSeenBetween 6 (some .boolean) 3 := ⟨gmi 1003 (by decide +kernel) (by decide +kernel), gmi 54 (by decide +kernel) (by decide +kernel), by decide +kernel, by decide +kernel, by decide +kernel⟩
theorem wm_X12_canStart : WM yX12_canStart cX12_canStart 7 (some .boolean) 2 := ⟨gmi 995 (by decide +kernel) (by decide +kernel), gmi 54 (by decide +kernel) (by decide +kernel), by decide +kernel, by decide +kernel, by decide +kernel⟩
theorem wm_X12_startOf : WM yX12_startOf cX12_startOf 4 (some .int) 1 := ⟨gmi 991 (by decide +kernel) (by decide +kernel), gmi 54 (by decide +kernel) (by decide +kernel), by decide +kernel, by decide +kernel, by decide +kernel⟩
theorem wm_X12_start : WM yX12_start cX12_start 2 (some .int) 1 := ⟨gmi 987 (by decide +kernel) (by decide +kernel), gmi 54 (by decide +kernel) (by decide +kernel), by decide +kernel, by decide +kernel, by decide +kernel⟩
theorem wm_X12_draw : WM yX12_draw cX12_draw 2 (some .int) 1 := ⟨gmi 1012 (by decide +kernel) (by decide +kernel), gmi 54 (by decide +kernel) (by decide +kernel), by decide +kernel, by decide +kernel, by decide +kernel⟩
theorem wm_X12_strandedMany : WM yX12_strandedMany cX12_strandedMany 3 (some .int) 0 := ⟨gmi 1020 (by decide +kernel) (by decide +kernel), gmi 54 (by decide +kernel) (by decide +kernel), by decide +kernel, by decide +kernel, by decide +kernel⟩
theorem wm_X12_junes : WM yX12_junes cX12_junes 11 (some .int) 3 := ⟨gmi 1007 (by decide +kernel) (by decide +kernel), gmi 54 (by decide +kernel) (by decide +kernel), by decide +kernel, by decide +kernel, by decide +kernel⟩
theorem wm_X12_image : WM yX12_image cX12_image 1 (some .int) 0 := ⟨gmi 1024 (by decide +kernel) (by decide +kernel), gmi 54 (by decide +kernel) (by decide +kernel), by decide +kernel, by decide +kernel, by decide +kernel⟩
theorem wm_X12_restore : WM yX12_restore cX12_restore 1 (some .int) 0 := ⟨gmi 1028 (by decide +kernel) (by decide +kernel), gmi 54 (by decide +kernel) (by decide +kernel), by decide +kernel, by decide +kernel, by decide +kernel⟩
theorem wm_X12_cutMany : WM yX12_cutMany cX12_cutMany 3 (some .int) 0 := ⟨gmi 1040 (by decide +kernel) (by decide +kernel), gmi 54 (by decide +kernel) (by decide +kernel), by decide +kernel, by decide +kernel, by decide +kernel⟩
theorem wm_X12_countOf : WM yX12_countOf cX12_countOf 2 (some .int) 1 := ⟨gmi 1036 (by decide +kernel) (by decide +kernel), gmi 54 (by decide +kernel) (by decide +kernel), by decide +kernel, by decide +kernel, by decide +kernel⟩
theorem wm_X12_count : WM yX12_count cX12_count 2 (some .int) 1 := ⟨gmi 1032 (by decide +kernel) (by decide +kernel), gmi 54 (by decide +kernel) (by decide +kernel), by decide +kernel, by decide +kernel, by decide +kernel⟩
theorem wm_X12_say : WM yX12_say cX12_say 3 none 1 := ⟨gmi 1049 (by decide +kernel) (by decide +kernel), gmi 54 (by decide +kernel) (by decide +kernel), by decide +kernel, by decide +kernel, by decide +kernel⟩
theorem wm_X12_sayHull : WM yX12_sayHull cX12_sayHull 3 none 1 := ⟨gmi 1054 (by decide +kernel) (by decide +kernel), gmi 54 (by decide +kernel) (by decide +kernel), by decide +kernel, by decide +kernel, by decide +kernel⟩
theorem wm_X12_digest : WM yX12_digest cX12_digest 3 (some .long) 0 := ⟨gmi 1044 (by decide +kernel) (by decide +kernel), gmi 54 (by decide +kernel) (by decide +kernel), by decide +kernel, by decide +kernel, by decide +kernel⟩
theorem wm_J9_max_7cf53 : WM yJ9_max_7cf53 cJ9_max_7cf53 2 (some .int) 2 := ⟨gmi 643 (by decide +kernel) (by decide +kernel), gmi 64 (by decide +kernel) (by decide +kernel), by decide +kernel, by decide +kernel, by decide +kernel⟩
theorem lk_L_9 : Cond.methodLink RL 9 yX11_init ∈ lw_g := gmi 67 (by decide +kernel) (by decide +kernel)
theorem im_X11_init : Cond.instanceMethod yX11_init ∈ lw_g := gmi 68 (by decide +kernel) (by decide +kernel)
theorem lk_X11_3 : Cond.methodLink RX11 3 objectInit ∈ lw_g := gmi 70 (by decide +kernel) (by decide +kernel)
theorem lk_X11_21 : (RX11, 21, yX8_init) ∈ nestK := by decide +kernel
theorem im_X8_init : Cond.instanceMethod yX8_init ∈ lw_g := gmi 78 (by decide +kernel) (by decide +kernel)
theorem lk_X8_3 : Cond.methodLink RX8 3 objectInit ∈ lw_g := gmi 80 (by decide +kernel) (by decide +kernel)
theorem lk_X11_28 : (RX11, 28, yX5_init) ∈ nestK := by decide +kernel
theorem im_X5_init : Cond.instanceMethod yX5_init ∈ lw_g := gmi 105 (by decide +kernel) (by decide +kernel)
theorem lk_X5_3 : Cond.methodLink RX5 3 objectInit ∈ lw_g := gmi 107 (by decide +kernel) (by decide +kernel)
theorem lk_X5_11 : (RX5, 11, yX8_init) ∈ nestK := by decide +kernel
theorem lk_X11_35 : (RX11, 35, yX0_init) ∈ nestK := by decide +kernel
theorem im_X0_init : Cond.instanceMethod yX0_init ∈ lw_g := gmi 138 (by decide +kernel) (by decide +kernel)
theorem lk_X0_3 : Cond.methodLink RX0 3 objectInit ∈ lw_g := gmi 140 (by decide +kernel) (by decide +kernel)
theorem lk_X11_42 : (RX11, 42, yX3_init) ∈ nestK := by decide +kernel
theorem im_X3_init : Cond.instanceMethod yX3_init ∈ lw_g := gmi 151 (by decide +kernel) (by decide +kernel)
theorem lk_X3_3 : Cond.methodLink RX3 3 objectInit ∈ lw_g := gmi 153 (by decide +kernel) (by decide +kernel)
theorem lk_X11_49 : (RX11, 49, yX6_init) ∈ nestK := by decide +kernel
theorem im_X6_init : Cond.instanceMethod yX6_init ∈ lw_g := gmi 169 (by decide +kernel) (by decide +kernel)
theorem lk_X6_3 : Cond.methodLink RX6 3 objectInit ∈ lw_g := gmi 171 (by decide +kernel) (by decide +kernel)
theorem lk_X11_56 : Cond.methodLink RX11 56 yX7_init ∈ lw_g := gmi 190 (by decide +kernel) (by decide +kernel)
theorem im_X7_init : Cond.instanceMethod yX7_init ∈ lw_g := gmi 191 (by decide +kernel) (by decide +kernel)
theorem lk_X7_3 : Cond.methodLink RX7 3 objectInit ∈ lw_g := gmi 193 (by decide +kernel) (by decide +kernel)
theorem lk_L_13 : Cond.methodLink RL 13 yX11_letter ∈ lw_g := gmi 247 (by decide +kernel) (by decide +kernel)
theorem im_X11_letter : Cond.instanceMethod yX11_letter ∈ lw_g := gmi 248 (by decide +kernel) (by decide +kernel)
theorem se_X11_letter : Cond.selects RX11 yX11_letter yX11_letter ∈ lw_g := gmi 249 (by decide +kernel) (by decide +kernel)
theorem lk_L_18 : Cond.methodLink RL 18 yX11_blank ∈ lw_g := gmi 251 (by decide +kernel) (by decide +kernel)
theorem im_X11_blank : Cond.instanceMethod yX11_blank ∈ lw_g := gmi 252 (by decide +kernel) (by decide +kernel)
theorem se_X11_blank : Cond.selects RX11 yX11_blank yX11_blank ∈ lw_g := gmi 253 (by decide +kernel) (by decide +kernel)
theorem lk_L_23 : Cond.methodLink RL 23 yX11_fault ∈ lw_g := gmi 255 (by decide +kernel) (by decide +kernel)
theorem im_X11_fault : Cond.instanceMethod yX11_fault ∈ lw_g := gmi 256 (by decide +kernel) (by decide +kernel)
theorem se_X11_fault : Cond.selects RX11 yX11_fault yX11_fault ∈ lw_g := gmi 257 (by decide +kernel) (by decide +kernel)
theorem lk_X11_70 : Cond.methodLink RX11 70 yX11_fits ∈ lw_g := gmi 259 (by decide +kernel) (by decide +kernel)
theorem st_X11_fits : Cond.static yX11_fits ∈ lw_g := gmi 260 (by decide +kernel) (by decide +kernel)
theorem lk_X11_76 : Cond.methodLink RX11 76 yJ0_length_8abf5 ∈ lw_g := gmi 263 (by decide +kernel) (by decide +kernel)
theorem im_J0_length_8abf5 : Cond.instanceMethod yJ0_length_8abf5 ∈ lw_g := gmi 264 (by decide +kernel) (by decide +kernel)
theorem se_J0_length_8abf5 : Cond.selects RJ0 yJ0_length_8abf5 yJ0_length_8abf5 ∈ lw_g := gmi 265 (by decide +kernel) (by decide +kernel)
theorem lk_J0_335 : Cond.methodLink RJ0 335 yJ0_coder_7d493 ∈ lw_g := gmi 267 (by decide +kernel) (by decide +kernel)
theorem im_J0_coder_7d493 : Cond.instanceMethod yJ0_coder_7d493 ∈ lw_g := gmi 268 (by decide +kernel) (by decide +kernel)
theorem se_J0_coder_7d493 : Cond.selects RJ0 yJ0_coder_7d493 yJ0_coder_7d493 ∈ lw_g := gmi 269 (by decide +kernel) (by decide +kernel)
theorem lk_X11_262 : Cond.methodLink RX11 262 yJ0_charAt_5068e ∈ lw_g := gmi 273 (by decide +kernel) (by decide +kernel)
theorem im_J0_charAt_5068e : Cond.instanceMethod yJ0_charAt_5068e ∈ lw_g := gmi 274 (by decide +kernel) (by decide +kernel)
theorem se_J0_charAt_5068e : Cond.selects RJ0 yJ0_charAt_5068e yJ0_charAt_5068e ∈ lw_g := gmi 275 (by decide +kernel) (by decide +kernel)
theorem lk_J0_492 : Cond.methodLink RJ0 492 yJ0_isLatin1_aae02 ∈ lw_g := gmi 277 (by decide +kernel) (by decide +kernel)
theorem im_J0_isLatin1_aae02 : Cond.instanceMethod yJ0_isLatin1_aae02 ∈ lw_g := gmi 278 (by decide +kernel) (by decide +kernel)
theorem se_J0_isLatin1_aae02 : Cond.selects RJ0 yJ0_isLatin1_aae02 yJ0_isLatin1_aae02 ∈ lw_g := gmi 279 (by decide +kernel) (by decide +kernel)
theorem lk_J0_495 : Cond.methodLink RJ0 495 yJ1_charAt_3b067 ∈ lw_g := gmi 281 (by decide +kernel) (by decide +kernel)
theorem st_J1_charAt_3b067 : Cond.static yJ1_charAt_3b067 ∈ lw_g := gmi 282 (by decide +kernel) (by decide +kernel)
theorem lk_J1_9 : Cond.methodLink RJ1 9 yJ0_checkIndex_df160 ∈ lw_g := gmi 284 (by decide +kernel) (by decide +kernel)
theorem st_J0_checkIndex_df160 : Cond.static yJ0_checkIndex_df160 ∈ lw_g := gmi 285 (by decide +kernel) (by decide +kernel)
theorem lk_J0_1059 : Cond.methodLink RJ0 1059 yJ3_checkIndex_8e157 ∈ lw_g := gmi 289 (by decide +kernel) (by decide +kernel)
theorem st_J3_checkIndex_8e157 : Cond.static yJ3_checkIndex_8e157 ∈ lw_g := gmi 290 (by decide +kernel) (by decide +kernel)
theorem lk_J0_498 : Cond.methodLink RJ0 498 yJ2_charAt_3b067 ∈ lw_g := gmi 292 (by decide +kernel) (by decide +kernel)
theorem st_J2_charAt_3b067 : Cond.static yJ2_charAt_3b067 ∈ lw_g := gmi 293 (by decide +kernel) (by decide +kernel)
theorem lk_J2_67 : Cond.methodLink RJ2 67 yJ2_checkIndex_2214a ∈ lw_g := gmi 295 (by decide +kernel) (by decide +kernel)
theorem st_J2_checkIndex_2214a : Cond.static yJ2_checkIndex_2214a ∈ lw_g := gmi 296 (by decide +kernel) (by decide +kernel)
theorem lk_J2_48 : Cond.methodLink RJ2 48 yJ2_length_9d52b ∈ lw_g := gmi 298 (by decide +kernel) (by decide +kernel)
theorem st_J2_length_9d52b : Cond.static yJ2_length_9d52b ∈ lw_g := gmi 299 (by decide +kernel) (by decide +kernel)
theorem lk_J2_414 : Cond.methodLink RJ2 414 yJ0_checkIndex_df160 ∈ lw_g := gmi 301 (by decide +kernel) (by decide +kernel)
theorem lk_J2_71 : Cond.methodLink RJ2 71 yJ2_getChar_3b067 ∈ lw_g := gmi 302 (by decide +kernel) (by decide +kernel)
theorem st_J2_getChar_3b067 : Cond.static yJ2_getChar_3b067 ∈ lw_g := gmi 303 (by decide +kernel) (by decide +kernel)
theorem lk_L_27 : Cond.methodLink RL 27 yX11_plain ∈ lw_g := gmi 312 (by decide +kernel) (by decide +kernel)
theorem im_X11_plain : Cond.instanceMethod yX11_plain ∈ lw_g := gmi 313 (by decide +kernel) (by decide +kernel)
theorem se_X11_plain : Cond.selects RX11 yX11_plain yX11_plain ∈ lw_g := gmi 314 (by decide +kernel) (by decide +kernel)
theorem lk_X11_82 : Cond.methodLink RX11 82 yX11_fault ∈ lw_g := gmi 316 (by decide +kernel) (by decide +kernel)
theorem lk_X11_85 : Cond.methodLink RX11 85 yX11_forgetAll ∈ lw_g := gmi 317 (by decide +kernel) (by decide +kernel)
theorem im_X11_forgetAll : Cond.instanceMethod yX11_forgetAll ∈ lw_g := gmi 319 (by decide +kernel) (by decide +kernel)
theorem lk_X11_88 : Cond.methodLink RX11 88 yX11_digitAt ∈ lw_g := gmi 321 (by decide +kernel) (by decide +kernel)
theorem im_X11_digitAt : Cond.instanceMethod yX11_digitAt ∈ lw_g := gmi 323 (by decide +kernel) (by decide +kernel)
theorem lk_X11_92 : Cond.methodLink RX11 92 yX7_sow ∈ lw_g := gmi 325 (by decide +kernel) (by decide +kernel)
theorem im_X7_sow : Cond.instanceMethod yX7_sow ∈ lw_g := gmi 326 (by decide +kernel) (by decide +kernel)
theorem se_X7_sow : Cond.selects RX7 yX7_sow yX7_sow ∈ lw_g := gmi 327 (by decide +kernel) (by decide +kernel)
theorem lk_L_31 : Cond.methodLink RL 31 yX11_cell ∈ lw_g := gmi 329 (by decide +kernel) (by decide +kernel)
theorem im_X11_cell : Cond.instanceMethod yX11_cell ∈ lw_g := gmi 330 (by decide +kernel) (by decide +kernel)
theorem se_X11_cell : Cond.selects RX11 yX11_cell yX11_cell ∈ lw_g := gmi 331 (by decide +kernel) (by decide +kernel)
theorem lk_X11_102 : Cond.methodLink RX11 102 yX11_isThere ∈ lw_g := gmi 333 (by decide +kernel) (by decide +kernel)
theorem im_X11_isThere : Cond.instanceMethod yX11_isThere ∈ lw_g := gmi 335 (by decide +kernel) (by decide +kernel)
theorem lk_X11_119 : Cond.methodLink RX11 119 yX11_hasPlain ∈ lw_g := gmi 337 (by decide +kernel) (by decide +kernel)
theorem im_X11_hasPlain : Cond.instanceMethod yX11_hasPlain ∈ lw_g := gmi 339 (by decide +kernel) (by decide +kernel)
theorem lk_X11_259 : Cond.methodLink RX11 259 yX11_isCell ∈ lw_g := gmi 341 (by decide +kernel) (by decide +kernel)
theorem st_X11_isCell : Cond.static yX11_isCell ∈ lw_g := gmi 342 (by decide +kernel) (by decide +kernel)
theorem lk_X11_109 : Cond.methodLink RX11 109 yX7_highAt ∈ lw_g := gmi 344 (by decide +kernel) (by decide +kernel)
theorem im_X7_highAt : Cond.instanceMethod yX7_highAt ∈ lw_g := gmi 345 (by decide +kernel) (by decide +kernel)
theorem se_X7_highAt : Cond.selects RX7 yX7_highAt yX7_highAt ∈ lw_g := gmi 346 (by decide +kernel) (by decide +kernel)
theorem lk_X11_113 : Cond.methodLink RX11 113 yX7_cutHour ∈ lw_g := gmi 348 (by decide +kernel) (by decide +kernel)
theorem im_X7_cutHour : Cond.instanceMethod yX7_cutHour ∈ lw_g := gmi 349 (by decide +kernel) (by decide +kernel)
theorem se_X7_cutHour : Cond.selects RX7 yX7_cutHour yX7_cutHour ∈ lw_g := gmi 350 (by decide +kernel) (by decide +kernel)
theorem lk_X11_116 : Cond.methodLink RX11 116 yX11_hullsOn ∈ lw_g := gmi 352 (by decide +kernel) (by decide +kernel)
theorem im_X11_hullsOn : Cond.instanceMethod yX11_hullsOn ∈ lw_g := gmi 354 (by decide +kernel) (by decide +kernel)
theorem lk_L_36 : Cond.methodLink RL 36 yX11_wind ∈ lw_g := gmi 356 (by decide +kernel) (by decide +kernel)
theorem im_X11_wind : Cond.instanceMethod yX11_wind ∈ lw_g := gmi 357 (by decide +kernel) (by decide +kernel)
theorem se_X11_wind : Cond.selects RX11 yX11_wind yX11_wind ∈ lw_g := gmi 358 (by decide +kernel) (by decide +kernel)
theorem lk_L_40 : Cond.methodLink RL 40 yX11_pass ∈ lw_g := gmi 360 (by decide +kernel) (by decide +kernel)
theorem im_X11_pass : Cond.instanceMethod yX11_pass ∈ lw_g := gmi 361 (by decide +kernel) (by decide +kernel)
theorem se_X11_pass : Cond.selects RX11 yX11_pass yX11_pass ∈ lw_g := gmi 362 (by decide +kernel) (by decide +kernel)
theorem lk_L_44 : Cond.methodLink RL 44 yX11_hull ∈ lw_g := gmi 364 (by decide +kernel) (by decide +kernel)
theorem im_X11_hull : Cond.instanceMethod yX11_hull ∈ lw_g := gmi 365 (by decide +kernel) (by decide +kernel)
theorem se_X11_hull : Cond.selects RX11 yX11_hull yX11_hull ∈ lw_g := gmi 366 (by decide +kernel) (by decide +kernel)
theorem lk_X11_129 : Cond.methodLink RX11 129 yX11_built ∈ lw_g := gmi 368 (by decide +kernel) (by decide +kernel)
theorem st_X11_built : Cond.static yX11_built ∈ lw_g := gmi 369 (by decide +kernel) (by decide +kernel)
theorem lk_X11_268 : Cond.methodLink RX11 268 yX10_init ∈ lw_g := gmi 373 (by decide +kernel) (by decide +kernel)
theorem im_X10_init : Cond.instanceMethod yX10_init ∈ lw_g := gmi 374 (by decide +kernel) (by decide +kernel)
theorem lk_X10_1 : Cond.methodLink RX10 1 yX4_init ∈ lw_g := gmi 376 (by decide +kernel) (by decide +kernel)
theorem im_X4_init : Cond.instanceMethod yX4_init ∈ lw_g := gmi 377 (by decide +kernel) (by decide +kernel)
theorem lk_X4_3 : Cond.methodLink RX4 3 objectInit ∈ lw_g := gmi 379 (by decide +kernel) (by decide +kernel)
theorem lk_X11_272 : Cond.methodLink RX11 272 yX2_init ∈ lw_g := gmi 400 (by decide +kernel) (by decide +kernel)
theorem im_X2_init : Cond.instanceMethod yX2_init ∈ lw_g := gmi 401 (by decide +kernel) (by decide +kernel)
theorem lk_X2_1 : Cond.methodLink RX2 1 yX4_init ∈ lw_g := gmi 403 (by decide +kernel) (by decide +kernel)
theorem lk_X11_275 : Cond.methodLink RX11 275 yX9_init ∈ lw_g := gmi 410 (by decide +kernel) (by decide +kernel)
theorem im_X9_init : Cond.instanceMethod yX9_init ∈ lw_g := gmi 411 (by decide +kernel) (by decide +kernel)
theorem lk_X9_1 : Cond.methodLink RX9 1 yX4_init ∈ lw_g := gmi 413 (by decide +kernel) (by decide +kernel)
theorem lk_X11_278 : Cond.methodLink RX11 278 yX1_init ∈ lw_g := gmi 420 (by decide +kernel) (by decide +kernel)
theorem im_X1_init : Cond.instanceMethod yX1_init ∈ lw_g := gmi 421 (by decide +kernel) (by decide +kernel)
theorem lk_X1_1 : Cond.methodLink RX1 1 yX10_init ∈ lw_g := gmi 423 (by decide +kernel) (by decide +kernel)
theorem lk_X11_279 : Cond.methodLink RX11 279 yX4_init ∈ lw_g := gmi 429 (by decide +kernel) (by decide +kernel)
theorem lk_L_49 : Cond.methodLink RL 49 yX11_about ∈ lw_g := gmi 434 (by decide +kernel) (by decide +kernel)
theorem im_X11_about : Cond.instanceMethod yX11_about ∈ lw_g := gmi 435 (by decide +kernel) (by decide +kernel)
theorem se_X11_about : Cond.selects RX11 yX11_about yX11_about ∈ lw_g := gmi 436 (by decide +kernel) (by decide +kernel)
theorem lk_X11_133 : Cond.methodLink RX11 133 yX11_hullNumbered ∈ lw_g := gmi 438 (by decide +kernel) (by decide +kernel)
theorem im_X11_hullNumbered : Cond.instanceMethod yX11_hullNumbered ∈ lw_g := gmi 440 (by decide +kernel) (by decide +kernel)
theorem lk_X11_137 : Cond.methodLink RX11 137 yX4_kind ∈ lw_g := gmi 442 (by decide +kernel) (by decide +kernel)
theorem im_X4_kind : Cond.instanceMethod yX4_kind ∈ lw_g := gmi 443 (by decide +kernel) (by decide +kernel)
theorem se_X4_kind : Cond.selects RX4 yX4_kind yX4_kind ∈ lw_g := gmi 444 (by decide +kernel) (by decide +kernel)
theorem im_X1_kind : Cond.instanceMethod yX1_kind ∈ lw_g := gmi 447 (by decide +kernel) (by decide +kernel)
theorem im_X2_kind : Cond.instanceMethod yX2_kind ∈ lw_g := gmi 450 (by decide +kernel) (by decide +kernel)
theorem im_X9_kind : Cond.instanceMethod yX9_kind ∈ lw_g := gmi 453 (by decide +kernel) (by decide +kernel)
theorem im_X10_kind : Cond.instanceMethod yX10_kind ∈ lw_g := gmi 456 (by decide +kernel) (by decide +kernel)
theorem lk_X11_146 : Cond.methodLink RX11 146 yX7_floats ∈ lw_g := gmi 459 (by decide +kernel) (by decide +kernel)
theorem im_X7_floats : Cond.instanceMethod yX7_floats ∈ lw_g := gmi 460 (by decide +kernel) (by decide +kernel)
theorem se_X7_floats : Cond.selects RX7 yX7_floats yX7_floats ∈ lw_g := gmi 461 (by decide +kernel) (by decide +kernel)
theorem lk_X7_22 : Cond.methodLink RX7 22 yX7_highAt ∈ lw_g := gmi 463 (by decide +kernel) (by decide +kernel)
theorem lk_X7_26 : Cond.methodLink RX7 26 yX4_cornNeeded ∈ lw_g := gmi 464 (by decide +kernel) (by decide +kernel)
theorem im_X4_cornNeeded : Cond.instanceMethod yX4_cornNeeded ∈ lw_g := gmi 465 (by decide +kernel) (by decide +kernel)
theorem se_X4_cornNeeded : Cond.selects RX4 yX4_cornNeeded yX4_cornNeeded ∈ lw_g := gmi 466 (by decide +kernel) (by decide +kernel)
theorem im_X10_cornNeeded : Cond.instanceMethod yX10_cornNeeded ∈ lw_g := gmi 469 (by decide +kernel) (by decide +kernel)
theorem im_X9_cornNeeded : Cond.instanceMethod yX9_cornNeeded ∈ lw_g := gmi 473 (by decide +kernel) (by decide +kernel)
theorem lk_X11_153 : Cond.methodLink RX11 153 yX7_hoursToSail ∈ lw_g := gmi 477 (by decide +kernel) (by decide +kernel)
theorem im_X7_hoursToSail : Cond.instanceMethod yX7_hoursToSail ∈ lw_g := gmi 478 (by decide +kernel) (by decide +kernel)
theorem se_X7_hoursToSail : Cond.selects RX7 yX7_hoursToSail yX7_hoursToSail ∈ lw_g := gmi 479 (by decide +kernel) (by decide +kernel)
theorem lk_X7_32 : (RX7, 32, yX11_beside) ∈ nestK := by decide +kernel
theorem st_X11_beside : Cond.static yX11_beside ∈ lw_g := gmi 482 (by decide +kernel) (by decide +kernel)
theorem lk_X7_35 : Cond.methodLink RX7 35 yX7_floats ∈ lw_g := gmi 484 (by decide +kernel) (by decide +kernel)
theorem lk_X7_39 : Cond.methodLink RX7 39 yX4_hoursFor ∈ lw_g := gmi 485 (by decide +kernel) (by decide +kernel)
theorem im_X4_hoursFor : Cond.instanceMethod yX4_hoursFor ∈ lw_g := gmi 486 (by decide +kernel) (by decide +kernel)
theorem se_X4_hoursFor : Cond.selects RX4 yX4_hoursFor yX4_hoursFor ∈ lw_g := gmi 487 (by decide +kernel) (by decide +kernel)
theorem lk_X4_18 : Cond.methodLink RX4 18 yX4_hoursBecalmed ∈ lw_g := gmi 494 (by decide +kernel) (by decide +kernel)
theorem im_X4_hoursBecalmed : Cond.instanceMethod yX4_hoursBecalmed ∈ lw_g := gmi 495 (by decide +kernel) (by decide +kernel)
theorem se_X4_hoursBecalmed : Cond.selects RX4 yX4_hoursBecalmed yX4_hoursBecalmed ∈ lw_g := gmi 496 (by decide +kernel) (by decide +kernel)
theorem im_X1_hoursBecalmed : Cond.instanceMethod yX1_hoursBecalmed ∈ lw_g := gmi 499 (by decide +kernel) (by decide +kernel)
theorem im_X9_hoursBecalmed : Cond.instanceMethod yX9_hoursBecalmed ∈ lw_g := gmi 503 (by decide +kernel) (by decide +kernel)
theorem lk_X4_22 : Cond.methodLink RX4 22 yX4_hoursWith ∈ lw_g := gmi 507 (by decide +kernel) (by decide +kernel)
theorem im_X4_hoursWith : Cond.instanceMethod yX4_hoursWith ∈ lw_g := gmi 508 (by decide +kernel) (by decide +kernel)
theorem se_X4_hoursWith : Cond.selects RX4 yX4_hoursWith yX4_hoursWith ∈ lw_g := gmi 509 (by decide +kernel) (by decide +kernel)
theorem im_X9_hoursWith : Cond.instanceMethod yX9_hoursWith ∈ lw_g := gmi 514 (by decide +kernel) (by decide +kernel)
theorem lk_X4_25 : Cond.methodLink RX4 25 yX4_hoursAgainst ∈ lw_g := gmi 518 (by decide +kernel) (by decide +kernel)
theorem im_X4_hoursAgainst : Cond.instanceMethod yX4_hoursAgainst ∈ lw_g := gmi 519 (by decide +kernel) (by decide +kernel)
theorem se_X4_hoursAgainst : Cond.selects RX4 yX4_hoursAgainst yX4_hoursAgainst ∈ lw_g := gmi 520 (by decide +kernel) (by decide +kernel)
theorem im_X1_hoursAgainst : Cond.instanceMethod yX1_hoursAgainst ∈ lw_g := gmi 523 (by decide +kernel) (by decide +kernel)
theorem im_X2_hoursAgainst : Cond.instanceMethod yX2_hoursAgainst ∈ lw_g := gmi 526 (by decide +kernel) (by decide +kernel)
theorem lk_X4_28 : Cond.methodLink RX4 28 yX4_hoursAcross ∈ lw_g := gmi 531 (by decide +kernel) (by decide +kernel)
theorem im_X4_hoursAcross : Cond.instanceMethod yX4_hoursAcross ∈ lw_g := gmi 532 (by decide +kernel) (by decide +kernel)
theorem se_X4_hoursAcross : Cond.selects RX4 yX4_hoursAcross yX4_hoursAcross ∈ lw_g := gmi 533 (by decide +kernel) (by decide +kernel)
theorem im_X9_hoursAcross : Cond.instanceMethod yX9_hoursAcross ∈ lw_g := gmi 538 (by decide +kernel) (by decide +kernel)
theorem lk_L_53 : Cond.methodLink RL 53 yX11_as ∈ lw_g := gmi 542 (by decide +kernel) (by decide +kernel)
theorem im_X11_as : Cond.instanceMethod yX11_as ∈ lw_g := gmi 543 (by decide +kernel) (by decide +kernel)
theorem se_X11_as : Cond.selects RX11 yX11_as yX11_as ∈ lw_g := gmi 544 (by decide +kernel) (by decide +kernel)
theorem lk_X11_157 : Cond.methodLink RX11 157 yX11_isKind ∈ lw_g := gmi 546 (by decide +kernel) (by decide +kernel)
theorem st_X11_isKind : Cond.static yX11_isKind ∈ lw_g := gmi 547 (by decide +kernel) (by decide +kernel)
theorem lk_L_57 : Cond.methodLink RL 57 yX11_sail ∈ lw_g := gmi 549 (by decide +kernel) (by decide +kernel)
theorem im_X11_sail : Cond.instanceMethod yX11_sail ∈ lw_g := gmi 550 (by decide +kernel) (by decide +kernel)
theorem se_X11_sail : Cond.selects RX11 yX11_sail yX11_sail ∈ lw_g := gmi 551 (by decide +kernel) (by decide +kernel)
theorem lk_X11_161 : Cond.methodLink RX11 161 yX11_beside ∈ lw_g := gmi 553 (by decide +kernel) (by decide +kernel)
theorem lk_L_61 : Cond.methodLink RL 61 yX11_voyage ∈ lw_g := gmi 554 (by decide +kernel) (by decide +kernel)
theorem im_X11_voyage : Cond.instanceMethod yX11_voyage ∈ lw_g := gmi 555 (by decide +kernel) (by decide +kernel)
theorem se_X11_voyage : Cond.selects RX11 yX11_voyage yX11_voyage ∈ lw_g := gmi 556 (by decide +kernel) (by decide +kernel)
theorem lk_X11_164 : Cond.methodLink RX11 164 yX0_plot ∈ lw_g := gmi 558 (by decide +kernel) (by decide +kernel)
theorem im_X0_plot : Cond.instanceMethod yX0_plot ∈ lw_g := gmi 559 (by decide +kernel) (by decide +kernel)
theorem se_X0_plot : Cond.selects RX0 yX0_plot yX0_plot ∈ lw_g := gmi 560 (by decide +kernel) (by decide +kernel)
theorem lk_X0_18 : (RX0, 18, yX11_isCell) ∈ nestK := by decide +kernel
theorem lk_X0_22 : Cond.methodLink RX0 22 yX0_sailOnFrom ∈ lw_g := gmi 563 (by decide +kernel) (by decide +kernel)
theorem im_X0_sailOnFrom : Cond.instanceMethod yX0_sailOnFrom ∈ lw_g := gmi 565 (by decide +kernel) (by decide +kernel)
theorem lk_X0_30 : Cond.methodLink RX0 30 yX7_hoursToSail ∈ lw_g := gmi 567 (by decide +kernel) (by decide +kernel)
theorem lk_X0_36 : (RX0, 36, yX11_beside) ∈ nestK := by decide +kernel
theorem lk_X0_40 : Cond.methodLink RX0 40 yX0_arrive ∈ lw_g := gmi 569 (by decide +kernel) (by decide +kernel)
theorem im_X0_arrive : Cond.instanceMethod yX0_arrive ∈ lw_g := gmi 571 (by decide +kernel) (by decide +kernel)
theorem lk_X0_26 : Cond.methodLink RX0 26 yX0_soonestOpen ∈ lw_g := gmi 573 (by decide +kernel) (by decide +kernel)
theorem im_X0_soonestOpen : Cond.instanceMethod yX0_soonestOpen ∈ lw_g := gmi 575 (by decide +kernel) (by decide +kernel)
theorem lk_X11_168 : Cond.methodLink RX11 168 yX0_hourAt ∈ lw_g := gmi 577 (by decide +kernel) (by decide +kernel)
theorem im_X0_hourAt : Cond.instanceMethod yX0_hourAt ∈ lw_g := gmi 578 (by decide +kernel) (by decide +kernel)
theorem se_X0_hourAt : Cond.selects RX0 yX0_hourAt yX0_hourAt ∈ lw_g := gmi 579 (by decide +kernel) (by decide +kernel)
theorem lk_X11_171 : Cond.methodLink RX11 171 yX0_firstWayTo ∈ lw_g := gmi 581 (by decide +kernel) (by decide +kernel)
theorem im_X0_firstWayTo : Cond.instanceMethod yX0_firstWayTo ∈ lw_g := gmi 582 (by decide +kernel) (by decide +kernel)
theorem se_X0_firstWayTo : Cond.selects RX0 yX0_firstWayTo yX0_firstWayTo ∈ lw_g := gmi 583 (by decide +kernel) (by decide +kernel)
theorem lk_L_65 : Cond.methodLink RL 65 yX11_latest ∈ lw_g := gmi 585 (by decide +kernel) (by decide +kernel)
theorem im_X11_latest : Cond.instanceMethod yX11_latest ∈ lw_g := gmi 586 (by decide +kernel) (by decide +kernel)
theorem se_X11_latest : Cond.selects RX11 yX11_latest yX11_latest ∈ lw_g := gmi 587 (by decide +kernel) (by decide +kernel)
theorem lk_L_69 : Cond.methodLink RL 69 yX11_home ∈ lw_g := gmi 589 (by decide +kernel) (by decide +kernel)
theorem im_X11_home : Cond.instanceMethod yX11_home ∈ lw_g := gmi 590 (by decide +kernel) (by decide +kernel)
theorem se_X11_home : Cond.selects RX11 yX11_home yX11_home ∈ lw_g := gmi 591 (by decide +kernel) (by decide +kernel)
theorem lk_X11_174 : Cond.methodLink RX11 174 yX3_find ∈ lw_g := gmi 593 (by decide +kernel) (by decide +kernel)
theorem im_X3_find : Cond.instanceMethod yX3_find ∈ lw_g := gmi 594 (by decide +kernel) (by decide +kernel)
theorem se_X3_find : Cond.selects RX3 yX3_find yX3_find ∈ lw_g := gmi 595 (by decide +kernel) (by decide +kernel)
theorem lk_X3_25 : Cond.methodLink RX3 25 yX3_hullIn ∈ lw_g := gmi 599 (by decide +kernel) (by decide +kernel)
theorem im_X3_hullIn : Cond.instanceMethod yX3_hullIn ∈ lw_g := gmi 601 (by decide +kernel) (by decide +kernel)
theorem lk_X3_44 : Cond.methodLink RX3 44 yX3_numberIn ∈ lw_g := gmi 603 (by decide +kernel) (by decide +kernel)
theorem im_X3_numberIn : Cond.instanceMethod yX3_numberIn ∈ lw_g := gmi 605 (by decide +kernel) (by decide +kernel)
theorem lk_X3_34 : Cond.methodLink RX3 34 yX0_plot ∈ lw_g := gmi 607 (by decide +kernel) (by decide +kernel)
theorem lk_X3_40 : Cond.methodLink RX3 40 yX0_hourAt ∈ lw_g := gmi 608 (by decide +kernel) (by decide +kernel)
theorem lk_X11_178 : Cond.methodLink RX11 178 yX3_hullInPlace ∈ lw_g := gmi 609 (by decide +kernel) (by decide +kernel)
theorem im_X3_hullInPlace : Cond.instanceMethod yX3_hullInPlace ∈ lw_g := gmi 610 (by decide +kernel) (by decide +kernel)
theorem se_X3_hullInPlace : Cond.selects RX3 yX3_hullInPlace yX3_hullInPlace ∈ lw_g := gmi 611 (by decide +kernel) (by decide +kernel)
theorem lk_L_73 : Cond.methodLink RL 73 yX11_bestWind ∈ lw_g := gmi 613 (by decide +kernel) (by decide +kernel)
theorem im_X11_bestWind : Cond.instanceMethod yX11_bestWind ∈ lw_g := gmi 614 (by decide +kernel) (by decide +kernel)
theorem se_X11_bestWind : Cond.selects RX11 yX11_bestWind yX11_bestWind ∈ lw_g := gmi 615 (by decide +kernel) (by decide +kernel)
theorem lk_L_77 : Cond.methodLink RL 77 yX11_see ∈ lw_g := gmi 617 (by decide +kernel) (by decide +kernel)
theorem im_X11_see : Cond.instanceMethod yX11_see ∈ lw_g := gmi 618 (by decide +kernel) (by decide +kernel)
theorem se_X11_see : Cond.selects RX11 yX11_see yX11_see ∈ lw_g := gmi 619 (by decide +kernel) (by decide +kernel)
theorem lk_X11_185 : Cond.methodLink RX11 185 yX8_add ∈ lw_g := gmi 621 (by decide +kernel) (by decide +kernel)
theorem im_X8_add : Cond.instanceMethod yX8_add ∈ lw_g := gmi 622 (by decide +kernel) (by decide +kernel)
theorem se_X8_add : Cond.selects RX8 yX8_add yX8_add ∈ lw_g := gmi 623 (by decide +kernel) (by decide +kernel)
theorem lk_L_81 : Cond.methodLink RL 81 yX11_forget ∈ lw_g := gmi 625 (by decide +kernel) (by decide +kernel)
theorem im_X11_forget : Cond.instanceMethod yX11_forget ∈ lw_g := gmi 626 (by decide +kernel) (by decide +kernel)
theorem se_X11_forget : Cond.selects RX11 yX11_forget yX11_forget ∈ lw_g := gmi 627 (by decide +kernel) (by decide +kernel)
theorem lk_L_85 : Cond.methodLink RL 85 yX11_start ∈ lw_g := gmi 629 (by decide +kernel) (by decide +kernel)
theorem im_X11_start : Cond.instanceMethod yX11_start ∈ lw_g := gmi 630 (by decide +kernel) (by decide +kernel)
theorem se_X11_start : Cond.selects RX11 yX11_start yX11_start ∈ lw_g := gmi 631 (by decide +kernel) (by decide +kernel)
theorem lk_X11_190 : Cond.methodLink RX11 190 yX8_startsOf ∈ lw_g := gmi 633 (by decide +kernel) (by decide +kernel)
theorem im_X8_startsOf : Cond.instanceMethod yX8_startsOf ∈ lw_g := gmi 634 (by decide +kernel) (by decide +kernel)
theorem se_X8_startsOf : Cond.selects RX8 yX8_startsOf yX8_startsOf ∈ lw_g := gmi 635 (by decide +kernel) (by decide +kernel)
theorem lk_X8_31 : Cond.methodLink RX8 31 yX8_lookUp ∈ lw_g := gmi 637 (by decide +kernel) (by decide +kernel)
theorem im_X8_lookUp : Cond.instanceMethod yX8_lookUp ∈ lw_g := gmi 639 (by decide +kernel) (by decide +kernel)
theorem lk_X8_39 : Cond.methodLink RX8 39 yJ9_max_7cf53 ∈ lw_g := gmi 641 (by decide +kernel) (by decide +kernel)
theorem st_J9_max_7cf53 : Cond.static yJ9_max_7cf53 ∈ lw_g := gmi 642 (by decide +kernel) (by decide +kernel)
theorem lk_X8_35 : Cond.methodLink RX8 35 yX8_goesOn ∈ lw_g := gmi 644 (by decide +kernel) (by decide +kernel)
theorem im_X8_goesOn : Cond.instanceMethod yX8_goesOn ∈ lw_g := gmi 646 (by decide +kernel) (by decide +kernel)
theorem lk_X8_45 : Cond.methodLink RX8 45 yX8_canBe ∈ lw_g := gmi 648 (by decide +kernel) (by decide +kernel)
theorem im_X8_canBe : Cond.instanceMethod yX8_canBe ∈ lw_g := gmi 650 (by decide +kernel) (by decide +kernel)
theorem lk_X8_62 : (RX8, 62, yX11_isCell) ∈ nestK := by decide +kernel
theorem lk_X8_49 : Cond.methodLink RX8 49 yX7_hoursToSail ∈ lw_g := gmi 653 (by decide +kernel) (by decide +kernel)
theorem lk_X8_55 : Cond.methodLink RX8 55 yX8_unseenBetween ∈ lw_g := gmi 654 (by decide +kernel) (by decide +kernel)
theorem im_X8_unseenBetween : Cond.instanceMethod yX8_unseenBetween ∈ lw_g := gmi 656 (by decide +kernel) (by decide +kernel)
theorem lk_X8_59 : (RX8, 59, yX11_beside) ∈ nestK := by decide +kernel
theorem lk_L_89 : Cond.methodLink RL 89 yX11_junes ∈ lw_g := gmi 659 (by decide +kernel) (by decide +kernel)
theorem im_X11_junes : Cond.instanceMethod yX11_junes ∈ lw_g := gmi 660 (by decide +kernel) (by decide +kernel)
theorem se_X11_junes : Cond.selects RX11 yX11_junes yX11_junes ∈ lw_g := gmi 661 (by decide +kernel) (by decide +kernel)
theorem lk_X11_194 : Cond.methodLink RX11 194 yX6_begin ∈ lw_g := gmi 663 (by decide +kernel) (by decide +kernel)
theorem im_X6_begin : Cond.instanceMethod yX6_begin ∈ lw_g := gmi 664 (by decide +kernel) (by decide +kernel)
theorem se_X6_begin : Cond.selects RX6 yX6_begin yX6_begin ∈ lw_g := gmi 665 (by decide +kernel) (by decide +kernel)
theorem lk_X11_198 : Cond.methodLink RX11 198 yX6_run ∈ lw_g := gmi 667 (by decide +kernel) (by decide +kernel)
theorem im_X6_run : Cond.instanceMethod yX6_run ∈ lw_g := gmi 668 (by decide +kernel) (by decide +kernel)
theorem se_X6_run : Cond.selects RX6 yX6_run yX6_run ∈ lw_g := gmi 669 (by decide +kernel) (by decide +kernel)
theorem lk_X6_30 : Cond.methodLink RX6 30 yX6_drawn ∈ lw_g := gmi 671 (by decide +kernel) (by decide +kernel)
theorem im_X6_drawn : Cond.instanceMethod yX6_drawn ∈ lw_g := gmi 673 (by decide +kernel) (by decide +kernel)
theorem lk_X6_39 : Cond.methodLink RX6 39 yX6_afterSailing ∈ lw_g := gmi 679 (by decide +kernel) (by decide +kernel)
theorem im_X6_afterSailing : Cond.instanceMethod yX6_afterSailing ∈ lw_g := gmi 681 (by decide +kernel) (by decide +kernel)
theorem lk_X6_47 : Cond.methodLink RX6 47 yX7_hoursToSail ∈ lw_g := gmi 683 (by decide +kernel) (by decide +kernel)
theorem lk_X6_51 : (RX6, 51, yX11_beside) ∈ nestK := by decide +kernel
theorem lk_X11_205 : Cond.methodLink RX11 205 yX6_stranded ∈ lw_g := gmi 685 (by decide +kernel) (by decide +kernel)
theorem im_X6_stranded : Cond.instanceMethod yX6_stranded ∈ lw_g := gmi 686 (by decide +kernel) (by decide +kernel)
theorem se_X6_stranded : Cond.selects RX6 yX6_stranded yX6_stranded ∈ lw_g := gmi 687 (by decide +kernel) (by decide +kernel)
theorem lk_X6_43 : Cond.methodLink RX6 43 yX7_floats ∈ lw_g := gmi 689 (by decide +kernel) (by decide +kernel)
theorem lk_L_93 : Cond.methodLink RL 93 yX11_image ∈ lw_g := gmi 690 (by decide +kernel) (by decide +kernel)
theorem im_X11_image : Cond.instanceMethod yX11_image ∈ lw_g := gmi 691 (by decide +kernel) (by decide +kernel)
theorem se_X11_image : Cond.selects RX11 yX11_image yX11_image ∈ lw_g := gmi 692 (by decide +kernel) (by decide +kernel)
theorem lk_X11_213 : Cond.methodLink RX11 213 yX5_keep ∈ lw_g := gmi 694 (by decide +kernel) (by decide +kernel)
theorem im_X5_keep : Cond.instanceMethod yX5_keep ∈ lw_g := gmi 695 (by decide +kernel) (by decide +kernel)
theorem se_X5_keep : Cond.selects RX5 yX5_keep yX5_keep ∈ lw_g := gmi 696 (by decide +kernel) (by decide +kernel)
theorem lk_X11_220 : Cond.methodLink RX11 220 yX8_become ∈ lw_g := gmi 698 (by decide +kernel) (by decide +kernel)
theorem im_X8_become : Cond.instanceMethod yX8_become ∈ lw_g := gmi 699 (by decide +kernel) (by decide +kernel)
theorem se_X8_become : Cond.selects RX8 yX8_become yX8_become ∈ lw_g := gmi 700 (by decide +kernel) (by decide +kernel)
theorem lk_L_97 : Cond.methodLink RL 97 yX11_restore ∈ lw_g := gmi 702 (by decide +kernel) (by decide +kernel)
theorem im_X11_restore : Cond.instanceMethod yX11_restore ∈ lw_g := gmi 703 (by decide +kernel) (by decide +kernel)
theorem se_X11_restore : Cond.selects RX11 yX11_restore yX11_restore ∈ lw_g := gmi 704 (by decide +kernel) (by decide +kernel)
theorem lk_X11_228 : Cond.methodLink RX11 228 yX5_giveBack ∈ lw_g := gmi 706 (by decide +kernel) (by decide +kernel)
theorem im_X5_giveBack : Cond.instanceMethod yX5_giveBack ∈ lw_g := gmi 707 (by decide +kernel) (by decide +kernel)
theorem se_X5_giveBack : Cond.selects RX5 yX5_giveBack yX5_giveBack ∈ lw_g := gmi 708 (by decide +kernel) (by decide +kernel)
theorem lk_L_101 : Cond.methodLink RL 101 yX11_count ∈ lw_g := gmi 710 (by decide +kernel) (by decide +kernel)
theorem im_X11_count : Cond.instanceMethod yX11_count ∈ lw_g := gmi 711 (by decide +kernel) (by decide +kernel)
theorem se_X11_count : Cond.selects RX11 yX11_count yX11_count ∈ lw_g := gmi 712 (by decide +kernel) (by decide +kernel)
theorem lk_X11_233 : Cond.methodLink RX11 233 yX11_cutCells ∈ lw_g := gmi 714 (by decide +kernel) (by decide +kernel)
theorem im_X11_cutCells : Cond.instanceMethod yX11_cutCells ∈ lw_g := gmi 716 (by decide +kernel) (by decide +kernel)
theorem lk_X11_236 : Cond.methodLink RX11 236 yX11_strandedHulls ∈ lw_g := gmi 718 (by decide +kernel) (by decide +kernel)
theorem im_X11_strandedHulls : Cond.instanceMethod yX11_strandedHulls ∈ lw_g := gmi 720 (by decide +kernel) (by decide +kernel)
theorem lk_L_105 : Cond.methodLink RL 105 yX11_digest ∈ lw_g := gmi 722 (by decide +kernel) (by decide +kernel)
theorem im_X11_digest : Cond.instanceMethod yX11_digest ∈ lw_g := gmi 723 (by decide +kernel) (by decide +kernel)
theorem se_X11_digest : Cond.selects RX11 yX11_digest yX11_digest ∈ lw_g := gmi 724 (by decide +kernel) (by decide +kernel)
theorem lk_X11_241 : Cond.methodLink RX11 241 yX11_digestOfCells ∈ lw_g := gmi 727 (by decide +kernel) (by decide +kernel)
theorem im_X11_digestOfCells : Cond.instanceMethod yX11_digestOfCells ∈ lw_g := gmi 729 (by decide +kernel) (by decide +kernel)
theorem lk_X11_254 : Cond.methodLink RX11 254 yX11_cell ∈ lw_g := gmi 732 (by decide +kernel) (by decide +kernel)
theorem lk_X11_245 : Cond.methodLink RX11 245 yX11_digestOfHull ∈ lw_g := gmi 733 (by decide +kernel) (by decide +kernel)
theorem im_X11_digestOfHull : Cond.instanceMethod yX11_digestOfHull ∈ lw_g := gmi 735 (by decide +kernel) (by decide +kernel)
theorem lk_X11_256 : Cond.methodLink RX11 256 yX11_about ∈ lw_g := gmi 737 (by decide +kernel) (by decide +kernel)
theorem lk_X11_251 : Cond.methodLink RX11 251 yX11_count ∈ lw_g := gmi 738 (by decide +kernel) (by decide +kernel)
theorem lk_L_12 : Cond.methodLink RL 12 yX12_init ∈ lw_g := gmi 741 (by decide +kernel) (by decide +kernel)
theorem im_X12_init : Cond.instanceMethod yX12_init ∈ lw_g := gmi 742 (by decide +kernel) (by decide +kernel)
theorem lk_X12_1 : Cond.methodLink RX12 1 objectInit ∈ lw_g := gmi 744 (by decide +kernel) (by decide +kernel)
theorem lk_L_17 : Cond.methodLink RL 17 yX12_letter ∈ lw_g := gmi 830 (by decide +kernel) (by decide +kernel)
theorem im_X12_letter : Cond.instanceMethod yX12_letter ∈ lw_g := gmi 831 (by decide +kernel) (by decide +kernel)
theorem se_X12_letter : Cond.selects RX12 yX12_letter yX12_letter ∈ lw_g := gmi 832 (by decide +kernel) (by decide +kernel)
theorem lk_X12_55 : Cond.methodLink RX12 55 yX12_in ∈ lw_g := gmi 835 (by decide +kernel) (by decide +kernel)
theorem st_X12_in : Cond.static yX12_in ∈ lw_g := gmi 836 (by decide +kernel) (by decide +kernel)
theorem lk_L_22 : Cond.methodLink RL 22 yX12_blank ∈ lw_g := gmi 838 (by decide +kernel) (by decide +kernel)
theorem im_X12_blank : Cond.instanceMethod yX12_blank ∈ lw_g := gmi 839 (by decide +kernel) (by decide +kernel)
theorem se_X12_blank : Cond.selects RX12 yX12_blank yX12_blank ∈ lw_g := gmi 840 (by decide +kernel) (by decide +kernel)
theorem lk_L_26 : Cond.methodLink RL 26 yX12_fault ∈ lw_g := gmi 842 (by decide +kernel) (by decide +kernel)
theorem im_X12_fault : Cond.instanceMethod yX12_fault ∈ lw_g := gmi 843 (by decide +kernel) (by decide +kernel)
theorem se_X12_fault : Cond.selects RX12 yX12_fault yX12_fault ∈ lw_g := gmi 844 (by decide +kernel) (by decide +kernel)
theorem lk_X12_68 : Cond.methodLink RX12 68 yX12_faultOf ∈ lw_g := gmi 846 (by decide +kernel) (by decide +kernel)
theorem im_X12_faultOf : Cond.instanceMethod yX12_faultOf ∈ lw_g := gmi 848 (by decide +kernel) (by decide +kernel)
theorem lk_X12_64 : Cond.methodLink RX12 64 yX12_isGood ∈ lw_g := gmi 850 (by decide +kernel) (by decide +kernel)
theorem st_X12_isGood : Cond.static yX12_isGood ∈ lw_g := gmi 851 (by decide +kernel) (by decide +kernel)
theorem lk_L_30 : Cond.methodLink RL 30 yX12_plain ∈ lw_g := gmi 854 (by decide +kernel) (by decide +kernel)
theorem im_X12_plain : Cond.instanceMethod yX12_plain ∈ lw_g := gmi 855 (by decide +kernel) (by decide +kernel)
theorem se_X12_plain : Cond.selects RX12 yX12_plain yX12_plain ∈ lw_g := gmi 856 (by decide +kernel) (by decide +kernel)
theorem lk_L_35 : Cond.methodLink RL 35 yX12_cell ∈ lw_g := gmi 858 (by decide +kernel) (by decide +kernel)
theorem im_X12_cell : Cond.instanceMethod yX12_cell ∈ lw_g := gmi 859 (by decide +kernel) (by decide +kernel)
theorem se_X12_cell : Cond.selects RX12 yX12_cell yX12_cell ∈ lw_g := gmi 860 (by decide +kernel) (by decide +kernel)
theorem lk_X12_101 : Cond.methodLink RX12 101 yX12_isCell ∈ lw_g := gmi 862 (by decide +kernel) (by decide +kernel)
theorem im_X12_isCell : Cond.instanceMethod yX12_isCell ∈ lw_g := gmi 864 (by decide +kernel) (by decide +kernel)
theorem lk_X12_89 : Cond.methodLink RX12 89 yX12_lacks ∈ lw_g := gmi 867 (by decide +kernel) (by decide +kernel)
theorem im_X12_lacks : Cond.instanceMethod yX12_lacks ∈ lw_g := gmi 869 (by decide +kernel) (by decide +kernel)
theorem lk_X12_105 : Cond.methodLink RX12 105 yX12_tellCell ∈ lw_g := gmi 871 (by decide +kernel) (by decide +kernel)
theorem im_X12_tellCell : Cond.instanceMethod yX12_tellCell ∈ lw_g := gmi 873 (by decide +kernel) (by decide +kernel)
theorem lk_X12_93 : Cond.methodLink RX12 93 yX12_highAt ∈ lw_g := gmi 875 (by decide +kernel) (by decide +kernel)
theorem im_X12_highAt : Cond.instanceMethod yX12_highAt ∈ lw_g := gmi 877 (by decide +kernel) (by decide +kernel)
theorem lk_X12_97 : Cond.methodLink RX12 97 yX12_hullsAt ∈ lw_g := gmi 879 (by decide +kernel) (by decide +kernel)
theorem im_X12_hullsAt : Cond.instanceMethod yX12_hullsAt ∈ lw_g := gmi 881 (by decide +kernel) (by decide +kernel)
theorem lk_L_39 : Cond.methodLink RL 39 yX12_wind ∈ lw_g := gmi 883 (by decide +kernel) (by decide +kernel)
theorem im_X12_wind : Cond.instanceMethod yX12_wind ∈ lw_g := gmi 884 (by decide +kernel) (by decide +kernel)
theorem se_X12_wind : Cond.selects RX12 yX12_wind yX12_wind ∈ lw_g := gmi 885 (by decide +kernel) (by decide +kernel)
theorem lk_L_43 : Cond.methodLink RL 43 yX12_pass ∈ lw_g := gmi 888 (by decide +kernel) (by decide +kernel)
theorem im_X12_pass : Cond.instanceMethod yX12_pass ∈ lw_g := gmi 889 (by decide +kernel) (by decide +kernel)
theorem se_X12_pass : Cond.selects RX12 yX12_pass yX12_pass ∈ lw_g := gmi 890 (by decide +kernel) (by decide +kernel)
theorem lk_L_48 : Cond.methodLink RL 48 yX12_hull ∈ lw_g := gmi 893 (by decide +kernel) (by decide +kernel)
theorem im_X12_hull : Cond.instanceMethod yX12_hull ∈ lw_g := gmi 894 (by decide +kernel) (by decide +kernel)
theorem se_X12_hull : Cond.selects RX12 yX12_hull yX12_hull ∈ lw_g := gmi 895 (by decide +kernel) (by decide +kernel)
theorem lk_L_52 : Cond.methodLink RL 52 yX12_about ∈ lw_g := gmi 897 (by decide +kernel) (by decide +kernel)
theorem im_X12_about : Cond.instanceMethod yX12_about ∈ lw_g := gmi 898 (by decide +kernel) (by decide +kernel)
theorem se_X12_about : Cond.selects RX12 yX12_about yX12_about ∈ lw_g := gmi 899 (by decide +kernel) (by decide +kernel)
theorem lk_X12_134 : Cond.methodLink RX12 134 yX12_isHull ∈ lw_g := gmi 901 (by decide +kernel) (by decide +kernel)
theorem im_X12_isHull : Cond.instanceMethod yX12_isHull ∈ lw_g := gmi 903 (by decide +kernel) (by decide +kernel)
theorem lk_X12_137 : Cond.methodLink RX12 137 yX12_tell ∈ lw_g := gmi 905 (by decide +kernel) (by decide +kernel)
theorem im_X12_tell : Cond.instanceMethod yX12_tell ∈ lw_g := gmi 907 (by decide +kernel) (by decide +kernel)
theorem lk_X12_127 : Cond.methodLink RX12 127 yX12_hoursOf ∈ lw_g := gmi 911 (by decide +kernel) (by decide +kernel)
theorem im_X12_hoursOf : Cond.instanceMethod yX12_hoursOf ∈ lw_g := gmi 913 (by decide +kernel) (by decide +kernel)
theorem lk_X12_113 : Cond.methodLink RX12 113 yX12_beside ∈ lw_g := gmi 915 (by decide +kernel) (by decide +kernel)
theorem st_X12_beside : Cond.static yX12_beside ∈ lw_g := gmi 916 (by decide +kernel) (by decide +kernel)
theorem lk_X12_116 : Cond.methodLink RX12 116 yX12_needs ∈ lw_g := gmi 918 (by decide +kernel) (by decide +kernel)
theorem st_X12_needs : Cond.static yX12_needs ∈ lw_g := gmi 919 (by decide +kernel) (by decide +kernel)
theorem lk_X12_119 : Cond.methodLink RX12 119 yX12_floats ∈ lw_g := gmi 921 (by decide +kernel) (by decide +kernel)
theorem im_X12_floats : Cond.instanceMethod yX12_floats ∈ lw_g := gmi 923 (by decide +kernel) (by decide +kernel)
theorem lk_X12_131 : Cond.methodLink RX12 131 yX12_isStranded ∈ lw_g := gmi 925 (by decide +kernel) (by decide +kernel)
theorem im_X12_isStranded : Cond.instanceMethod yX12_isStranded ∈ lw_g := gmi 927 (by decide +kernel) (by decide +kernel)
theorem lk_L_56 : Cond.methodLink RL 56 yX12_as ∈ lw_g := gmi 929 (by decide +kernel) (by decide +kernel)
theorem im_X12_as : Cond.instanceMethod yX12_as ∈ lw_g := gmi 930 (by decide +kernel) (by decide +kernel)
theorem se_X12_as : Cond.selects RX12 yX12_as yX12_as ∈ lw_g := gmi 931 (by decide +kernel) (by decide +kernel)
theorem lk_L_60 : Cond.methodLink RL 60 yX12_sail ∈ lw_g := gmi 933 (by decide +kernel) (by decide +kernel)
theorem im_X12_sail : Cond.instanceMethod yX12_sail ∈ lw_g := gmi 934 (by decide +kernel) (by decide +kernel)
theorem se_X12_sail : Cond.selects RX12 yX12_sail yX12_sail ∈ lw_g := gmi 935 (by decide +kernel) (by decide +kernel)
theorem lk_L_64 : Cond.methodLink RL 64 yX12_voyage ∈ lw_g := gmi 938 (by decide +kernel) (by decide +kernel)
theorem im_X12_voyage : Cond.instanceMethod yX12_voyage ∈ lw_g := gmi 939 (by decide +kernel) (by decide +kernel)
theorem se_X12_voyage : Cond.selects RX12 yX12_voyage yX12_voyage ∈ lw_g := gmi 940 (by decide +kernel) (by decide +kernel)
theorem lk_X12_147 : Cond.methodLink RX12 147 yX12_hourBy ∈ lw_g := gmi 942 (by decide +kernel) (by decide +kernel)
theorem im_X12_hourBy : Cond.instanceMethod yX12_hourBy ∈ lw_g := gmi 944 (by decide +kernel) (by decide +kernel)
theorem lk_X12_143 : Cond.methodLink RX12 143 yX12_layVoyage ∈ lw_g := gmi 946 (by decide +kernel) (by decide +kernel)
theorem im_X12_layVoyage : Cond.instanceMethod yX12_layVoyage ∈ lw_g := gmi 948 (by decide +kernel) (by decide +kernel)
theorem lk_L_68 : Cond.methodLink RL 68 yX12_latest ∈ lw_g := gmi 951 (by decide +kernel) (by decide +kernel)
theorem im_X12_latest : Cond.instanceMethod yX12_latest ∈ lw_g := gmi 952 (by decide +kernel) (by decide +kernel)
theorem se_X12_latest : Cond.selects RX12 yX12_latest yX12_latest ∈ lw_g := gmi 953 (by decide +kernel) (by decide +kernel)
theorem lk_L_72 : Cond.methodLink RL 72 yX12_home ∈ lw_g := gmi 955 (by decide +kernel) (by decide +kernel)
theorem im_X12_home : Cond.instanceMethod yX12_home ∈ lw_g := gmi 956 (by decide +kernel) (by decide +kernel)
theorem se_X12_home : Cond.selects RX12 yX12_home yX12_home ∈ lw_g := gmi 957 (by decide +kernel) (by decide +kernel)
theorem lk_X12_166 : Cond.methodLink RX12 166 yX12_layHome ∈ lw_g := gmi 960 (by decide +kernel) (by decide +kernel)
theorem im_X12_layHome : Cond.instanceMethod yX12_layHome ∈ lw_g := gmi 962 (by decide +kernel) (by decide +kernel)
theorem lk_X12_157 : Cond.methodLink RX12 157 yX12_isOrder ∈ lw_g := gmi 964 (by decide +kernel) (by decide +kernel)
theorem im_X12_isOrder : Cond.instanceMethod yX12_isOrder ∈ lw_g := gmi 966 (by decide +kernel) (by decide +kernel)
theorem lk_X12_160 : Cond.methodLink RX12 160 yX12_copy ∈ lw_g := gmi 968 (by decide +kernel) (by decide +kernel)
theorem st_X12_copy : Cond.static yX12_copy ∈ lw_g := gmi 969 (by decide +kernel) (by decide +kernel)
theorem lk_L_76 : Cond.methodLink RL 76 yX12_bestWind ∈ lw_g := gmi 971 (by decide +kernel) (by decide +kernel)
theorem im_X12_bestWind : Cond.instanceMethod yX12_bestWind ∈ lw_g := gmi 972 (by decide +kernel) (by decide +kernel)
theorem se_X12_bestWind : Cond.selects RX12 yX12_bestWind yX12_bestWind ∈ lw_g := gmi 973 (by decide +kernel) (by decide +kernel)
theorem lk_L_80 : Cond.methodLink RL 80 yX12_see ∈ lw_g := gmi 975 (by decide +kernel) (by decide +kernel)
theorem im_X12_see : Cond.instanceMethod yX12_see ∈ lw_g := gmi 976 (by decide +kernel) (by decide +kernel)
theorem se_X12_see : Cond.selects RX12 yX12_see yX12_see ∈ lw_g := gmi 977 (by decide +kernel) (by decide +kernel)
theorem lk_L_84 : Cond.methodLink RL 84 yX12_forget ∈ lw_g := gmi 980 (by decide +kernel) (by decide +kernel)
theorem im_X12_forget : Cond.instanceMethod yX12_forget ∈ lw_g := gmi 981 (by decide +kernel) (by decide +kernel)
theorem se_X12_forget : Cond.selects RX12 yX12_forget yX12_forget ∈ lw_g := gmi 982 (by decide +kernel) (by decide +kernel)
theorem lk_L_88 : Cond.methodLink RL 88 yX12_start ∈ lw_g := gmi 984 (by decide +kernel) (by decide +kernel)
theorem im_X12_start : Cond.instanceMethod yX12_start ∈ lw_g := gmi 985 (by decide +kernel) (by decide +kernel)
theorem se_X12_start : Cond.selects RX12 yX12_start yX12_start ∈ lw_g := gmi 986 (by decide +kernel) (by decide +kernel)
theorem lk_X12_182 : Cond.methodLink RX12 182 yX12_startOf ∈ lw_g := gmi 988 (by decide +kernel) (by decide +kernel)
theorem im_X12_startOf : Cond.instanceMethod yX12_startOf ∈ lw_g := gmi 990 (by decide +kernel) (by decide +kernel)
theorem lk_X12_179 : Cond.methodLink RX12 179 yX12_canStart ∈ lw_g := gmi 992 (by decide +kernel) (by decide +kernel)
theorem im_X12_canStart : Cond.instanceMethod yX12_canStart ∈ lw_g := gmi 994 (by decide +kernel) (by decide +kernel)
theorem lk_X12_172 : Cond.methodLink RX12 172 yX12_seenAt ∈ lw_g := gmi 996 (by decide +kernel) (by decide +kernel)
theorem im_X12_seenAt : Cond.instanceMethod yX12_seenAt ∈ lw_g := gmi 998 (by decide +kernel) (by decide +kernel)
theorem lk_X12_175 : Cond.methodLink RX12 175 yX12_isSeenBetween ∈ lw_g := gmi 1000 (by decide +kernel) (by decide +kernel)
theorem im_X12_isSeenBetween : Cond.instanceMethod yX12_isSeenBetween ∈ lw_g := gmi 1002 (by decide +kernel) (by decide +kernel)
theorem lk_L_92 : Cond.methodLink RL 92 yX12_junes ∈ lw_g := gmi 1004 (by decide +kernel) (by decide +kernel)
theorem im_X12_junes : Cond.instanceMethod yX12_junes ∈ lw_g := gmi 1005 (by decide +kernel) (by decide +kernel)
theorem se_X12_junes : Cond.selects RX12 yX12_junes yX12_junes ∈ lw_g := gmi 1006 (by decide +kernel) (by decide +kernel)
theorem lk_X12_197 : Cond.methodLink RX12 197 yX12_draw ∈ lw_g := gmi 1009 (by decide +kernel) (by decide +kernel)
theorem im_X12_draw : Cond.instanceMethod yX12_draw ∈ lw_g := gmi 1011 (by decide +kernel) (by decide +kernel)
theorem lk_X12_200 : Cond.methodLink RX12 200 yX12_strandedMany ∈ lw_g := gmi 1017 (by decide +kernel) (by decide +kernel)
theorem im_X12_strandedMany : Cond.instanceMethod yX12_strandedMany ∈ lw_g := gmi 1019 (by decide +kernel) (by decide +kernel)
theorem lk_L_96 : Cond.methodLink RL 96 yX12_image ∈ lw_g := gmi 1021 (by decide +kernel) (by decide +kernel)
theorem im_X12_image : Cond.instanceMethod yX12_image ∈ lw_g := gmi 1022 (by decide +kernel) (by decide +kernel)
theorem se_X12_image : Cond.selects RX12 yX12_image yX12_image ∈ lw_g := gmi 1023 (by decide +kernel) (by decide +kernel)
theorem lk_L_100 : Cond.methodLink RL 100 yX12_restore ∈ lw_g := gmi 1025 (by decide +kernel) (by decide +kernel)
theorem im_X12_restore : Cond.instanceMethod yX12_restore ∈ lw_g := gmi 1026 (by decide +kernel) (by decide +kernel)
theorem se_X12_restore : Cond.selects RX12 yX12_restore yX12_restore ∈ lw_g := gmi 1027 (by decide +kernel) (by decide +kernel)
theorem lk_L_104 : Cond.methodLink RL 104 yX12_count ∈ lw_g := gmi 1029 (by decide +kernel) (by decide +kernel)
theorem im_X12_count : Cond.instanceMethod yX12_count ∈ lw_g := gmi 1030 (by decide +kernel) (by decide +kernel)
theorem se_X12_count : Cond.selects RX12 yX12_count yX12_count ∈ lw_g := gmi 1031 (by decide +kernel) (by decide +kernel)
theorem lk_X12_218 : Cond.methodLink RX12 218 yX12_countOf ∈ lw_g := gmi 1033 (by decide +kernel) (by decide +kernel)
theorem im_X12_countOf : Cond.instanceMethod yX12_countOf ∈ lw_g := gmi 1035 (by decide +kernel) (by decide +kernel)
theorem lk_X12_215 : Cond.methodLink RX12 215 yX12_cutMany ∈ lw_g := gmi 1037 (by decide +kernel) (by decide +kernel)
theorem im_X12_cutMany : Cond.instanceMethod yX12_cutMany ∈ lw_g := gmi 1039 (by decide +kernel) (by decide +kernel)
theorem lk_L_109 : Cond.methodLink RL 109 yX12_digest ∈ lw_g := gmi 1041 (by decide +kernel) (by decide +kernel)
theorem im_X12_digest : Cond.instanceMethod yX12_digest ∈ lw_g := gmi 1042 (by decide +kernel) (by decide +kernel)
theorem se_X12_digest : Cond.selects RX12 yX12_digest yX12_digest ∈ lw_g := gmi 1043 (by decide +kernel) (by decide +kernel)
theorem lk_X12_227 : Cond.methodLink RX12 227 yX12_say ∈ lw_g := gmi 1046 (by decide +kernel) (by decide +kernel)
theorem im_X12_say : Cond.instanceMethod yX12_say ∈ lw_g := gmi 1048 (by decide +kernel) (by decide +kernel)
theorem lk_X12_233 : Cond.methodLink RX12 233 yX12_sayHull ∈ lw_g := gmi 1051 (by decide +kernel) (by decide +kernel)
theorem im_X12_sayHull : Cond.instanceMethod yX12_sayHull ∈ lw_g := gmi 1053 (by decide +kernel) (by decide +kernel)
theorem se_X11_forgetAll : Cond.selects RX11 yX11_forgetAll yX11_forgetAll ∈ lw_g := gmi 0 (by decide +kernel) (by decide +kernel)
theorem se_X11_digitAt : Cond.selects RX11 yX11_digitAt yX11_digitAt ∈ lw_g := gmi 1 (by decide +kernel) (by decide +kernel)
theorem se_X11_isThere : Cond.selects RX11 yX11_isThere yX11_isThere ∈ lw_g := gmi 2 (by decide +kernel) (by decide +kernel)
theorem se_X11_hasPlain : Cond.selects RX11 yX11_hasPlain yX11_hasPlain ∈ lw_g := gmi 3 (by decide +kernel) (by decide +kernel)
theorem se_X11_hullsOn : Cond.selects RX11 yX11_hullsOn yX11_hullsOn ∈ lw_g := gmi 4 (by decide +kernel) (by decide +kernel)
theorem se_X11_hullNumbered : Cond.selects RX11 yX11_hullNumbered yX11_hullNumbered ∈ lw_g := gmi 5 (by decide +kernel) (by decide +kernel)
theorem se_X0_sailOnFrom : Cond.selects RX0 yX0_sailOnFrom yX0_sailOnFrom ∈ lw_g := gmi 6 (by decide +kernel) (by decide +kernel)
theorem se_X0_arrive : Cond.selects RX0 yX0_arrive yX0_arrive ∈ lw_g := gmi 7 (by decide +kernel) (by decide +kernel)
theorem se_X0_soonestOpen : Cond.selects RX0 yX0_soonestOpen yX0_soonestOpen ∈ lw_g := gmi 8 (by decide +kernel) (by decide +kernel)
theorem se_X3_hullIn : Cond.selects RX3 yX3_hullIn yX3_hullIn ∈ lw_g := gmi 9 (by decide +kernel) (by decide +kernel)
theorem se_X3_numberIn : Cond.selects RX3 yX3_numberIn yX3_numberIn ∈ lw_g := gmi 10 (by decide +kernel) (by decide +kernel)
theorem se_X8_lookUp : Cond.selects RX8 yX8_lookUp yX8_lookUp ∈ lw_g := gmi 11 (by decide +kernel) (by decide +kernel)
theorem se_X8_goesOn : Cond.selects RX8 yX8_goesOn yX8_goesOn ∈ lw_g := gmi 12 (by decide +kernel) (by decide +kernel)
theorem se_X8_canBe : Cond.selects RX8 yX8_canBe yX8_canBe ∈ lw_g := gmi 13 (by decide +kernel) (by decide +kernel)
theorem se_X8_unseenBetween : Cond.selects RX8 yX8_unseenBetween yX8_unseenBetween ∈ lw_g := gmi 14 (by decide +kernel) (by decide +kernel)
theorem se_X6_drawn : Cond.selects RX6 yX6_drawn yX6_drawn ∈ lw_g := gmi 15 (by decide +kernel) (by decide +kernel)
theorem se_X6_afterSailing : Cond.selects RX6 yX6_afterSailing yX6_afterSailing ∈ lw_g := gmi 16 (by decide +kernel) (by decide +kernel)
theorem se_X11_cutCells : Cond.selects RX11 yX11_cutCells yX11_cutCells ∈ lw_g := gmi 17 (by decide +kernel) (by decide +kernel)
theorem se_X11_strandedHulls : Cond.selects RX11 yX11_strandedHulls yX11_strandedHulls ∈ lw_g := gmi 18 (by decide +kernel) (by decide +kernel)
theorem se_X11_digestOfCells : Cond.selects RX11 yX11_digestOfCells yX11_digestOfCells ∈ lw_g := gmi 19 (by decide +kernel) (by decide +kernel)
theorem se_X11_digestOfHull : Cond.selects RX11 yX11_digestOfHull yX11_digestOfHull ∈ lw_g := gmi 20 (by decide +kernel) (by decide +kernel)
theorem se_X12_faultOf : Cond.selects RX12 yX12_faultOf yX12_faultOf ∈ lw_g := gmi 21 (by decide +kernel) (by decide +kernel)
theorem se_X12_isCell : Cond.selects RX12 yX12_isCell yX12_isCell ∈ lw_g := gmi 22 (by decide +kernel) (by decide +kernel)
theorem se_X12_lacks : Cond.selects RX12 yX12_lacks yX12_lacks ∈ lw_g := gmi 23 (by decide +kernel) (by decide +kernel)
theorem se_X12_tellCell : Cond.selects RX12 yX12_tellCell yX12_tellCell ∈ lw_g := gmi 24 (by decide +kernel) (by decide +kernel)
theorem se_X12_highAt : Cond.selects RX12 yX12_highAt yX12_highAt ∈ lw_g := gmi 25 (by decide +kernel) (by decide +kernel)
theorem se_X12_hullsAt : Cond.selects RX12 yX12_hullsAt yX12_hullsAt ∈ lw_g := gmi 26 (by decide +kernel) (by decide +kernel)
theorem se_X12_isHull : Cond.selects RX12 yX12_isHull yX12_isHull ∈ lw_g := gmi 27 (by decide +kernel) (by decide +kernel)
theorem se_X12_tell : Cond.selects RX12 yX12_tell yX12_tell ∈ lw_g := gmi 28 (by decide +kernel) (by decide +kernel)
theorem se_X12_hoursOf : Cond.selects RX12 yX12_hoursOf yX12_hoursOf ∈ lw_g := gmi 29 (by decide +kernel) (by decide +kernel)
theorem se_X12_floats : Cond.selects RX12 yX12_floats yX12_floats ∈ lw_g := gmi 30 (by decide +kernel) (by decide +kernel)
theorem se_X12_isStranded : Cond.selects RX12 yX12_isStranded yX12_isStranded ∈ lw_g := gmi 31 (by decide +kernel) (by decide +kernel)
theorem se_X12_hourBy : Cond.selects RX12 yX12_hourBy yX12_hourBy ∈ lw_g := gmi 32 (by decide +kernel) (by decide +kernel)
theorem se_X12_layVoyage : Cond.selects RX12 yX12_layVoyage yX12_layVoyage ∈ lw_g := gmi 33 (by decide +kernel) (by decide +kernel)
theorem se_X12_layHome : Cond.selects RX12 yX12_layHome yX12_layHome ∈ lw_g := gmi 34 (by decide +kernel) (by decide +kernel)
theorem se_X12_isOrder : Cond.selects RX12 yX12_isOrder yX12_isOrder ∈ lw_g := gmi 35 (by decide +kernel) (by decide +kernel)
theorem se_X12_startOf : Cond.selects RX12 yX12_startOf yX12_startOf ∈ lw_g := gmi 36 (by decide +kernel) (by decide +kernel)
theorem se_X12_canStart : Cond.selects RX12 yX12_canStart yX12_canStart ∈ lw_g := gmi 37 (by decide +kernel) (by decide +kernel)
theorem se_X12_seenAt : Cond.selects RX12 yX12_seenAt yX12_seenAt ∈ lw_g := gmi 38 (by decide +kernel) (by decide +kernel)
theorem se_X12_isSeenBetween : Cond.selects RX12 yX12_isSeenBetween yX12_isSeenBetween ∈ lw_g := gmi 39 (by decide +kernel) (by decide +kernel)
theorem se_X12_draw : Cond.selects RX12 yX12_draw yX12_draw ∈ lw_g := gmi 40 (by decide +kernel) (by decide +kernel)
theorem se_X12_strandedMany : Cond.selects RX12 yX12_strandedMany yX12_strandedMany ∈ lw_g := gmi 41 (by decide +kernel) (by decide +kernel)
theorem se_X12_countOf : Cond.selects RX12 yX12_countOf yX12_countOf ∈ lw_g := gmi 42 (by decide +kernel) (by decide +kernel)
theorem se_X12_cutMany : Cond.selects RX12 yX12_cutMany yX12_cutMany ∈ lw_g := gmi 43 (by decide +kernel) (by decide +kernel)
theorem se_X12_say : Cond.selects RX12 yX12_say yX12_say ∈ lw_g := gmi 44 (by decide +kernel) (by decide +kernel)
theorem se_X12_sayHull : Cond.selects RX12 yX12_sayHull yX12_sayHull ∈ lw_g := gmi 45 (by decide +kernel) (by decide +kernel)
theorem im_objectInit : Cond.instanceMethod objectInit ∈ lw_g := gm (by decide +kernel) (by decide +kernel)
theorem wc_objectInit : Cond.code objectInit ⟨#[0xb1]⟩ 1 none ∈ lw_g := gm (by decide +kernel) (by decide +kernel)
theorem ac_int : Cond.arrayClass .int ∈ lw_g := gm (by decide +kernel) (by decide +kernel)
theorem kl_X6_55 : Cond.constantLong RX6 55 (1103515245) ∈ lw_g := gmi 675 (by decide +kernel) (by decide +kernel)
theorem kl_X6_57 : Cond.constantLong RX6 57 (12345) ∈ lw_g := gmi 676 (by decide +kernel) (by decide +kernel)
theorem kl_X6_59 : Cond.constantLong RX6 59 (2147483647) ∈ lw_g := gmi 677 (by decide +kernel) (by decide +kernel)
theorem ki_X6_61 : Cond.constant RX6 61 (65536) ∈ lw_g := gmi 678 (by decide +kernel) (by decide +kernel)
theorem kl_X11_239 : Cond.constantLong RX11 239 (863) ∈ lw_g := gmi 726 (by decide +kernel) (by decide +kernel)
theorem kl_X11_249 : Cond.constantLong RX11 249 (31) ∈ lw_g := gmi 731 (by decide +kernel) (by decide +kernel)
theorem kl_X12_53 : Cond.constantLong RX12 53 (126) ∈ lw_g := gmi 834 (by decide +kernel) (by decide +kernel)
theorem kl_X12_62 : Cond.constantLong RX12 62 (9) ∈ lw_g := gmi 853 (by decide +kernel) (by decide +kernel)
theorem kl_X12_87 : Cond.constantLong RX12 87 (11) ∈ lw_g := gmi 866 (by decide +kernel) (by decide +kernel)
theorem kl_X12_109 : Cond.constantLong RX12 109 (4) ∈ lw_g := gmi 887 (by decide +kernel) (by decide +kernel)
theorem kl_X12_111 : Cond.constantLong RX12 111 (30) ∈ lw_g := gmi 892 (by decide +kernel) (by decide +kernel)
theorem kl_X12_123 : Cond.constantLong RX12 123 (10) ∈ lw_g := gmi 909 (by decide +kernel) (by decide +kernel)
theorem kl_X12_125 : Cond.constantLong RX12 125 (13) ∈ lw_g := gmi 910 (by decide +kernel) (by decide +kernel)
theorem kl_X12_140 : Cond.constantLong RX12 140 (3) ∈ lw_g := gmi 937 (by decide +kernel) (by decide +kernel)
theorem ki_X12_142 : Cond.constant RX12 142 (100000) ∈ lw_g := gmi 950 (by decide +kernel) (by decide +kernel)
theorem kl_X12_164 : Cond.constantLong RX12 164 (12) ∈ lw_g := gmi 959 (by decide +kernel) (by decide +kernel)
theorem kl_X12_170 : Cond.constantLong RX12 170 (40) ∈ lw_g := gmi 979 (by decide +kernel) (by decide +kernel)
theorem kl_X12_195 : Cond.constantLong RX12 195 (20) ∈ lw_g := gmi 1008 (by decide +kernel) (by decide +kernel)
theorem kl_X12_185 : Cond.constantLong RX12 185 (1103515245) ∈ lw_g := gmi 1013 (by decide +kernel) (by decide +kernel)
theorem kl_X12_190 : Cond.constantLong RX12 190 (12345) ∈ lw_g := gmi 1014 (by decide +kernel) (by decide +kernel)
theorem kl_X12_192 : Cond.constantLong RX12 192 (2147483647) ∈ lw_g := gmi 1015 (by decide +kernel) (by decide +kernel)
theorem ki_X12_194 : Cond.constant RX12 194 (65536) ∈ lw_g := gmi 1016 (by decide +kernel) (by decide +kernel)
theorem kl_X12_231 : Cond.constantLong RX12 231 (863) ∈ lw_g := gmi 1045 (by decide +kernel) (by decide +kernel)
theorem kl_X12_221 : Cond.constantLong RX12 221 (31) ∈ lw_g := gmi 1050 (by decide +kernel) (by decide +kernel)
end
section
/-- the class number of a kind of hull: 0 HULL, 1 SLOOP, 2 GALLEY, 3 SLED, 4 CUTTER -/
def hkc (k : Nat) : Nat := match k with
  | 0 => 4
  | 1 => 10
  | 2 => 2
  | 3 => 9
  | _ => 1
/-- a hull's cell -/
abbrev hcl (k : Nat) (dr ce sa : Int32) : va_E := .inr (hkc k, [.int dr, .int ce, .int sa])
theorem hk5 {P : Nat → Prop} (h0 : P 0) (h1 : P 1) (h2 : P 2) (h3 : P 3) (h4 : P 4) : ∀ {k : Nat}, k < 5 → P k := fun {k} hk => by
  match k, hk with
  | 0, _ => exact h0
  | 1, _ => exact h1
  | 2, _ => exact h2
  | 3, _ => exact h3
  | 4, _ => exact h4
theorem vp_lit {i : Int32} {N : Nat} (h1 : 0 ≤ i.toInt) (h2 : i.toInt < N) : vp_in i N := by
  intro h
  rcases h with h | h
  · rw [Int32.lt_iff_toInt_lt] at h
    have : (0 : Int32).toInt = 0 := rfl
    omega
  · have e : i.toNatClampNeg = i.toInt.toNat := rfl
    omega

theorem flk_X4_9 : ∀ {k : Nat}, k < 5 → FL RX4 9 (hkc k) 0 := hk5 (P := fun k => FL RX4 9 (hkc k) 0) fl_X4_9_X4 fl_X4_9_X10 fl_X4_9_X2 fl_X4_9_X9 fl_X4_9_X1
theorem flk_X10_7 : ∀ {k : Nat}, k < 5 → FL RX10 7 (hkc k) 0 := hk5 (P := fun k => FL RX10 7 (hkc k) 0) fl_X10_7_X4 fl_X10_7_X10 fl_X10_7_X2 fl_X10_7_X9 fl_X10_7_X1
theorem flk_X11_140 : ∀ {k : Nat}, k < 5 → FL RX11 140 (hkc k) 0 := hk5 (P := fun k => FL RX11 140 (hkc k) 0) fl_X11_140_X4 fl_X11_140_X10 fl_X11_140_X2 fl_X11_140_X9 fl_X11_140_X1
theorem flk_X4_15 : ∀ {k : Nat}, k < 5 → FL RX4 15 (hkc k) 1 := hk5 (P := fun k => FL RX4 15 (hkc k) 1) fl_X4_15_X4 fl_X4_15_X10 fl_X4_15_X2 fl_X4_15_X9 fl_X4_15_X1
theorem flk_X5_33 : ∀ {k : Nat}, k < 5 → FL RX5 33 (hkc k) 1 := hk5 (P := fun k => FL RX5 33 (hkc k) 1) fl_X5_33_X4 fl_X5_33_X10 fl_X5_33_X2 fl_X5_33_X9 fl_X5_33_X1
theorem flk_X6_25 : ∀ {k : Nat}, k < 5 → FL RX6 25 (hkc k) 1 := hk5 (P := fun k => FL RX6 25 (hkc k) 1) fl_X6_25_X4 fl_X6_25_X10 fl_X6_25_X2 fl_X6_25_X9 fl_X6_25_X1
theorem flk_X3_29 : ∀ {k : Nat}, k < 5 → FL RX3 29 (hkc k) 1 := hk5 (P := fun k => FL RX3 29 (hkc k) 1) fl_X3_29_X4 fl_X3_29_X10 fl_X3_29_X2 fl_X3_29_X9 fl_X3_29_X1
theorem flk_X11_143 : ∀ {k : Nat}, k < 5 → FL RX11 143 (hkc k) 1 := hk5 (P := fun k => FL RX11 143 (hkc k) 1) fl_X11_143_X4 fl_X11_143_X10 fl_X11_143_X2 fl_X11_143_X9 fl_X11_143_X1
theorem flk_X5_38 : ∀ {k : Nat}, k < 5 → FL RX5 38 (hkc k) 2 := hk5 (P := fun k => FL RX5 38 (hkc k) 2) fl_X5_38_X4 fl_X5_38_X10 fl_X5_38_X2 fl_X5_38_X9 fl_X5_38_X1
theorem flk_X11_150 : ∀ {k : Nat}, k < 5 → FL RX11 150 (hkc k) 2 := hk5 (P := fun k => FL RX11 150 (hkc k) 2) fl_X11_150_X4 fl_X11_150_X10 fl_X11_150_X2 fl_X11_150_X9 fl_X11_150_X1
theorem fpk_0 : ∀ {k : Nat}, k < 5 → FP RX4 (hkc k) 0 true .int := hk5 (P := fun k => FP RX4 (hkc k) 0 true .int) fp_X4_0 fp_X10_0 fp_X2_0 fp_X9_0 fp_X1_0
theorem fpk_1 : ∀ {k : Nat}, k < 5 → FP RX4 (hkc k) 1 false .int := hk5 (P := fun k => FP RX4 (hkc k) 1 false .int) fp_X4_1 fp_X10_1 fp_X2_1 fp_X9_1 fp_X1_1
theorem fpk_2 : ∀ {k : Nat}, k < 5 → FP RX4 (hkc k) 2 false .int := hk5 (P := fun k => FP RX4 (hkc k) 2 false .int) fp_X4_2 fp_X10_2 fp_X2_2 fp_X9_2 fp_X1_2
theorem vcl_hk : ∀ {k : Nat}, k < 5 → ∃ (C : String) (T : u_T) (N : Nat), vwCl[hkc k]? = some (C, T, N) := hk5 (P := fun k => ∃ (C : String) (T : u_T) (N : Nat), vwCl[hkc k]? = some (C, T, N)) ⟨_, _, _, rfl⟩ ⟨_, _, _, rfl⟩ ⟨_, _, _, rfl⟩ ⟨_, _, _, rfl⟩ ⟨_, _, _, rfl⟩
theorem vw_X11_137_X10 : ∀ w ∈ ([.methodLink RX11 137 ⟨"WheatSea$Hull", "kind", "()I"⟩, .sameMethod "WheatSea$Hull" "WheatSea$Hull" "kind" "()I", .instanceMethod ⟨"WheatSea$Hull", "kind", "()I"⟩, .selects RX10 ⟨"WheatSea$Hull", "kind", "()I"⟩ yX10_kind, .instanceMethod yX10_kind, .initialized yX10_kind.cls] : List Cond), w ∈ lw_g := List.forall_mem_cons.mpr ⟨gmi 442 (by decide +kernel) (by decide +kernel), List.forall_mem_cons.mpr ⟨gmi 445 (by decide +kernel) (by decide +kernel), List.forall_mem_cons.mpr ⟨gmi 443 (by decide +kernel) (by decide +kernel), List.forall_mem_cons.mpr ⟨gmi 455 (by decide +kernel) (by decide +kernel), List.forall_mem_cons.mpr ⟨gmi 456 (by decide +kernel) (by decide +kernel), List.forall_mem_cons.mpr ⟨gmi 60 (by decide +kernel) (by decide +kernel), fun _ h => by cases h⟩⟩⟩⟩⟩⟩
theorem vw_X11_137_X2 : ∀ w ∈ ([.methodLink RX11 137 ⟨"WheatSea$Hull", "kind", "()I"⟩, .sameMethod "WheatSea$Hull" "WheatSea$Hull" "kind" "()I", .instanceMethod ⟨"WheatSea$Hull", "kind", "()I"⟩, .selects RX2 ⟨"WheatSea$Hull", "kind", "()I"⟩ yX2_kind, .instanceMethod yX2_kind, .initialized yX2_kind.cls] : List Cond), w ∈ lw_g := List.forall_mem_cons.mpr ⟨gmi 442 (by decide +kernel) (by decide +kernel), List.forall_mem_cons.mpr ⟨gmi 445 (by decide +kernel) (by decide +kernel), List.forall_mem_cons.mpr ⟨gmi 443 (by decide +kernel) (by decide +kernel), List.forall_mem_cons.mpr ⟨gmi 449 (by decide +kernel) (by decide +kernel), List.forall_mem_cons.mpr ⟨gmi 450 (by decide +kernel) (by decide +kernel), List.forall_mem_cons.mpr ⟨gmi 61 (by decide +kernel) (by decide +kernel), fun _ h => by cases h⟩⟩⟩⟩⟩⟩
theorem vw_X11_137_X9 : ∀ w ∈ ([.methodLink RX11 137 ⟨"WheatSea$Hull", "kind", "()I"⟩, .sameMethod "WheatSea$Hull" "WheatSea$Hull" "kind" "()I", .instanceMethod ⟨"WheatSea$Hull", "kind", "()I"⟩, .selects RX9 ⟨"WheatSea$Hull", "kind", "()I"⟩ yX9_kind, .instanceMethod yX9_kind, .initialized yX9_kind.cls] : List Cond), w ∈ lw_g := List.forall_mem_cons.mpr ⟨gmi 442 (by decide +kernel) (by decide +kernel), List.forall_mem_cons.mpr ⟨gmi 445 (by decide +kernel) (by decide +kernel), List.forall_mem_cons.mpr ⟨gmi 443 (by decide +kernel) (by decide +kernel), List.forall_mem_cons.mpr ⟨gmi 452 (by decide +kernel) (by decide +kernel), List.forall_mem_cons.mpr ⟨gmi 453 (by decide +kernel) (by decide +kernel), List.forall_mem_cons.mpr ⟨gmi 62 (by decide +kernel) (by decide +kernel), fun _ h => by cases h⟩⟩⟩⟩⟩⟩
theorem vw_X11_137_X1 : ∀ w ∈ ([.methodLink RX11 137 ⟨"WheatSea$Hull", "kind", "()I"⟩, .sameMethod "WheatSea$Hull" "WheatSea$Hull" "kind" "()I", .instanceMethod ⟨"WheatSea$Hull", "kind", "()I"⟩, .selects RX1 ⟨"WheatSea$Hull", "kind", "()I"⟩ yX1_kind, .instanceMethod yX1_kind, .initialized yX1_kind.cls] : List Cond), w ∈ lw_g := List.forall_mem_cons.mpr ⟨gmi 442 (by decide +kernel) (by decide +kernel), List.forall_mem_cons.mpr ⟨gmi 445 (by decide +kernel) (by decide +kernel), List.forall_mem_cons.mpr ⟨gmi 443 (by decide +kernel) (by decide +kernel), List.forall_mem_cons.mpr ⟨gmi 446 (by decide +kernel) (by decide +kernel), List.forall_mem_cons.mpr ⟨gmi 447 (by decide +kernel) (by decide +kernel), List.forall_mem_cons.mpr ⟨gmi 63 (by decide +kernel) (by decide +kernel), fun _ h => by cases h⟩⟩⟩⟩⟩⟩
theorem vw_X7_26_X10 : ∀ w ∈ ([.methodLink RX7 26 ⟨"WheatSea$Hull", "cornNeeded", "()I"⟩, .sameMethod "WheatSea$Hull" "WheatSea$Hull" "cornNeeded" "()I", .instanceMethod ⟨"WheatSea$Hull", "cornNeeded", "()I"⟩, .selects RX10 ⟨"WheatSea$Hull", "cornNeeded", "()I"⟩ yX10_cornNeeded, .instanceMethod yX10_cornNeeded, .initialized yX10_cornNeeded.cls] : List Cond), w ∈ lw_g := List.forall_mem_cons.mpr ⟨gmi 464 (by decide +kernel) (by decide +kernel), List.forall_mem_cons.mpr ⟨gmi 467 (by decide +kernel) (by decide +kernel), List.forall_mem_cons.mpr ⟨gmi 465 (by decide +kernel) (by decide +kernel), List.forall_mem_cons.mpr ⟨gmi 475 (by decide +kernel) (by decide +kernel), List.forall_mem_cons.mpr ⟨gmi 469 (by decide +kernel) (by decide +kernel), List.forall_mem_cons.mpr ⟨gmi 60 (by decide +kernel) (by decide +kernel), fun _ h => by cases h⟩⟩⟩⟩⟩⟩
theorem vw_X7_26_X2 : ∀ w ∈ ([.methodLink RX7 26 ⟨"WheatSea$Hull", "cornNeeded", "()I"⟩, .sameMethod "WheatSea$Hull" "WheatSea$Hull" "cornNeeded" "()I", .selects RX2 ⟨"WheatSea$Hull", "cornNeeded", "()I"⟩ yX4_cornNeeded, .instanceMethod yX4_cornNeeded, .initialized yX4_cornNeeded.cls] : List Cond), w ∈ lw_g := List.forall_mem_cons.mpr ⟨gmi 464 (by decide +kernel) (by decide +kernel), List.forall_mem_cons.mpr ⟨gmi 467 (by decide +kernel) (by decide +kernel), List.forall_mem_cons.mpr ⟨gmi 471 (by decide +kernel) (by decide +kernel), List.forall_mem_cons.mpr ⟨gmi 465 (by decide +kernel) (by decide +kernel), List.forall_mem_cons.mpr ⟨gmi 59 (by decide +kernel) (by decide +kernel), fun _ h => by cases h⟩⟩⟩⟩⟩
theorem vw_X7_26_X9 : ∀ w ∈ ([.methodLink RX7 26 ⟨"WheatSea$Hull", "cornNeeded", "()I"⟩, .sameMethod "WheatSea$Hull" "WheatSea$Hull" "cornNeeded" "()I", .instanceMethod ⟨"WheatSea$Hull", "cornNeeded", "()I"⟩, .selects RX9 ⟨"WheatSea$Hull", "cornNeeded", "()I"⟩ yX9_cornNeeded, .instanceMethod yX9_cornNeeded, .initialized yX9_cornNeeded.cls] : List Cond), w ∈ lw_g := List.forall_mem_cons.mpr ⟨gmi 464 (by decide +kernel) (by decide +kernel), List.forall_mem_cons.mpr ⟨gmi 467 (by decide +kernel) (by decide +kernel), List.forall_mem_cons.mpr ⟨gmi 465 (by decide +kernel) (by decide +kernel), List.forall_mem_cons.mpr ⟨gmi 472 (by decide +kernel) (by decide +kernel), List.forall_mem_cons.mpr ⟨gmi 473 (by decide +kernel) (by decide +kernel), List.forall_mem_cons.mpr ⟨gmi 62 (by decide +kernel) (by decide +kernel), fun _ h => by cases h⟩⟩⟩⟩⟩⟩
theorem vw_X7_26_X1 : ∀ w ∈ ([.methodLink RX7 26 ⟨"WheatSea$Hull", "cornNeeded", "()I"⟩, .sameMethod "WheatSea$Hull" "WheatSea$Hull" "cornNeeded" "()I", .instanceMethod ⟨"WheatSea$Hull", "cornNeeded", "()I"⟩, .selects RX1 ⟨"WheatSea$Hull", "cornNeeded", "()I"⟩ yX10_cornNeeded, .instanceMethod yX10_cornNeeded, .initialized yX10_cornNeeded.cls] : List Cond), w ∈ lw_g := List.forall_mem_cons.mpr ⟨gmi 464 (by decide +kernel) (by decide +kernel), List.forall_mem_cons.mpr ⟨gmi 467 (by decide +kernel) (by decide +kernel), List.forall_mem_cons.mpr ⟨gmi 465 (by decide +kernel) (by decide +kernel), List.forall_mem_cons.mpr ⟨gmi 468 (by decide +kernel) (by decide +kernel), List.forall_mem_cons.mpr ⟨gmi 469 (by decide +kernel) (by decide +kernel), List.forall_mem_cons.mpr ⟨gmi 60 (by decide +kernel) (by decide +kernel), fun _ h => by cases h⟩⟩⟩⟩⟩⟩
theorem vw_X7_39_X10 : ∀ w ∈ ([.methodLink RX7 39 ⟨"WheatSea$Hull", "hoursFor", "(II)I"⟩, .sameMethod "WheatSea$Hull" "WheatSea$Hull" "hoursFor" "(II)I", .selects RX10 ⟨"WheatSea$Hull", "hoursFor", "(II)I"⟩ yX4_hoursFor, .instanceMethod yX4_hoursFor, .initialized yX4_hoursFor.cls] : List Cond), w ∈ lw_g := List.forall_mem_cons.mpr ⟨gmi 485 (by decide +kernel) (by decide +kernel), List.forall_mem_cons.mpr ⟨gmi 488 (by decide +kernel) (by decide +kernel), List.forall_mem_cons.mpr ⟨gmi 492 (by decide +kernel) (by decide +kernel), List.forall_mem_cons.mpr ⟨gmi 486 (by decide +kernel) (by decide +kernel), List.forall_mem_cons.mpr ⟨gmi 59 (by decide +kernel) (by decide +kernel), fun _ h => by cases h⟩⟩⟩⟩⟩
theorem vw_X7_39_X2 : ∀ w ∈ ([.methodLink RX7 39 ⟨"WheatSea$Hull", "hoursFor", "(II)I"⟩, .sameMethod "WheatSea$Hull" "WheatSea$Hull" "hoursFor" "(II)I", .selects RX2 ⟨"WheatSea$Hull", "hoursFor", "(II)I"⟩ yX4_hoursFor, .instanceMethod yX4_hoursFor, .initialized yX4_hoursFor.cls] : List Cond), w ∈ lw_g := List.forall_mem_cons.mpr ⟨gmi 485 (by decide +kernel) (by decide +kernel), List.forall_mem_cons.mpr ⟨gmi 488 (by decide +kernel) (by decide +kernel), List.forall_mem_cons.mpr ⟨gmi 490 (by decide +kernel) (by decide +kernel), List.forall_mem_cons.mpr ⟨gmi 486 (by decide +kernel) (by decide +kernel), List.forall_mem_cons.mpr ⟨gmi 59 (by decide +kernel) (by decide +kernel), fun _ h => by cases h⟩⟩⟩⟩⟩
theorem vw_X7_39_X9 : ∀ w ∈ ([.methodLink RX7 39 ⟨"WheatSea$Hull", "hoursFor", "(II)I"⟩, .sameMethod "WheatSea$Hull" "WheatSea$Hull" "hoursFor" "(II)I", .selects RX9 ⟨"WheatSea$Hull", "hoursFor", "(II)I"⟩ yX4_hoursFor, .instanceMethod yX4_hoursFor, .initialized yX4_hoursFor.cls] : List Cond), w ∈ lw_g := List.forall_mem_cons.mpr ⟨gmi 485 (by decide +kernel) (by decide +kernel), List.forall_mem_cons.mpr ⟨gmi 488 (by decide +kernel) (by decide +kernel), List.forall_mem_cons.mpr ⟨gmi 491 (by decide +kernel) (by decide +kernel), List.forall_mem_cons.mpr ⟨gmi 486 (by decide +kernel) (by decide +kernel), List.forall_mem_cons.mpr ⟨gmi 59 (by decide +kernel) (by decide +kernel), fun _ h => by cases h⟩⟩⟩⟩⟩
theorem vw_X7_39_X1 : ∀ w ∈ ([.methodLink RX7 39 ⟨"WheatSea$Hull", "hoursFor", "(II)I"⟩, .sameMethod "WheatSea$Hull" "WheatSea$Hull" "hoursFor" "(II)I", .selects RX1 ⟨"WheatSea$Hull", "hoursFor", "(II)I"⟩ yX4_hoursFor, .instanceMethod yX4_hoursFor, .initialized yX4_hoursFor.cls] : List Cond), w ∈ lw_g := List.forall_mem_cons.mpr ⟨gmi 485 (by decide +kernel) (by decide +kernel), List.forall_mem_cons.mpr ⟨gmi 488 (by decide +kernel) (by decide +kernel), List.forall_mem_cons.mpr ⟨gmi 489 (by decide +kernel) (by decide +kernel), List.forall_mem_cons.mpr ⟨gmi 486 (by decide +kernel) (by decide +kernel), List.forall_mem_cons.mpr ⟨gmi 59 (by decide +kernel) (by decide +kernel), fun _ h => by cases h⟩⟩⟩⟩⟩
theorem vw_X4_18_X10 : ∀ w ∈ ([.methodLink RX4 18 ⟨"WheatSea$Hull", "hoursBecalmed", "()I"⟩, .sameMethod "WheatSea$Hull" "WheatSea$Hull" "hoursBecalmed" "()I", .selects RX10 ⟨"WheatSea$Hull", "hoursBecalmed", "()I"⟩ yX4_hoursBecalmed, .instanceMethod yX4_hoursBecalmed, .initialized yX4_hoursBecalmed.cls] : List Cond), w ∈ lw_g := List.forall_mem_cons.mpr ⟨gmi 494 (by decide +kernel) (by decide +kernel), List.forall_mem_cons.mpr ⟨gmi 497 (by decide +kernel) (by decide +kernel), List.forall_mem_cons.mpr ⟨gmi 505 (by decide +kernel) (by decide +kernel), List.forall_mem_cons.mpr ⟨gmi 495 (by decide +kernel) (by decide +kernel), List.forall_mem_cons.mpr ⟨gmi 59 (by decide +kernel) (by decide +kernel), fun _ h => by cases h⟩⟩⟩⟩⟩
theorem vw_X4_18_X2 : ∀ w ∈ ([.methodLink RX4 18 ⟨"WheatSea$Hull", "hoursBecalmed", "()I"⟩, .sameMethod "WheatSea$Hull" "WheatSea$Hull" "hoursBecalmed" "()I", .selects RX2 ⟨"WheatSea$Hull", "hoursBecalmed", "()I"⟩ yX4_hoursBecalmed, .instanceMethod yX4_hoursBecalmed, .initialized yX4_hoursBecalmed.cls] : List Cond), w ∈ lw_g := List.forall_mem_cons.mpr ⟨gmi 494 (by decide +kernel) (by decide +kernel), List.forall_mem_cons.mpr ⟨gmi 497 (by decide +kernel) (by decide +kernel), List.forall_mem_cons.mpr ⟨gmi 501 (by decide +kernel) (by decide +kernel), List.forall_mem_cons.mpr ⟨gmi 495 (by decide +kernel) (by decide +kernel), List.forall_mem_cons.mpr ⟨gmi 59 (by decide +kernel) (by decide +kernel), fun _ h => by cases h⟩⟩⟩⟩⟩
theorem vw_X4_18_X9 : ∀ w ∈ ([.methodLink RX4 18 ⟨"WheatSea$Hull", "hoursBecalmed", "()I"⟩, .sameMethod "WheatSea$Hull" "WheatSea$Hull" "hoursBecalmed" "()I", .instanceMethod ⟨"WheatSea$Hull", "hoursBecalmed", "()I"⟩, .selects RX9 ⟨"WheatSea$Hull", "hoursBecalmed", "()I"⟩ yX9_hoursBecalmed, .instanceMethod yX9_hoursBecalmed, .initialized yX9_hoursBecalmed.cls] : List Cond), w ∈ lw_g := List.forall_mem_cons.mpr ⟨gmi 494 (by decide +kernel) (by decide +kernel), List.forall_mem_cons.mpr ⟨gmi 497 (by decide +kernel) (by decide +kernel), List.forall_mem_cons.mpr ⟨gmi 495 (by decide +kernel) (by decide +kernel), List.forall_mem_cons.mpr ⟨gmi 502 (by decide +kernel) (by decide +kernel), List.forall_mem_cons.mpr ⟨gmi 503 (by decide +kernel) (by decide +kernel), List.forall_mem_cons.mpr ⟨gmi 62 (by decide +kernel) (by decide +kernel), fun _ h => by cases h⟩⟩⟩⟩⟩⟩
theorem vw_X4_18_X1 : ∀ w ∈ ([.methodLink RX4 18 ⟨"WheatSea$Hull", "hoursBecalmed", "()I"⟩, .sameMethod "WheatSea$Hull" "WheatSea$Hull" "hoursBecalmed" "()I", .instanceMethod ⟨"WheatSea$Hull", "hoursBecalmed", "()I"⟩, .selects RX1 ⟨"WheatSea$Hull", "hoursBecalmed", "()I"⟩ yX1_hoursBecalmed, .instanceMethod yX1_hoursBecalmed, .initialized yX1_hoursBecalmed.cls] : List Cond), w ∈ lw_g := List.forall_mem_cons.mpr ⟨gmi 494 (by decide +kernel) (by decide +kernel), List.forall_mem_cons.mpr ⟨gmi 497 (by decide +kernel) (by decide +kernel), List.forall_mem_cons.mpr ⟨gmi 495 (by decide +kernel) (by decide +kernel), List.forall_mem_cons.mpr ⟨gmi 498 (by decide +kernel) (by decide +kernel), List.forall_mem_cons.mpr ⟨gmi 499 (by decide +kernel) (by decide +kernel), List.forall_mem_cons.mpr ⟨gmi 63 (by decide +kernel) (by decide +kernel), fun _ h => by cases h⟩⟩⟩⟩⟩⟩
theorem vw_X4_22_X10 : ∀ w ∈ ([.methodLink RX4 22 ⟨"WheatSea$Hull", "hoursWith", "()I"⟩, .sameMethod "WheatSea$Hull" "WheatSea$Hull" "hoursWith" "()I", .selects RX10 ⟨"WheatSea$Hull", "hoursWith", "()I"⟩ yX4_hoursWith, .instanceMethod yX4_hoursWith, .initialized yX4_hoursWith.cls] : List Cond), w ∈ lw_g := List.forall_mem_cons.mpr ⟨gmi 507 (by decide +kernel) (by decide +kernel), List.forall_mem_cons.mpr ⟨gmi 510 (by decide +kernel) (by decide +kernel), List.forall_mem_cons.mpr ⟨gmi 516 (by decide +kernel) (by decide +kernel), List.forall_mem_cons.mpr ⟨gmi 508 (by decide +kernel) (by decide +kernel), List.forall_mem_cons.mpr ⟨gmi 59 (by decide +kernel) (by decide +kernel), fun _ h => by cases h⟩⟩⟩⟩⟩
theorem vw_X4_22_X2 : ∀ w ∈ ([.methodLink RX4 22 ⟨"WheatSea$Hull", "hoursWith", "()I"⟩, .sameMethod "WheatSea$Hull" "WheatSea$Hull" "hoursWith" "()I", .selects RX2 ⟨"WheatSea$Hull", "hoursWith", "()I"⟩ yX4_hoursWith, .instanceMethod yX4_hoursWith, .initialized yX4_hoursWith.cls] : List Cond), w ∈ lw_g := List.forall_mem_cons.mpr ⟨gmi 507 (by decide +kernel) (by decide +kernel), List.forall_mem_cons.mpr ⟨gmi 510 (by decide +kernel) (by decide +kernel), List.forall_mem_cons.mpr ⟨gmi 512 (by decide +kernel) (by decide +kernel), List.forall_mem_cons.mpr ⟨gmi 508 (by decide +kernel) (by decide +kernel), List.forall_mem_cons.mpr ⟨gmi 59 (by decide +kernel) (by decide +kernel), fun _ h => by cases h⟩⟩⟩⟩⟩
theorem vw_X4_22_X9 : ∀ w ∈ ([.methodLink RX4 22 ⟨"WheatSea$Hull", "hoursWith", "()I"⟩, .sameMethod "WheatSea$Hull" "WheatSea$Hull" "hoursWith" "()I", .instanceMethod ⟨"WheatSea$Hull", "hoursWith", "()I"⟩, .selects RX9 ⟨"WheatSea$Hull", "hoursWith", "()I"⟩ yX9_hoursWith, .instanceMethod yX9_hoursWith, .initialized yX9_hoursWith.cls] : List Cond), w ∈ lw_g := List.forall_mem_cons.mpr ⟨gmi 507 (by decide +kernel) (by decide +kernel), List.forall_mem_cons.mpr ⟨gmi 510 (by decide +kernel) (by decide +kernel), List.forall_mem_cons.mpr ⟨gmi 508 (by decide +kernel) (by decide +kernel), List.forall_mem_cons.mpr ⟨gmi 513 (by decide +kernel) (by decide +kernel), List.forall_mem_cons.mpr ⟨gmi 514 (by decide +kernel) (by decide +kernel), List.forall_mem_cons.mpr ⟨gmi 62 (by decide +kernel) (by decide +kernel), fun _ h => by cases h⟩⟩⟩⟩⟩⟩
theorem vw_X4_22_X1 : ∀ w ∈ ([.methodLink RX4 22 ⟨"WheatSea$Hull", "hoursWith", "()I"⟩, .sameMethod "WheatSea$Hull" "WheatSea$Hull" "hoursWith" "()I", .selects RX1 ⟨"WheatSea$Hull", "hoursWith", "()I"⟩ yX4_hoursWith, .instanceMethod yX4_hoursWith, .initialized yX4_hoursWith.cls] : List Cond), w ∈ lw_g := List.forall_mem_cons.mpr ⟨gmi 507 (by decide +kernel) (by decide +kernel), List.forall_mem_cons.mpr ⟨gmi 510 (by decide +kernel) (by decide +kernel), List.forall_mem_cons.mpr ⟨gmi 511 (by decide +kernel) (by decide +kernel), List.forall_mem_cons.mpr ⟨gmi 508 (by decide +kernel) (by decide +kernel), List.forall_mem_cons.mpr ⟨gmi 59 (by decide +kernel) (by decide +kernel), fun _ h => by cases h⟩⟩⟩⟩⟩
theorem vw_X4_25_X10 : ∀ w ∈ ([.methodLink RX4 25 ⟨"WheatSea$Hull", "hoursAgainst", "()I"⟩, .sameMethod "WheatSea$Hull" "WheatSea$Hull" "hoursAgainst" "()I", .selects RX10 ⟨"WheatSea$Hull", "hoursAgainst", "()I"⟩ yX4_hoursAgainst, .instanceMethod yX4_hoursAgainst, .initialized yX4_hoursAgainst.cls] : List Cond), w ∈ lw_g := List.forall_mem_cons.mpr ⟨gmi 518 (by decide +kernel) (by decide +kernel), List.forall_mem_cons.mpr ⟨gmi 521 (by decide +kernel) (by decide +kernel), List.forall_mem_cons.mpr ⟨gmi 529 (by decide +kernel) (by decide +kernel), List.forall_mem_cons.mpr ⟨gmi 519 (by decide +kernel) (by decide +kernel), List.forall_mem_cons.mpr ⟨gmi 59 (by decide +kernel) (by decide +kernel), fun _ h => by cases h⟩⟩⟩⟩⟩
theorem vw_X4_25_X2 : ∀ w ∈ ([.methodLink RX4 25 ⟨"WheatSea$Hull", "hoursAgainst", "()I"⟩, .sameMethod "WheatSea$Hull" "WheatSea$Hull" "hoursAgainst" "()I", .instanceMethod ⟨"WheatSea$Hull", "hoursAgainst", "()I"⟩, .selects RX2 ⟨"WheatSea$Hull", "hoursAgainst", "()I"⟩ yX2_hoursAgainst, .instanceMethod yX2_hoursAgainst, .initialized yX2_hoursAgainst.cls] : List Cond), w ∈ lw_g := List.forall_mem_cons.mpr ⟨gmi 518 (by decide +kernel) (by decide +kernel), List.forall_mem_cons.mpr ⟨gmi 521 (by decide +kernel) (by decide +kernel), List.forall_mem_cons.mpr ⟨gmi 519 (by decide +kernel) (by decide +kernel), List.forall_mem_cons.mpr ⟨gmi 525 (by decide +kernel) (by decide +kernel), List.forall_mem_cons.mpr ⟨gmi 526 (by decide +kernel) (by decide +kernel), List.forall_mem_cons.mpr ⟨gmi 61 (by decide +kernel) (by decide +kernel), fun _ h => by cases h⟩⟩⟩⟩⟩⟩
theorem vw_X4_25_X9 : ∀ w ∈ ([.methodLink RX4 25 ⟨"WheatSea$Hull", "hoursAgainst", "()I"⟩, .sameMethod "WheatSea$Hull" "WheatSea$Hull" "hoursAgainst" "()I", .selects RX9 ⟨"WheatSea$Hull", "hoursAgainst", "()I"⟩ yX4_hoursAgainst, .instanceMethod yX4_hoursAgainst, .initialized yX4_hoursAgainst.cls] : List Cond), w ∈ lw_g := List.forall_mem_cons.mpr ⟨gmi 518 (by decide +kernel) (by decide +kernel), List.forall_mem_cons.mpr ⟨gmi 521 (by decide +kernel) (by decide +kernel), List.forall_mem_cons.mpr ⟨gmi 528 (by decide +kernel) (by decide +kernel), List.forall_mem_cons.mpr ⟨gmi 519 (by decide +kernel) (by decide +kernel), List.forall_mem_cons.mpr ⟨gmi 59 (by decide +kernel) (by decide +kernel), fun _ h => by cases h⟩⟩⟩⟩⟩
theorem vw_X4_25_X1 : ∀ w ∈ ([.methodLink RX4 25 ⟨"WheatSea$Hull", "hoursAgainst", "()I"⟩, .sameMethod "WheatSea$Hull" "WheatSea$Hull" "hoursAgainst" "()I", .instanceMethod ⟨"WheatSea$Hull", "hoursAgainst", "()I"⟩, .selects RX1 ⟨"WheatSea$Hull", "hoursAgainst", "()I"⟩ yX1_hoursAgainst, .instanceMethod yX1_hoursAgainst, .initialized yX1_hoursAgainst.cls] : List Cond), w ∈ lw_g := List.forall_mem_cons.mpr ⟨gmi 518 (by decide +kernel) (by decide +kernel), List.forall_mem_cons.mpr ⟨gmi 521 (by decide +kernel) (by decide +kernel), List.forall_mem_cons.mpr ⟨gmi 519 (by decide +kernel) (by decide +kernel), List.forall_mem_cons.mpr ⟨gmi 522 (by decide +kernel) (by decide +kernel), List.forall_mem_cons.mpr ⟨gmi 523 (by decide +kernel) (by decide +kernel), List.forall_mem_cons.mpr ⟨gmi 63 (by decide +kernel) (by decide +kernel), fun _ h => by cases h⟩⟩⟩⟩⟩⟩
theorem vw_X4_28_X10 : ∀ w ∈ ([.methodLink RX4 28 ⟨"WheatSea$Hull", "hoursAcross", "()I"⟩, .sameMethod "WheatSea$Hull" "WheatSea$Hull" "hoursAcross" "()I", .selects RX10 ⟨"WheatSea$Hull", "hoursAcross", "()I"⟩ yX4_hoursAcross, .instanceMethod yX4_hoursAcross, .initialized yX4_hoursAcross.cls] : List Cond), w ∈ lw_g := List.forall_mem_cons.mpr ⟨gmi 531 (by decide +kernel) (by decide +kernel), List.forall_mem_cons.mpr ⟨gmi 534 (by decide +kernel) (by decide +kernel), List.forall_mem_cons.mpr ⟨gmi 540 (by decide +kernel) (by decide +kernel), List.forall_mem_cons.mpr ⟨gmi 532 (by decide +kernel) (by decide +kernel), List.forall_mem_cons.mpr ⟨gmi 59 (by decide +kernel) (by decide +kernel), fun _ h => by cases h⟩⟩⟩⟩⟩
theorem vw_X4_28_X2 : ∀ w ∈ ([.methodLink RX4 28 ⟨"WheatSea$Hull", "hoursAcross", "()I"⟩, .sameMethod "WheatSea$Hull" "WheatSea$Hull" "hoursAcross" "()I", .selects RX2 ⟨"WheatSea$Hull", "hoursAcross", "()I"⟩ yX4_hoursAcross, .instanceMethod yX4_hoursAcross, .initialized yX4_hoursAcross.cls] : List Cond), w ∈ lw_g := List.forall_mem_cons.mpr ⟨gmi 531 (by decide +kernel) (by decide +kernel), List.forall_mem_cons.mpr ⟨gmi 534 (by decide +kernel) (by decide +kernel), List.forall_mem_cons.mpr ⟨gmi 536 (by decide +kernel) (by decide +kernel), List.forall_mem_cons.mpr ⟨gmi 532 (by decide +kernel) (by decide +kernel), List.forall_mem_cons.mpr ⟨gmi 59 (by decide +kernel) (by decide +kernel), fun _ h => by cases h⟩⟩⟩⟩⟩
theorem vw_X4_28_X9 : ∀ w ∈ ([.methodLink RX4 28 ⟨"WheatSea$Hull", "hoursAcross", "()I"⟩, .sameMethod "WheatSea$Hull" "WheatSea$Hull" "hoursAcross" "()I", .instanceMethod ⟨"WheatSea$Hull", "hoursAcross", "()I"⟩, .selects RX9 ⟨"WheatSea$Hull", "hoursAcross", "()I"⟩ yX9_hoursAcross, .instanceMethod yX9_hoursAcross, .initialized yX9_hoursAcross.cls] : List Cond), w ∈ lw_g := List.forall_mem_cons.mpr ⟨gmi 531 (by decide +kernel) (by decide +kernel), List.forall_mem_cons.mpr ⟨gmi 534 (by decide +kernel) (by decide +kernel), List.forall_mem_cons.mpr ⟨gmi 532 (by decide +kernel) (by decide +kernel), List.forall_mem_cons.mpr ⟨gmi 537 (by decide +kernel) (by decide +kernel), List.forall_mem_cons.mpr ⟨gmi 538 (by decide +kernel) (by decide +kernel), List.forall_mem_cons.mpr ⟨gmi 62 (by decide +kernel) (by decide +kernel), fun _ h => by cases h⟩⟩⟩⟩⟩⟩
theorem vw_X4_28_X1 : ∀ w ∈ ([.methodLink RX4 28 ⟨"WheatSea$Hull", "hoursAcross", "()I"⟩, .sameMethod "WheatSea$Hull" "WheatSea$Hull" "hoursAcross" "()I", .selects RX1 ⟨"WheatSea$Hull", "hoursAcross", "()I"⟩ yX4_hoursAcross, .instanceMethod yX4_hoursAcross, .initialized yX4_hoursAcross.cls] : List Cond), w ∈ lw_g := List.forall_mem_cons.mpr ⟨gmi 531 (by decide +kernel) (by decide +kernel), List.forall_mem_cons.mpr ⟨gmi 534 (by decide +kernel) (by decide +kernel), List.forall_mem_cons.mpr ⟨gmi 535 (by decide +kernel) (by decide +kernel), List.forall_mem_cons.mpr ⟨gmi 532 (by decide +kernel) (by decide +kernel), List.forall_mem_cons.mpr ⟨gmi 59 (by decide +kernel) (by decide +kernel), fun _ h => by cases h⟩⟩⟩⟩⟩
end
section
theorem vp_b {i K : Int32} {N : Nat} (hl : 0 ≤ i) (hu : i < K) (hK : K.toInt ≤ (N : Int)) : vp_in i N := by
  rw [Int32.le_iff_toInt_le] at hl
  rw [Int32.lt_iff_toInt_lt] at hu
  have h0 : (0 : Int32).toInt = 0 := rfl
  exact vp_lit (by omega) (by omega)
theorem ti_ne {x y : Int32} (h : ¬ x = y) : ¬ x.toInt = y.toInt := fun q => h (Int32.toInt_inj.mp q)
theorem sw_out3 {x : Int32} (h0 : ¬ x = 0) (h1 : ¬ x = 1) (h2 : ¬ x = 2) : x.toInt < 0 ∨ 2 < x.toInt := by
  have a0 := ti_ne h0
  have a1 := ti_ne h1
  have a2 := ti_ne h2
  have e0 : (0 : Int32).toInt = 0 := rfl
  have e1 : (1 : Int32).toInt = 1 := rfl
  have e2 : (2 : Int32).toInt = 2 := rfl
  omega
theorem sw_out4 {x : Int32} (h0 : ¬ x = 0) (h1 : ¬ x = 1) (h2 : ¬ x = 2) (h3 : ¬ x = 3) : x.toInt < 0 ∨ 3 < x.toInt := by
  have a3 := ti_ne h3
  have e3 : (3 : Int32).toInt = 3 := rfl
  have := sw_out3 h0 h1 h2
  omega
theorem sw_out5 {x : Int32} (h0 : ¬ x = 0) (h1 : ¬ x = 1) (h2 : ¬ x = 2) (h3 : ¬ x = 3) (h4 : ¬ x = 4) : x.toInt < 0 ∨ 4 < x.toInt := by
  have a3 := ti_ne h4
  have e3 : (4 : Int32).toInt = 4 := rfl
  have := sw_out4 h0 h1 h2 h3
  omega
theorem sw_o14 {x : Int32} (h1 : ¬ x = 1) (h2 : ¬ x = 2) (h3 : ¬ x = 3) (h4 : ¬ x = 4) : x.toInt < 1 ∨ 4 < x.toInt := by
  have a1 := ti_ne h1
  have a2 := ti_ne h2
  have a3 := ti_ne h3
  have a4 := ti_ne h4
  have e1 : (1 : Int32).toInt = 1 := rfl
  have e2 : (2 : Int32).toInt = 2 := rfl
  have e3 : (3 : Int32).toInt = 3 := rfl
  have e4 : (4 : Int32).toInt = 4 := rfl
  omega
section VP
variable {p : Program} {l : Launch} {e : Env} {R : Room} {s : State} {m : MethodId} {args : Array Value} {below : List Frame} {meth : Method} {c : Code} {D : va_G} {b nL : Nat} {Q : State → Prop} {cells slots : Nat} {es : List va_E} {lv : List (Nat × Value)} {rest st : List Value} {pc n : Nat} {cc : ByteArray} {own nm : String} {ret : Option FieldType}
theorem v_pick {lv' : List (Nat × Value)} (ks : List Nat) (h : lv_pick lv ks = lv') (K : V p l e R s m args below meth c D b nL Q cells slots es lv' st pc) : V p l e R s m args below meth c D b nL Q cells slots es lv st pc := fun H locs ls hz hP hS hl => K H locs ls hz hP hS (lv_sub hl ks h)
end VP
theorem loop_dn {P : Nat → Prop} (N : Nat) (hN : P N) (hs : ∀ i, i < N → P (i + 1) → P i) : P 0 := by
  have h : ∀ n i, i + n = N → P i := by
    intro n
    induction n with
    | zero => intro i hi; rw [show i = N by omega]; exact hN
    | succ n ih => intro i hi; exact hs i (by omega) (ih (i + 1) (by omega))
  exact h N 0 (by omega)
section VQ
variable {p : Program} {l : Launch} {e : Env} {R : Room} {s : State} {m : MethodId} {args : Array Value} {below : List Frame} {meth : Method} {c : Code} {D : va_G} {b nL : Nat} {Q : State → Prop} {cells slots : Nat} {es es' : List va_E} {lv lv' : List (Nat × Value)} {st st' : List Value} {pc n : Nat}
theorem v_cong (h1 : es = es') (h2 : lv = lv') (K : V p l e R s m args below meth c D b nL Q cells slots es' lv' st pc) : V p l e R s m args below meth c D b nL Q cells slots es lv st pc := by
  rw [h1, h2]
  exact K
theorem v_stk (h1 : st = st') (K : V p l e R s m args below meth c D b nL Q cells slots es lv st' pc) : V p l e R s m args below meth c D b nL Q cells slots es lv st pc := by
  rw [h1]
  exact K
end VQ
theorem nI_n12 {i : Nat} {N : Nat} (h : i < N) (hN : N < 2 ^ 31) : ¬ Int32.ofNat N ≤ nI i := nI_ge h hN
theorem nI_g12 {N : Nat} : Int32.ofNat N ≤ nI N := Int32.le_refl _
theorem nI_vp {i N M : Nat} (h : i < N) (hM : N ≤ M) (hN : M < 2 ^ 31) : vp_in (nI i) M := vp_in_nI (Nat.lt_of_lt_of_le h hM) hN
theorem cg1 {α γ : Type} (f : α → γ) {a a' : α} (h1 : a = a') : f a = f a' := by rw [h1]
theorem cg2 {α β γ : Type} (f : α → β → γ) {a a' : α} {b b' : β} (h1 : a = a') (h2 : b = b') : f a b = f a' b' := by rw [h1, h2]
theorem cg3 {α β γ δ : Type} (f : α → β → γ → δ) {a a' : α} {b b' : β} {c c' : γ} (h1 : a = a') (h2 : b = b') (h3 : c = c') : f a b c = f a' b' c' := by rw [h1, h2, h3]
theorem cg4 {α β γ δ ε : Type} (f : α → β → γ → δ → ε) {a a' : α} {b b' : β} {c c' : γ} {d d' : δ} (h1 : a = a') (h2 : b = b') (h3 : c = c') (h4 : d = d') : f a b c d = f a' b' c' d' := by rw [h1, h2, h3, h4]
theorem cg5 {α β γ δ ε ζ : Type} (f : α → β → γ → δ → ε → ζ) {a a' : α} {b b' : β} {c c' : γ} {d d' : δ} {e e' : ε} (h1 : a = a') (h2 : b = b') (h3 : c = c') (h4 : d = d') (h5 : e = e') : f a b c d e = f a' b' c' d' e' := by rw [h1, h2, h3, h4, h5]
end
section
/-- isCell -/
def icP (x : Int32) : Prop := ¬ x < 0 ∧ ¬ 12 ≤ x
def icF (x : Int32) : Int32 := if x < 0 then 0 else if 12 ≤ x then 0 else 1
/-- beside -/
def beF (x w : Int32) : Int32 := if x < 0 then -1 else if 12 ≤ x then -1 else
  if w = 0 then (if 3 ≤ x - x / 4 * 4 then -1 else x + 1) else
  if w = 1 then (if 12 ≤ x + 4 then -1 else x + 4) else
  if w = 2 then (if x - x / 4 * 4 ≤ 0 then -1 else x - 1) else
  if w = 3 then (if x - 4 < 0 then -1 else x - 4) else -1
set_option maxHeartbeats 4000000 in
set_option maxRecDepth 100000 in
theorem c_isCell (l : Launch) (D : va_G) (b : Nat) (es : List va_E) (x : Int32) : Con l yX11_isCell cX11_isCell 1 (some .boolean) 0 0 D b 0 0 es [.int x] (fun r es' => r = some (.int (icF x)) ∧ es = es') := by
  refine con_of (by decide) (Nat.le_of_ble_eq_true rfl) (fun p e s m args below meth c C hsz => ?_)
  have C : vC p s m args meth c cX11_isCell 1 RX11 "isCell" (some .boolean) D b := C
  change V p l e _ s m args below meth c D b 1 _ 0 0 es [(0, .int x)] [] 0
  refine v_iload_n (n := 1) C dX11_isCell_0 rfl rfl rfl ?_
  refine v_if_lt (t := 14) (n := 4) C dX11_isCell_1 (by decide) rfl (fun c_1 => ?_) (fun c_1 => ?_)
  · skip
    refine v_iconst (n := 15) (v := 0) C dX11_isCell_14 rfl (by decide) ?_
    exact v_iret C dX11_isCell_15 rfl rfl ⟨by first | rfl | (simp only [icF, if_pos c_1, if_neg (Int32.not_le.mpr c_1)]; done) | simp [icF, c_1] , rfl⟩
  · skip
    refine v_iload_n (n := 5) C dX11_isCell_4 rfl rfl rfl ?_
    refine v_bipush (n := 7) (v := 12) C dX11_isCell_5 rfl (by decide) ?_
    refine v_icmp_ge (t := 14) (n := 10) C dX11_isCell_7 (by decide) rfl (fun c_2 => ?_) (fun c_2 => ?_)
    · skip
      refine v_iconst (n := 15) (v := 0) C dX11_isCell_14 rfl (by decide) ?_
      exact v_iret C dX11_isCell_15 rfl rfl ⟨by first | rfl | (simp only [icF, if_neg c_1, if_pos (Int32.not_lt.mp c_1), if_pos c_2, if_neg (Int32.not_lt.mpr c_2)]; done) | simp [icF, c_1, c_2] , rfl⟩
    · skip
      refine v_iconst (n := 11) (v := 1) C dX11_isCell_10 rfl (by decide) ?_
      refine v_goto (t := 15) C dX11_isCell_11 (by decide) ?_
      exact v_iret C dX11_isCell_15 rfl rfl ⟨by first | rfl | (simp only [icF, if_neg c_1, if_pos (Int32.not_lt.mp c_1), if_neg c_2, if_pos (Int32.not_le.mp c_2)]; done) | simp [icF, c_1, c_2] , rfl⟩
set_option maxHeartbeats 4000000 in
set_option maxRecDepth 100000 in
theorem c_beside (l : Launch) (D : va_G) (b : Nat) (es : List va_E) (x w : Int32) : Con l yX11_beside cX11_beside 2 (some .int) 1 20 D b 0 0 es [.int x, .int w] (fun r es' => r = some (.int (beF x w)) ∧ es = es') := by
  refine con_of (by decide) (Nat.le_of_ble_eq_true rfl) (fun p e s m args below meth c C hsz => ?_)
  have C : vC p s m args meth c cX11_beside 2 RX11 "beside" (some .int) D b := C
  change V p l e _ s m args below meth c D b 2 _ 0 0 es [(0, .int x), (1, .int w)] [] 0
  refine v_iload_n (n := 1) C dX11_beside_0 rfl rfl rfl ?_
  refine v_go (n := 4) C (vRun_S (As := [.int x]) (rest := []) C lk_X11_259 st_X11_isCell dX11_beside_1 (c_isCell l D b es x) wm_X11_isCell rfl rfl ⟨Nat.le_of_ble_eq_true rfl, Nat.le_of_ble_eq_true rfl⟩ ⟨Nat.le_of_ble_eq_true rfl, Nat.le_of_ble_eq_true rfl⟩ (Nat.le_of_ble_eq_true rfl)) rfl ?_
  rintro _ _ ⟨rfl, rfl⟩ -
  by_cases c_1 : x < 0
  · rw [show icF x = 0 by simp only [icF, if_pos c_1]]
    refine v_if_ne (t := 9) (n := 7) C dX11_beside_4 (by decide) rfl (fun c_3 => ?_) (fun c_3 => ?_)
    · exact absurd c_3 (by decide)
    · skip
      refine v_iconst (n := 8) (v := -1) C dX11_beside_7 rfl (by decide) ?_
      exact v_iret C dX11_beside_8 rfl rfl ⟨by first | rfl | (simp only [beF, if_pos c_1, if_neg (Int32.not_le.mpr c_1), if_pos c_3]; done) | simp [beF, c_1, c_3] , rfl⟩
  by_cases c_2 : 12 ≤ x
  · rw [show icF x = 0 by simp only [icF, if_neg c_1, if_pos c_2]]
    refine v_if_ne (t := 9) (n := 7) C dX11_beside_4 (by decide) rfl (fun c_4 => ?_) (fun c_4 => ?_)
    · exact absurd c_4 (by decide)
    · skip
      refine v_iconst (n := 8) (v := -1) C dX11_beside_7 rfl (by decide) ?_
      exact v_iret C dX11_beside_8 rfl rfl ⟨by first | rfl | (simp only [beF, if_neg c_1, if_pos (Int32.not_lt.mp c_1), if_pos c_2, if_neg (Int32.not_lt.mpr c_2), if_pos c_4]; done) | simp [beF, c_1, c_2, c_4] , rfl⟩
  rw [show icF x = 1 by simp only [icF, if_neg c_1, if_neg c_2]]
  refine v_if_ne (t := 9) (n := 7) C dX11_beside_4 (by decide) rfl (fun c_5 => ?_) (fun c_5 => ?_)
  · skip
    refine v_iload_n (n := 10) C dX11_beside_9 rfl rfl rfl ?_
    by_cases c_10 : w = 0
    · refine v_tableIn (t := 40) C dX11_beside_10 (by rw [c_10]; decide) (by rw [c_10]; decide) (by rw [c_10]; rfl) (by decide) ?_
      refine v_iload_n (n := 41) C dX11_beside_40 rfl rfl rfl ?_
      refine v_iconst (n := 42) (v := 4) C dX11_beside_41 rfl (by decide) ?_
      refine v_irem (n := 43) C dX11_beside_42 rfl (by decide) ?_
      refine v_iconst (n := 44) (v := 3) C dX11_beside_43 rfl (by decide) ?_
      refine v_icmp_ge (t := 53) (n := 47) C dX11_beside_44 (by decide) rfl (fun c_11 => ?_) (fun c_11 => ?_)
      · skip
        refine v_iconst (n := 54) (v := -1) C dX11_beside_53 rfl (by decide) ?_
        exact v_iret C dX11_beside_54 rfl rfl ⟨by first | rfl | (simp only [beF, if_neg c_1, if_pos (Int32.not_lt.mp c_1), if_neg c_2, if_pos (Int32.not_le.mp c_2), if_neg c_5, if_pos c_10, if_pos c_11, if_neg (Int32.not_lt.mpr c_11)]; done) | simp [beF, c_1, c_2, c_5, c_10, c_11] , rfl⟩
      · skip
        refine v_iload_n (n := 48) C dX11_beside_47 rfl rfl rfl ?_
        refine v_iconst (n := 49) (v := 1) C dX11_beside_48 rfl (by decide) ?_
        refine v_iadd (n := 50) C dX11_beside_49 rfl ?_
        refine v_goto (t := 54) C dX11_beside_50 (by decide) ?_
        exact v_iret C dX11_beside_54 rfl rfl ⟨by first | rfl | (simp only [beF, if_neg c_1, if_pos (Int32.not_lt.mp c_1), if_neg c_2, if_pos (Int32.not_le.mp c_2), if_neg c_5, if_pos c_10, if_neg c_11, if_pos (Int32.not_le.mp c_11)]; done) | simp [beF, c_1, c_2, c_5, c_10, c_11] , rfl⟩
    by_cases c_12 : w = 1
    · refine v_tableIn (t := 55) C dX11_beside_10 (by rw [c_12]; decide) (by rw [c_12]; decide) (by rw [c_12]; rfl) (by decide) ?_
      refine v_iload_n (n := 56) C dX11_beside_55 rfl rfl rfl ?_
      refine v_iconst (n := 57) (v := 4) C dX11_beside_56 rfl (by decide) ?_
      refine v_iadd (n := 58) C dX11_beside_57 rfl ?_
      refine v_bipush (n := 60) (v := 12) C dX11_beside_58 rfl (by decide) ?_
      refine v_icmp_ge (t := 69) (n := 63) C dX11_beside_60 (by decide) rfl (fun c_13 => ?_) (fun c_13 => ?_)
      · skip
        refine v_iconst (n := 70) (v := -1) C dX11_beside_69 rfl (by decide) ?_
        exact v_iret C dX11_beside_70 rfl rfl ⟨by first | rfl | (simp only [beF, if_neg c_1, if_pos (Int32.not_lt.mp c_1), if_neg c_2, if_pos (Int32.not_le.mp c_2), if_neg c_5, if_neg c_10, if_pos c_12, if_pos c_13, if_neg (Int32.not_lt.mpr c_13)]; done) | simp [beF, c_1, c_2, c_5, c_10, c_12, c_13] , rfl⟩
      · skip
        refine v_iload_n (n := 64) C dX11_beside_63 rfl rfl rfl ?_
        refine v_iconst (n := 65) (v := 4) C dX11_beside_64 rfl (by decide) ?_
        refine v_iadd (n := 66) C dX11_beside_65 rfl ?_
        refine v_goto (t := 70) C dX11_beside_66 (by decide) ?_
        exact v_iret C dX11_beside_70 rfl rfl ⟨by first | rfl | (simp only [beF, if_neg c_1, if_pos (Int32.not_lt.mp c_1), if_neg c_2, if_pos (Int32.not_le.mp c_2), if_neg c_5, if_neg c_10, if_pos c_12, if_neg c_13, if_pos (Int32.not_le.mp c_13)]; done) | simp [beF, c_1, c_2, c_5, c_10, c_12, c_13] , rfl⟩
    by_cases c_14 : w = 2
    · refine v_tableIn (t := 71) C dX11_beside_10 (by rw [c_14]; decide) (by rw [c_14]; decide) (by rw [c_14]; rfl) (by decide) ?_
      refine v_iload_n (n := 72) C dX11_beside_71 rfl rfl rfl ?_
      refine v_iconst (n := 73) (v := 4) C dX11_beside_72 rfl (by decide) ?_
      refine v_irem (n := 74) C dX11_beside_73 rfl (by decide) ?_
      refine v_if_le (t := 83) (n := 77) C dX11_beside_74 (by decide) rfl (fun c_15 => ?_) (fun c_15 => ?_)
      · skip
        refine v_iconst (n := 84) (v := -1) C dX11_beside_83 rfl (by decide) ?_
        exact v_iret C dX11_beside_84 rfl rfl ⟨by first | rfl | (simp only [beF, if_neg c_1, if_pos (Int32.not_lt.mp c_1), if_neg c_2, if_pos (Int32.not_le.mp c_2), if_neg c_5, if_neg c_10, if_neg c_12, if_pos c_14, if_pos c_15, if_neg (Int32.not_lt.mpr c_15)]; done) | simp [beF, c_1, c_2, c_5, c_10, c_12, c_14, c_15] , rfl⟩
      · skip
        refine v_iload_n (n := 78) C dX11_beside_77 rfl rfl rfl ?_
        refine v_iconst (n := 79) (v := 1) C dX11_beside_78 rfl (by decide) ?_
        refine v_isub (n := 80) C dX11_beside_79 rfl ?_
        refine v_goto (t := 84) C dX11_beside_80 (by decide) ?_
        exact v_iret C dX11_beside_84 rfl rfl ⟨by first | rfl | (simp only [beF, if_neg c_1, if_pos (Int32.not_lt.mp c_1), if_neg c_2, if_pos (Int32.not_le.mp c_2), if_neg c_5, if_neg c_10, if_neg c_12, if_pos c_14, if_neg c_15, if_pos (Int32.not_le.mp c_15)]; done) | simp [beF, c_1, c_2, c_5, c_10, c_12, c_14, c_15] , rfl⟩
    by_cases c_16 : w = 3
    · refine v_tableIn (t := 85) C dX11_beside_10 (by rw [c_16]; decide) (by rw [c_16]; decide) (by rw [c_16]; rfl) (by decide) ?_
      refine v_iload_n (n := 86) C dX11_beside_85 rfl rfl rfl ?_
      refine v_iconst (n := 87) (v := 4) C dX11_beside_86 rfl (by decide) ?_
      refine v_isub (n := 88) C dX11_beside_87 rfl ?_
      refine v_if_lt (t := 97) (n := 91) C dX11_beside_88 (by decide) rfl (fun c_17 => ?_) (fun c_17 => ?_)
      · skip
        refine v_iconst (n := 98) (v := -1) C dX11_beside_97 rfl (by decide) ?_
        exact v_iret C dX11_beside_98 rfl rfl ⟨by first | rfl | (simp only [beF, if_neg c_1, if_pos (Int32.not_lt.mp c_1), if_neg c_2, if_pos (Int32.not_le.mp c_2), if_neg c_5, if_neg c_10, if_neg c_12, if_neg c_14, if_pos c_16, if_pos c_17, if_neg (Int32.not_le.mpr c_17)]; done) | simp [beF, c_1, c_2, c_5, c_10, c_12, c_14, c_16, c_17] , rfl⟩
      · skip
        refine v_iload_n (n := 92) C dX11_beside_91 rfl rfl rfl ?_
        refine v_iconst (n := 93) (v := 4) C dX11_beside_92 rfl (by decide) ?_
        refine v_isub (n := 94) C dX11_beside_93 rfl ?_
        refine v_goto (t := 98) C dX11_beside_94 (by decide) ?_
        exact v_iret C dX11_beside_98 rfl rfl ⟨by first | rfl | (simp only [beF, if_neg c_1, if_pos (Int32.not_lt.mp c_1), if_neg c_2, if_pos (Int32.not_le.mp c_2), if_neg c_5, if_neg c_10, if_neg c_12, if_neg c_14, if_pos c_16, if_neg c_17, if_pos (Int32.not_lt.mp c_17)]; done) | simp [beF, c_1, c_2, c_5, c_10, c_12, c_14, c_16, c_17] , rfl⟩
    refine v_tableOut (t := 99) C dX11_beside_10 (sw_out4 c_10 c_12 c_14 c_16) (by decide) ?_
    refine v_iconst (n := 100) (v := -1) C dX11_beside_99 rfl (by decide) ?_
    exact v_iret C dX11_beside_100 rfl rfl ⟨by first | rfl | (simp only [beF, if_neg c_1, if_pos (Int32.not_lt.mp c_1), if_neg c_2, if_pos (Int32.not_le.mp c_2), if_neg c_5, if_neg c_10, if_neg c_12, if_neg c_14, if_neg c_16]; done) | simp [beF, c_1, c_2, c_5, c_10, c_12, c_14, c_16] , rfl⟩
  · exact absurd c_5 (by decide)
/-- what a kind of hull answers -/
def kiN (k : Nat) : Int32 := match k with | 0 => 0 | 1 => 1 | 2 => 2 | 3 => 3 | _ => 4
def cornN (k : Nat) (dr : Int32) : Int32 := match k with | 0 => dr | 1 => dr - 1 | 2 => dr | 3 => 0 | _ => dr - 1
def withN (k : Nat) : Int32 := match k with | 3 => 2 | _ => 1
def acrN (k : Nat) : Int32 := match k with | 3 => 3 | _ => 2
def becN (k : Nat) : Int32 := match k with | 3 => 4 | 4 => 2 | _ => 3
def agN (k : Nat) : Int32 := match k with | 2 => 4 | 4 => 3 | _ => -1
set_option maxHeartbeats 4000000 in
set_option maxRecDepth 100000 in
theorem c_X4_kind (l : Launch) (D : va_G) (b : Nat) (es : List va_E) (j : Nat)  : Con l yX4_kind cX4_kind 1 (some .int) 0 0 D b 0 0 es [.ref (b + j)] (fun r es' => r = some (.int (0)) ∧ es = es') := by
  refine con_of (by decide) (Nat.le_of_ble_eq_true rfl) (fun p e s m args below meth c C hsz => ?_)
  have C : vC p s m args meth c cX4_kind 1 RX4 "kind" (some .int) D b := C
  change V p l e _ s m args below meth c D b 1 _ 0 0 es [(0, .ref (b + j))] [] 0
  refine v_iconst (n := 1) (v := 0) C dX4_kind_0 rfl (by decide) ?_
  exact v_iret C dX4_kind_1 rfl rfl ⟨by first | rfl | (simp only []; done) | simp [] , rfl⟩
set_option maxHeartbeats 4000000 in
set_option maxRecDepth 100000 in
theorem c_X10_kind (l : Launch) (D : va_G) (b : Nat) (es : List va_E) (j : Nat)  : Con l yX10_kind cX10_kind 1 (some .int) 0 0 D b 0 0 es [.ref (b + j)] (fun r es' => r = some (.int (1)) ∧ es = es') := by
  refine con_of (by decide) (Nat.le_of_ble_eq_true rfl) (fun p e s m args below meth c C hsz => ?_)
  have C : vC p s m args meth c cX10_kind 1 RX10 "kind" (some .int) D b := C
  change V p l e _ s m args below meth c D b 1 _ 0 0 es [(0, .ref (b + j))] [] 0
  refine v_iconst (n := 1) (v := 1) C dX10_kind_0 rfl (by decide) ?_
  exact v_iret C dX10_kind_1 rfl rfl ⟨by first | rfl | (simp only []; done) | simp [] , rfl⟩
set_option maxHeartbeats 4000000 in
set_option maxRecDepth 100000 in
theorem c_X2_kind (l : Launch) (D : va_G) (b : Nat) (es : List va_E) (j : Nat)  : Con l yX2_kind cX2_kind 1 (some .int) 0 0 D b 0 0 es [.ref (b + j)] (fun r es' => r = some (.int (2)) ∧ es = es') := by
  refine con_of (by decide) (Nat.le_of_ble_eq_true rfl) (fun p e s m args below meth c C hsz => ?_)
  have C : vC p s m args meth c cX2_kind 1 RX2 "kind" (some .int) D b := C
  change V p l e _ s m args below meth c D b 1 _ 0 0 es [(0, .ref (b + j))] [] 0
  refine v_iconst (n := 1) (v := 2) C dX2_kind_0 rfl (by decide) ?_
  exact v_iret C dX2_kind_1 rfl rfl ⟨by first | rfl | (simp only []; done) | simp [] , rfl⟩
set_option maxHeartbeats 4000000 in
set_option maxRecDepth 100000 in
theorem c_X9_kind (l : Launch) (D : va_G) (b : Nat) (es : List va_E) (j : Nat)  : Con l yX9_kind cX9_kind 1 (some .int) 0 0 D b 0 0 es [.ref (b + j)] (fun r es' => r = some (.int (3)) ∧ es = es') := by
  refine con_of (by decide) (Nat.le_of_ble_eq_true rfl) (fun p e s m args below meth c C hsz => ?_)
  have C : vC p s m args meth c cX9_kind 1 RX9 "kind" (some .int) D b := C
  change V p l e _ s m args below meth c D b 1 _ 0 0 es [(0, .ref (b + j))] [] 0
  refine v_iconst (n := 1) (v := 3) C dX9_kind_0 rfl (by decide) ?_
  exact v_iret C dX9_kind_1 rfl rfl ⟨by first | rfl | (simp only []; done) | simp [] , rfl⟩
set_option maxHeartbeats 4000000 in
set_option maxRecDepth 100000 in
theorem c_X1_kind (l : Launch) (D : va_G) (b : Nat) (es : List va_E) (j : Nat)  : Con l yX1_kind cX1_kind 1 (some .int) 0 0 D b 0 0 es [.ref (b + j)] (fun r es' => r = some (.int (4)) ∧ es = es') := by
  refine con_of (by decide) (Nat.le_of_ble_eq_true rfl) (fun p e s m args below meth c C hsz => ?_)
  have C : vC p s m args meth c cX1_kind 1 RX1 "kind" (some .int) D b := C
  change V p l e _ s m args below meth c D b 1 _ 0 0 es [(0, .ref (b + j))] [] 0
  refine v_iconst (n := 1) (v := 4) C dX1_kind_0 rfl (by decide) ?_
  exact v_iret C dX1_kind_1 rfl rfl ⟨by first | rfl | (simp only []; done) | simp [] , rfl⟩
set_option maxHeartbeats 4000000 in
set_option maxRecDepth 100000 in
theorem c_X4_hoursWith (l : Launch) (D : va_G) (b : Nat) (es : List va_E) (j : Nat)  : Con l yX4_hoursWith cX4_hoursWith 1 (some .int) 0 0 D b 0 0 es [.ref (b + j)] (fun r es' => r = some (.int (1)) ∧ es = es') := by
  refine con_of (by decide) (Nat.le_of_ble_eq_true rfl) (fun p e s m args below meth c C hsz => ?_)
  have C : vC p s m args meth c cX4_hoursWith 1 RX4 "hoursWith" (some .int) D b := C
  change V p l e _ s m args below meth c D b 1 _ 0 0 es [(0, .ref (b + j))] [] 0
  refine v_iconst (n := 1) (v := 1) C dX4_hoursWith_0 rfl (by decide) ?_
  exact v_iret C dX4_hoursWith_1 rfl rfl ⟨by first | rfl | (simp only []; done) | simp [] , rfl⟩
set_option maxHeartbeats 4000000 in
set_option maxRecDepth 100000 in
theorem c_X9_hoursWith (l : Launch) (D : va_G) (b : Nat) (es : List va_E) (j : Nat)  : Con l yX9_hoursWith cX9_hoursWith 1 (some .int) 0 0 D b 0 0 es [.ref (b + j)] (fun r es' => r = some (.int (2)) ∧ es = es') := by
  refine con_of (by decide) (Nat.le_of_ble_eq_true rfl) (fun p e s m args below meth c C hsz => ?_)
  have C : vC p s m args meth c cX9_hoursWith 1 RX9 "hoursWith" (some .int) D b := C
  change V p l e _ s m args below meth c D b 1 _ 0 0 es [(0, .ref (b + j))] [] 0
  refine v_iconst (n := 1) (v := 2) C dX9_hoursWith_0 rfl (by decide) ?_
  exact v_iret C dX9_hoursWith_1 rfl rfl ⟨by first | rfl | (simp only []; done) | simp [] , rfl⟩
set_option maxHeartbeats 4000000 in
set_option maxRecDepth 100000 in
theorem c_X4_hoursAcross (l : Launch) (D : va_G) (b : Nat) (es : List va_E) (j : Nat)  : Con l yX4_hoursAcross cX4_hoursAcross 1 (some .int) 0 0 D b 0 0 es [.ref (b + j)] (fun r es' => r = some (.int (2)) ∧ es = es') := by
  refine con_of (by decide) (Nat.le_of_ble_eq_true rfl) (fun p e s m args below meth c C hsz => ?_)
  have C : vC p s m args meth c cX4_hoursAcross 1 RX4 "hoursAcross" (some .int) D b := C
  change V p l e _ s m args below meth c D b 1 _ 0 0 es [(0, .ref (b + j))] [] 0
  refine v_iconst (n := 1) (v := 2) C dX4_hoursAcross_0 rfl (by decide) ?_
  exact v_iret C dX4_hoursAcross_1 rfl rfl ⟨by first | rfl | (simp only []; done) | simp [] , rfl⟩
set_option maxHeartbeats 4000000 in
set_option maxRecDepth 100000 in
theorem c_X9_hoursAcross (l : Launch) (D : va_G) (b : Nat) (es : List va_E) (j : Nat)  : Con l yX9_hoursAcross cX9_hoursAcross 1 (some .int) 0 0 D b 0 0 es [.ref (b + j)] (fun r es' => r = some (.int (3)) ∧ es = es') := by
  refine con_of (by decide) (Nat.le_of_ble_eq_true rfl) (fun p e s m args below meth c C hsz => ?_)
  have C : vC p s m args meth c cX9_hoursAcross 1 RX9 "hoursAcross" (some .int) D b := C
  change V p l e _ s m args below meth c D b 1 _ 0 0 es [(0, .ref (b + j))] [] 0
  refine v_iconst (n := 1) (v := 3) C dX9_hoursAcross_0 rfl (by decide) ?_
  exact v_iret C dX9_hoursAcross_1 rfl rfl ⟨by first | rfl | (simp only []; done) | simp [] , rfl⟩
set_option maxHeartbeats 4000000 in
set_option maxRecDepth 100000 in
theorem c_X4_hoursBecalmed (l : Launch) (D : va_G) (b : Nat) (es : List va_E) (j : Nat)  : Con l yX4_hoursBecalmed cX4_hoursBecalmed 1 (some .int) 0 0 D b 0 0 es [.ref (b + j)] (fun r es' => r = some (.int (3)) ∧ es = es') := by
  refine con_of (by decide) (Nat.le_of_ble_eq_true rfl) (fun p e s m args below meth c C hsz => ?_)
  have C : vC p s m args meth c cX4_hoursBecalmed 1 RX4 "hoursBecalmed" (some .int) D b := C
  change V p l e _ s m args below meth c D b 1 _ 0 0 es [(0, .ref (b + j))] [] 0
  refine v_iconst (n := 1) (v := 3) C dX4_hoursBecalmed_0 rfl (by decide) ?_
  exact v_iret C dX4_hoursBecalmed_1 rfl rfl ⟨by first | rfl | (simp only []; done) | simp [] , rfl⟩
set_option maxHeartbeats 4000000 in
set_option maxRecDepth 100000 in
theorem c_X9_hoursBecalmed (l : Launch) (D : va_G) (b : Nat) (es : List va_E) (j : Nat)  : Con l yX9_hoursBecalmed cX9_hoursBecalmed 1 (some .int) 0 0 D b 0 0 es [.ref (b + j)] (fun r es' => r = some (.int (4)) ∧ es = es') := by
  refine con_of (by decide) (Nat.le_of_ble_eq_true rfl) (fun p e s m args below meth c C hsz => ?_)
  have C : vC p s m args meth c cX9_hoursBecalmed 1 RX9 "hoursBecalmed" (some .int) D b := C
  change V p l e _ s m args below meth c D b 1 _ 0 0 es [(0, .ref (b + j))] [] 0
  refine v_iconst (n := 1) (v := 4) C dX9_hoursBecalmed_0 rfl (by decide) ?_
  exact v_iret C dX9_hoursBecalmed_1 rfl rfl ⟨by first | rfl | (simp only []; done) | simp [] , rfl⟩
set_option maxHeartbeats 4000000 in
set_option maxRecDepth 100000 in
theorem c_X1_hoursBecalmed (l : Launch) (D : va_G) (b : Nat) (es : List va_E) (j : Nat)  : Con l yX1_hoursBecalmed cX1_hoursBecalmed 1 (some .int) 0 0 D b 0 0 es [.ref (b + j)] (fun r es' => r = some (.int (2)) ∧ es = es') := by
  refine con_of (by decide) (Nat.le_of_ble_eq_true rfl) (fun p e s m args below meth c C hsz => ?_)
  have C : vC p s m args meth c cX1_hoursBecalmed 1 RX1 "hoursBecalmed" (some .int) D b := C
  change V p l e _ s m args below meth c D b 1 _ 0 0 es [(0, .ref (b + j))] [] 0
  refine v_iconst (n := 1) (v := 2) C dX1_hoursBecalmed_0 rfl (by decide) ?_
  exact v_iret C dX1_hoursBecalmed_1 rfl rfl ⟨by first | rfl | (simp only []; done) | simp [] , rfl⟩
set_option maxHeartbeats 4000000 in
set_option maxRecDepth 100000 in
theorem c_X4_hoursAgainst (l : Launch) (D : va_G) (b : Nat) (es : List va_E) (j : Nat)  : Con l yX4_hoursAgainst cX4_hoursAgainst 1 (some .int) 0 0 D b 0 0 es [.ref (b + j)] (fun r es' => r = some (.int ((-1))) ∧ es = es') := by
  refine con_of (by decide) (Nat.le_of_ble_eq_true rfl) (fun p e s m args below meth c C hsz => ?_)
  have C : vC p s m args meth c cX4_hoursAgainst 1 RX4 "hoursAgainst" (some .int) D b := C
  change V p l e _ s m args below meth c D b 1 _ 0 0 es [(0, .ref (b + j))] [] 0
  refine v_iconst (n := 1) (v := -1) C dX4_hoursAgainst_0 rfl (by decide) ?_
  exact v_iret C dX4_hoursAgainst_1 rfl rfl ⟨by first | rfl | (simp only []; done) | simp [] , rfl⟩
set_option maxHeartbeats 4000000 in
set_option maxRecDepth 100000 in
theorem c_X2_hoursAgainst (l : Launch) (D : va_G) (b : Nat) (es : List va_E) (j : Nat)  : Con l yX2_hoursAgainst cX2_hoursAgainst 1 (some .int) 0 0 D b 0 0 es [.ref (b + j)] (fun r es' => r = some (.int (4)) ∧ es = es') := by
  refine con_of (by decide) (Nat.le_of_ble_eq_true rfl) (fun p e s m args below meth c C hsz => ?_)
  have C : vC p s m args meth c cX2_hoursAgainst 1 RX2 "hoursAgainst" (some .int) D b := C
  change V p l e _ s m args below meth c D b 1 _ 0 0 es [(0, .ref (b + j))] [] 0
  refine v_iconst (n := 1) (v := 4) C dX2_hoursAgainst_0 rfl (by decide) ?_
  exact v_iret C dX2_hoursAgainst_1 rfl rfl ⟨by first | rfl | (simp only []; done) | simp [] , rfl⟩
set_option maxHeartbeats 4000000 in
set_option maxRecDepth 100000 in
theorem c_X1_hoursAgainst (l : Launch) (D : va_G) (b : Nat) (es : List va_E) (j : Nat)  : Con l yX1_hoursAgainst cX1_hoursAgainst 1 (some .int) 0 0 D b 0 0 es [.ref (b + j)] (fun r es' => r = some (.int (3)) ∧ es = es') := by
  refine con_of (by decide) (Nat.le_of_ble_eq_true rfl) (fun p e s m args below meth c C hsz => ?_)
  have C : vC p s m args meth c cX1_hoursAgainst 1 RX1 "hoursAgainst" (some .int) D b := C
  change V p l e _ s m args below meth c D b 1 _ 0 0 es [(0, .ref (b + j))] [] 0
  refine v_iconst (n := 1) (v := 3) C dX1_hoursAgainst_0 rfl (by decide) ?_
  exact v_iret C dX1_hoursAgainst_1 rfl rfl ⟨by first | rfl | (simp only []; done) | simp [] , rfl⟩
set_option maxHeartbeats 4000000 in
set_option maxRecDepth 100000 in
theorem c_X9_cornNeeded (l : Launch) (D : va_G) (b : Nat) (es : List va_E) (j : Nat)  : Con l yX9_cornNeeded cX9_cornNeeded 1 (some .int) 0 0 D b 0 0 es [.ref (b + j)] (fun r es' => r = some (.int (0)) ∧ es = es') := by
  refine con_of (by decide) (Nat.le_of_ble_eq_true rfl) (fun p e s m args below meth c C hsz => ?_)
  have C : vC p s m args meth c cX9_cornNeeded 1 RX9 "cornNeeded" (some .int) D b := C
  change V p l e _ s m args below meth c D b 1 _ 0 0 es [(0, .ref (b + j))] [] 0
  refine v_iconst (n := 1) (v := 0) C dX9_cornNeeded_0 rfl (by decide) ?_
  exact v_iret C dX9_cornNeeded_1 rfl rfl ⟨by first | rfl | (simp only []; done) | simp [] , rfl⟩
set_option maxHeartbeats 4000000 in
set_option maxRecDepth 100000 in
theorem c_X4_cornNeeded (l : Launch) (D : va_G) (b : Nat) (es : List va_E) (j : Nat) (ci : Nat) (dr ce sa : Int32) (F : FL RX4 9 ci 0) (he : es[j]? = some (.inr (ci, [.int dr, .int ce, .int sa]))) : Con l yX4_cornNeeded cX4_cornNeeded 1 (some .int) 0 0 D b 0 0 es [.ref (b + j)] (fun r es' => r = some (.int (dr)) ∧ es = es') := by
  refine con_of (by decide) (Nat.le_of_ble_eq_true rfl) (fun p e s m args below meth c C hsz => ?_)
  have C : vC p s m args meth c cX4_cornNeeded 1 RX4 "cornNeeded" (some .int) D b := C
  change V p l e _ s m args below meth c D b 1 _ 0 0 es [(0, .ref (b + j))] [] 0
  refine v_aload_n (n := 1) C dX4_cornNeeded_0 rfl rfl rfl ?_
  refine v_get (n := 4) C dX4_cornNeeded_1 rfl F he rfl ?_
  exact v_iret C dX4_cornNeeded_4 rfl rfl ⟨by first | rfl | (simp only []; done) | simp [] , rfl⟩
set_option maxHeartbeats 4000000 in
set_option maxRecDepth 100000 in
theorem c_X10_cornNeeded (l : Launch) (D : va_G) (b : Nat) (es : List va_E) (j : Nat) (ci : Nat) (dr ce sa : Int32) (F : FL RX10 7 ci 0) (he : es[j]? = some (.inr (ci, [.int dr, .int ce, .int sa]))) : Con l yX10_cornNeeded cX10_cornNeeded 1 (some .int) 0 0 D b 0 0 es [.ref (b + j)] (fun r es' => r = some (.int ((dr - 1))) ∧ es = es') := by
  refine con_of (by decide) (Nat.le_of_ble_eq_true rfl) (fun p e s m args below meth c C hsz => ?_)
  have C : vC p s m args meth c cX10_cornNeeded 1 RX10 "cornNeeded" (some .int) D b := C
  change V p l e _ s m args below meth c D b 1 _ 0 0 es [(0, .ref (b + j))] [] 0
  refine v_aload_n (n := 1) C dX10_cornNeeded_0 rfl rfl rfl ?_
  refine v_get (n := 4) C dX10_cornNeeded_1 rfl F he rfl ?_
  refine v_iconst (n := 5) (v := 1) C dX10_cornNeeded_4 rfl (by decide) ?_
  refine v_isub (n := 6) C dX10_cornNeeded_5 rfl ?_
  exact v_iret C dX10_cornNeeded_6 rfl rfl ⟨by first | rfl | (simp only []; done) | simp [] , rfl⟩
theorem vr_X4_18 {p : Program} {l : Launch} {e : Env} {R : Room} {s : State} {m : MethodId} {args : Array Value} {below : List Frame} {meth : Method} {c : Code} {D : va_G} {b nL : Nat} {cells slots : Nat} {es : List va_E} {rest : List Value} {pc : Nat} {cc : ByteArray} {nm : String} {ret : Option FieldType} (C : vC p s m args meth c cc nL RX4 nm ret D b) {k j : Nat} {dr ce sa : Int32}  (hk : k < 5) (he : es[j]? = some (hcl k dr ce sa)) (hdg : decode cc pc = .ok (.invokevirtual 18, 3)) (hR : 1 ≤ R.frames ∧ 20 ≤ R.locals) (hf : cells ≤ R.cells ∧ slots ≤ R.slots) (hW : (rest.map fun v => v.category).sum ≤ 8) : vRun p l e R s m args below meth c D b nL cells slots es rest (.ref (b + j) :: rest) pc 0 0 (fun r es' => r = some (.int (becN k)) ∧ es = es') := by
  match k, hk, he with
  | 0, _, he => exact vRun_V (As := []) C he rfl lk_X4_18 im_X4_hoursBecalmed se_X4_hoursBecalmed hdg (c_X4_hoursBecalmed l D b es j) wm_X4_hoursBecalmed rfl rfl ⟨Nat.le_trans (Nat.le_of_ble_eq_true rfl) hR.1, Nat.le_trans (Nat.le_of_ble_eq_true rfl) hR.2⟩ hf hW
  | 1, _, he => exact vRun_U (As := []) (owner := "WheatSea$Hull") (x := ⟨"WheatSea$Hull", "hoursBecalmed", "()I"⟩) C he rfl vw_X4_18_X10 rfl ⟨by decide, by decide, by decide +kernel⟩ hdg (c_X4_hoursBecalmed l D b es j) wm_X4_hoursBecalmed rfl rfl ⟨Nat.le_trans (Nat.le_of_ble_eq_true rfl) hR.1, Nat.le_trans (Nat.le_of_ble_eq_true rfl) hR.2⟩ hf hW
  | 2, _, he => exact vRun_U (As := []) (owner := "WheatSea$Hull") (x := ⟨"WheatSea$Hull", "hoursBecalmed", "()I"⟩) C he rfl vw_X4_18_X2 rfl ⟨by decide, by decide, by decide +kernel⟩ hdg (c_X4_hoursBecalmed l D b es j) wm_X4_hoursBecalmed rfl rfl ⟨Nat.le_trans (Nat.le_of_ble_eq_true rfl) hR.1, Nat.le_trans (Nat.le_of_ble_eq_true rfl) hR.2⟩ hf hW
  | 3, _, he => exact vRun_O (As := []) (owner := "WheatSea$Hull") (x := ⟨"WheatSea$Hull", "hoursBecalmed", "()I"⟩) C he rfl vw_X4_18_X9 wm_X4_hoursBecalmed.1 ⟨by decide, by decide, by decide +kernel⟩ hdg (c_X9_hoursBecalmed l D b es j) wm_X9_hoursBecalmed rfl rfl ⟨Nat.le_trans (Nat.le_of_ble_eq_true rfl) hR.1, Nat.le_trans (Nat.le_of_ble_eq_true rfl) hR.2⟩ hf hW
  | 4, _, he => exact vRun_O (As := []) (owner := "WheatSea$Hull") (x := ⟨"WheatSea$Hull", "hoursBecalmed", "()I"⟩) C he rfl vw_X4_18_X1 wm_X4_hoursBecalmed.1 ⟨by decide, by decide, by decide +kernel⟩ hdg (c_X1_hoursBecalmed l D b es j) wm_X1_hoursBecalmed rfl rfl ⟨Nat.le_trans (Nat.le_of_ble_eq_true rfl) hR.1, Nat.le_trans (Nat.le_of_ble_eq_true rfl) hR.2⟩ hf hW
theorem vr_X4_22 {p : Program} {l : Launch} {e : Env} {R : Room} {s : State} {m : MethodId} {args : Array Value} {below : List Frame} {meth : Method} {c : Code} {D : va_G} {b nL : Nat} {cells slots : Nat} {es : List va_E} {rest : List Value} {pc : Nat} {cc : ByteArray} {nm : String} {ret : Option FieldType} (C : vC p s m args meth c cc nL RX4 nm ret D b) {k j : Nat} {dr ce sa : Int32}  (hk : k < 5) (he : es[j]? = some (hcl k dr ce sa)) (hdg : decode cc pc = .ok (.invokevirtual 22, 3)) (hR : 1 ≤ R.frames ∧ 20 ≤ R.locals) (hf : cells ≤ R.cells ∧ slots ≤ R.slots) (hW : (rest.map fun v => v.category).sum ≤ 8) : vRun p l e R s m args below meth c D b nL cells slots es rest (.ref (b + j) :: rest) pc 0 0 (fun r es' => r = some (.int (withN k)) ∧ es = es') := by
  match k, hk, he with
  | 0, _, he => exact vRun_V (As := []) C he rfl lk_X4_22 im_X4_hoursWith se_X4_hoursWith hdg (c_X4_hoursWith l D b es j) wm_X4_hoursWith rfl rfl ⟨Nat.le_trans (Nat.le_of_ble_eq_true rfl) hR.1, Nat.le_trans (Nat.le_of_ble_eq_true rfl) hR.2⟩ hf hW
  | 1, _, he => exact vRun_U (As := []) (owner := "WheatSea$Hull") (x := ⟨"WheatSea$Hull", "hoursWith", "()I"⟩) C he rfl vw_X4_22_X10 rfl ⟨by decide, by decide, by decide +kernel⟩ hdg (c_X4_hoursWith l D b es j) wm_X4_hoursWith rfl rfl ⟨Nat.le_trans (Nat.le_of_ble_eq_true rfl) hR.1, Nat.le_trans (Nat.le_of_ble_eq_true rfl) hR.2⟩ hf hW
  | 2, _, he => exact vRun_U (As := []) (owner := "WheatSea$Hull") (x := ⟨"WheatSea$Hull", "hoursWith", "()I"⟩) C he rfl vw_X4_22_X2 rfl ⟨by decide, by decide, by decide +kernel⟩ hdg (c_X4_hoursWith l D b es j) wm_X4_hoursWith rfl rfl ⟨Nat.le_trans (Nat.le_of_ble_eq_true rfl) hR.1, Nat.le_trans (Nat.le_of_ble_eq_true rfl) hR.2⟩ hf hW
  | 3, _, he => exact vRun_O (As := []) (owner := "WheatSea$Hull") (x := ⟨"WheatSea$Hull", "hoursWith", "()I"⟩) C he rfl vw_X4_22_X9 wm_X4_hoursWith.1 ⟨by decide, by decide, by decide +kernel⟩ hdg (c_X9_hoursWith l D b es j) wm_X9_hoursWith rfl rfl ⟨Nat.le_trans (Nat.le_of_ble_eq_true rfl) hR.1, Nat.le_trans (Nat.le_of_ble_eq_true rfl) hR.2⟩ hf hW
  | 4, _, he => exact vRun_U (As := []) (owner := "WheatSea$Hull") (x := ⟨"WheatSea$Hull", "hoursWith", "()I"⟩) C he rfl vw_X4_22_X1 rfl ⟨by decide, by decide, by decide +kernel⟩ hdg (c_X4_hoursWith l D b es j) wm_X4_hoursWith rfl rfl ⟨Nat.le_trans (Nat.le_of_ble_eq_true rfl) hR.1, Nat.le_trans (Nat.le_of_ble_eq_true rfl) hR.2⟩ hf hW
theorem vr_X4_25 {p : Program} {l : Launch} {e : Env} {R : Room} {s : State} {m : MethodId} {args : Array Value} {below : List Frame} {meth : Method} {c : Code} {D : va_G} {b nL : Nat} {cells slots : Nat} {es : List va_E} {rest : List Value} {pc : Nat} {cc : ByteArray} {nm : String} {ret : Option FieldType} (C : vC p s m args meth c cc nL RX4 nm ret D b) {k j : Nat} {dr ce sa : Int32}  (hk : k < 5) (he : es[j]? = some (hcl k dr ce sa)) (hdg : decode cc pc = .ok (.invokevirtual 25, 3)) (hR : 1 ≤ R.frames ∧ 20 ≤ R.locals) (hf : cells ≤ R.cells ∧ slots ≤ R.slots) (hW : (rest.map fun v => v.category).sum ≤ 8) : vRun p l e R s m args below meth c D b nL cells slots es rest (.ref (b + j) :: rest) pc 0 0 (fun r es' => r = some (.int (agN k)) ∧ es = es') := by
  match k, hk, he with
  | 0, _, he => exact vRun_V (As := []) C he rfl lk_X4_25 im_X4_hoursAgainst se_X4_hoursAgainst hdg (c_X4_hoursAgainst l D b es j) wm_X4_hoursAgainst rfl rfl ⟨Nat.le_trans (Nat.le_of_ble_eq_true rfl) hR.1, Nat.le_trans (Nat.le_of_ble_eq_true rfl) hR.2⟩ hf hW
  | 1, _, he => exact vRun_U (As := []) (owner := "WheatSea$Hull") (x := ⟨"WheatSea$Hull", "hoursAgainst", "()I"⟩) C he rfl vw_X4_25_X10 rfl ⟨by decide, by decide, by decide +kernel⟩ hdg (c_X4_hoursAgainst l D b es j) wm_X4_hoursAgainst rfl rfl ⟨Nat.le_trans (Nat.le_of_ble_eq_true rfl) hR.1, Nat.le_trans (Nat.le_of_ble_eq_true rfl) hR.2⟩ hf hW
  | 2, _, he => exact vRun_O (As := []) (owner := "WheatSea$Hull") (x := ⟨"WheatSea$Hull", "hoursAgainst", "()I"⟩) C he rfl vw_X4_25_X2 wm_X4_hoursAgainst.1 ⟨by decide, by decide, by decide +kernel⟩ hdg (c_X2_hoursAgainst l D b es j) wm_X2_hoursAgainst rfl rfl ⟨Nat.le_trans (Nat.le_of_ble_eq_true rfl) hR.1, Nat.le_trans (Nat.le_of_ble_eq_true rfl) hR.2⟩ hf hW
  | 3, _, he => exact vRun_U (As := []) (owner := "WheatSea$Hull") (x := ⟨"WheatSea$Hull", "hoursAgainst", "()I"⟩) C he rfl vw_X4_25_X9 rfl ⟨by decide, by decide, by decide +kernel⟩ hdg (c_X4_hoursAgainst l D b es j) wm_X4_hoursAgainst rfl rfl ⟨Nat.le_trans (Nat.le_of_ble_eq_true rfl) hR.1, Nat.le_trans (Nat.le_of_ble_eq_true rfl) hR.2⟩ hf hW
  | 4, _, he => exact vRun_O (As := []) (owner := "WheatSea$Hull") (x := ⟨"WheatSea$Hull", "hoursAgainst", "()I"⟩) C he rfl vw_X4_25_X1 wm_X4_hoursAgainst.1 ⟨by decide, by decide, by decide +kernel⟩ hdg (c_X1_hoursAgainst l D b es j) wm_X1_hoursAgainst rfl rfl ⟨Nat.le_trans (Nat.le_of_ble_eq_true rfl) hR.1, Nat.le_trans (Nat.le_of_ble_eq_true rfl) hR.2⟩ hf hW
theorem vr_X4_28 {p : Program} {l : Launch} {e : Env} {R : Room} {s : State} {m : MethodId} {args : Array Value} {below : List Frame} {meth : Method} {c : Code} {D : va_G} {b nL : Nat} {cells slots : Nat} {es : List va_E} {rest : List Value} {pc : Nat} {cc : ByteArray} {nm : String} {ret : Option FieldType} (C : vC p s m args meth c cc nL RX4 nm ret D b) {k j : Nat} {dr ce sa : Int32}  (hk : k < 5) (he : es[j]? = some (hcl k dr ce sa)) (hdg : decode cc pc = .ok (.invokevirtual 28, 3)) (hR : 1 ≤ R.frames ∧ 20 ≤ R.locals) (hf : cells ≤ R.cells ∧ slots ≤ R.slots) (hW : (rest.map fun v => v.category).sum ≤ 8) : vRun p l e R s m args below meth c D b nL cells slots es rest (.ref (b + j) :: rest) pc 0 0 (fun r es' => r = some (.int (acrN k)) ∧ es = es') := by
  match k, hk, he with
  | 0, _, he => exact vRun_V (As := []) C he rfl lk_X4_28 im_X4_hoursAcross se_X4_hoursAcross hdg (c_X4_hoursAcross l D b es j) wm_X4_hoursAcross rfl rfl ⟨Nat.le_trans (Nat.le_of_ble_eq_true rfl) hR.1, Nat.le_trans (Nat.le_of_ble_eq_true rfl) hR.2⟩ hf hW
  | 1, _, he => exact vRun_U (As := []) (owner := "WheatSea$Hull") (x := ⟨"WheatSea$Hull", "hoursAcross", "()I"⟩) C he rfl vw_X4_28_X10 rfl ⟨by decide, by decide, by decide +kernel⟩ hdg (c_X4_hoursAcross l D b es j) wm_X4_hoursAcross rfl rfl ⟨Nat.le_trans (Nat.le_of_ble_eq_true rfl) hR.1, Nat.le_trans (Nat.le_of_ble_eq_true rfl) hR.2⟩ hf hW
  | 2, _, he => exact vRun_U (As := []) (owner := "WheatSea$Hull") (x := ⟨"WheatSea$Hull", "hoursAcross", "()I"⟩) C he rfl vw_X4_28_X2 rfl ⟨by decide, by decide, by decide +kernel⟩ hdg (c_X4_hoursAcross l D b es j) wm_X4_hoursAcross rfl rfl ⟨Nat.le_trans (Nat.le_of_ble_eq_true rfl) hR.1, Nat.le_trans (Nat.le_of_ble_eq_true rfl) hR.2⟩ hf hW
  | 3, _, he => exact vRun_O (As := []) (owner := "WheatSea$Hull") (x := ⟨"WheatSea$Hull", "hoursAcross", "()I"⟩) C he rfl vw_X4_28_X9 wm_X4_hoursAcross.1 ⟨by decide, by decide, by decide +kernel⟩ hdg (c_X9_hoursAcross l D b es j) wm_X9_hoursAcross rfl rfl ⟨Nat.le_trans (Nat.le_of_ble_eq_true rfl) hR.1, Nat.le_trans (Nat.le_of_ble_eq_true rfl) hR.2⟩ hf hW
  | 4, _, he => exact vRun_U (As := []) (owner := "WheatSea$Hull") (x := ⟨"WheatSea$Hull", "hoursAcross", "()I"⟩) C he rfl vw_X4_28_X1 rfl ⟨by decide, by decide, by decide +kernel⟩ hdg (c_X4_hoursAcross l D b es j) wm_X4_hoursAcross rfl rfl ⟨Nat.le_trans (Nat.le_of_ble_eq_true rfl) hR.1, Nat.le_trans (Nat.le_of_ble_eq_true rfl) hR.2⟩ hf hW
theorem vr_X7_26 {p : Program} {l : Launch} {e : Env} {R : Room} {s : State} {m : MethodId} {args : Array Value} {below : List Frame} {meth : Method} {c : Code} {D : va_G} {b nL : Nat} {cells slots : Nat} {es : List va_E} {rest : List Value} {pc : Nat} {cc : ByteArray} {nm : String} {ret : Option FieldType} (C : vC p s m args meth c cc nL RX7 nm ret D b) {k j : Nat} {dr ce sa : Int32}  (hk : k < 5) (he : es[j]? = some (hcl k dr ce sa)) (hdg : decode cc pc = .ok (.invokevirtual 26, 3)) (hR : 1 ≤ R.frames ∧ 20 ≤ R.locals) (hf : cells ≤ R.cells ∧ slots ≤ R.slots) (hW : (rest.map fun v => v.category).sum ≤ 8) : vRun p l e R s m args below meth c D b nL cells slots es rest (.ref (b + j) :: rest) pc 0 0 (fun r es' => r = some (.int (cornN k dr)) ∧ es = es') := by
  match k, hk, he with
  | 0, _, he => exact vRun_V (As := []) C he rfl lk_X7_26 im_X4_cornNeeded se_X4_cornNeeded hdg (c_X4_cornNeeded l D b es j _ dr ce sa fl_X4_9_X4 he) wm_X4_cornNeeded rfl rfl ⟨Nat.le_trans (Nat.le_of_ble_eq_true rfl) hR.1, Nat.le_trans (Nat.le_of_ble_eq_true rfl) hR.2⟩ hf hW
  | 1, _, he => exact vRun_O (As := []) (owner := "WheatSea$Hull") (x := ⟨"WheatSea$Hull", "cornNeeded", "()I"⟩) C he rfl vw_X7_26_X10 wm_X4_cornNeeded.1 ⟨by decide, by decide, by decide +kernel⟩ hdg (c_X10_cornNeeded l D b es j _ dr ce sa fl_X10_7_X10 he) wm_X10_cornNeeded rfl rfl ⟨Nat.le_trans (Nat.le_of_ble_eq_true rfl) hR.1, Nat.le_trans (Nat.le_of_ble_eq_true rfl) hR.2⟩ hf hW
  | 2, _, he => exact vRun_U (As := []) (owner := "WheatSea$Hull") (x := ⟨"WheatSea$Hull", "cornNeeded", "()I"⟩) C he rfl vw_X7_26_X2 rfl ⟨by decide, by decide, by decide +kernel⟩ hdg (c_X4_cornNeeded l D b es j _ dr ce sa fl_X4_9_X2 he) wm_X4_cornNeeded rfl rfl ⟨Nat.le_trans (Nat.le_of_ble_eq_true rfl) hR.1, Nat.le_trans (Nat.le_of_ble_eq_true rfl) hR.2⟩ hf hW
  | 3, _, he => exact vRun_O (As := []) (owner := "WheatSea$Hull") (x := ⟨"WheatSea$Hull", "cornNeeded", "()I"⟩) C he rfl vw_X7_26_X9 wm_X4_cornNeeded.1 ⟨by decide, by decide, by decide +kernel⟩ hdg (c_X9_cornNeeded l D b es j) wm_X9_cornNeeded rfl rfl ⟨Nat.le_trans (Nat.le_of_ble_eq_true rfl) hR.1, Nat.le_trans (Nat.le_of_ble_eq_true rfl) hR.2⟩ hf hW
  | 4, _, he => exact vRun_O (As := []) (owner := "WheatSea$Hull") (x := ⟨"WheatSea$Hull", "cornNeeded", "()I"⟩) C he rfl vw_X7_26_X1 wm_X4_cornNeeded.1 ⟨by decide, by decide, by decide +kernel⟩ hdg (c_X10_cornNeeded l D b es j _ dr ce sa fl_X10_7_X1 he) wm_X10_cornNeeded rfl rfl ⟨Nat.le_trans (Nat.le_of_ble_eq_true rfl) hR.1, Nat.le_trans (Nat.le_of_ble_eq_true rfl) hR.2⟩ hf hW
theorem vr_X11_137 {p : Program} {l : Launch} {e : Env} {R : Room} {s : State} {m : MethodId} {args : Array Value} {below : List Frame} {meth : Method} {c : Code} {D : va_G} {b nL : Nat} {cells slots : Nat} {es : List va_E} {rest : List Value} {pc : Nat} {cc : ByteArray} {nm : String} {ret : Option FieldType} (C : vC p s m args meth c cc nL RX11 nm ret D b) {k j : Nat} {dr ce sa : Int32}  (hk : k < 5) (he : es[j]? = some (hcl k dr ce sa)) (hdg : decode cc pc = .ok (.invokevirtual 137, 3)) (hR : 1 ≤ R.frames ∧ 20 ≤ R.locals) (hf : cells ≤ R.cells ∧ slots ≤ R.slots) (hW : (rest.map fun v => v.category).sum ≤ 8) : vRun p l e R s m args below meth c D b nL cells slots es rest (.ref (b + j) :: rest) pc 0 0 (fun r es' => r = some (.int (kiN k)) ∧ es = es') := by
  match k, hk, he with
  | 0, _, he => exact vRun_V (As := []) C he rfl lk_X11_137 im_X4_kind se_X4_kind hdg (c_X4_kind l D b es j) wm_X4_kind rfl rfl ⟨Nat.le_trans (Nat.le_of_ble_eq_true rfl) hR.1, Nat.le_trans (Nat.le_of_ble_eq_true rfl) hR.2⟩ hf hW
  | 1, _, he => exact vRun_O (As := []) (owner := "WheatSea$Hull") (x := ⟨"WheatSea$Hull", "kind", "()I"⟩) C he rfl vw_X11_137_X10 wm_X4_kind.1 ⟨by decide, by decide, by decide +kernel⟩ hdg (c_X10_kind l D b es j) wm_X10_kind rfl rfl ⟨Nat.le_trans (Nat.le_of_ble_eq_true rfl) hR.1, Nat.le_trans (Nat.le_of_ble_eq_true rfl) hR.2⟩ hf hW
  | 2, _, he => exact vRun_O (As := []) (owner := "WheatSea$Hull") (x := ⟨"WheatSea$Hull", "kind", "()I"⟩) C he rfl vw_X11_137_X2 wm_X4_kind.1 ⟨by decide, by decide, by decide +kernel⟩ hdg (c_X2_kind l D b es j) wm_X2_kind rfl rfl ⟨Nat.le_trans (Nat.le_of_ble_eq_true rfl) hR.1, Nat.le_trans (Nat.le_of_ble_eq_true rfl) hR.2⟩ hf hW
  | 3, _, he => exact vRun_O (As := []) (owner := "WheatSea$Hull") (x := ⟨"WheatSea$Hull", "kind", "()I"⟩) C he rfl vw_X11_137_X9 wm_X4_kind.1 ⟨by decide, by decide, by decide +kernel⟩ hdg (c_X9_kind l D b es j) wm_X9_kind rfl rfl ⟨Nat.le_trans (Nat.le_of_ble_eq_true rfl) hR.1, Nat.le_trans (Nat.le_of_ble_eq_true rfl) hR.2⟩ hf hW
  | 4, _, he => exact vRun_O (As := []) (owner := "WheatSea$Hull") (x := ⟨"WheatSea$Hull", "kind", "()I"⟩) C he rfl vw_X11_137_X1 wm_X4_kind.1 ⟨by decide, by decide, by decide +kernel⟩ hdg (c_X1_kind l D b es j) wm_X1_kind rfl rfl ⟨Nat.le_trans (Nat.le_of_ble_eq_true rfl) hR.1, Nat.le_trans (Nat.le_of_ble_eq_true rfl) hR.2⟩ hf hW
/-- hoursFor -/
def hfF (k : Nat) (w wd : Int32) : Int32 := if wd = 4 then becN k else if w = wd then withN k else if w = wd + 2 then agN k else if w = wd - 2 then agN k else acrN k
set_option maxHeartbeats 4000000 in
set_option maxRecDepth 100000 in
theorem c_X4_hoursFor (l : Launch) (D : va_G) (b : Nat) (es : List va_E) (j k : Nat) (dr ce sa w wd : Int32) (hk : k < 5) (he : es[j]? = some (hcl k dr ce sa)) : Con l yX4_hoursFor cX4_hoursFor 3 (some .int) 1 20 D b 0 0 es [.ref (b + j), .int w, .int wd] (fun r es' => r = some (.int (hfF k w wd)) ∧ es = es') := by
  refine con_of (by decide) (Nat.le_of_ble_eq_true rfl) (fun p e s m args below meth c C hsz => ?_)
  have C : vC p s m args meth c cX4_hoursFor 3 RX4 "hoursFor" (some .int) D b := C
  change V p l e _ s m args below meth c D b 3 _ 0 0 es [(0, .ref (b + j)), (1, .int w), (2, .int wd)] [] 0
  refine v_iload_n (n := 1) C dX4_hoursFor_0 rfl rfl rfl ?_
  refine v_iconst (n := 2) (v := 4) C dX4_hoursFor_1 rfl (by decide) ?_
  refine v_icmp_ne (t := 10) (n := 5) C dX4_hoursFor_2 (by decide) rfl (fun c_1 => ?_) (fun c_1 => ?_)
  · skip
    refine v_iload_n (n := 11) C dX4_hoursFor_10 rfl rfl rfl ?_
    refine v_iload_n (n := 12) C dX4_hoursFor_11 rfl rfl rfl ?_
    refine v_icmp_ne (t := 20) (n := 15) C dX4_hoursFor_12 (by decide) rfl (fun c_2 => ?_) (fun c_2 => ?_)
    · skip
      refine v_iload_n (n := 21) C dX4_hoursFor_20 rfl rfl rfl ?_
      refine v_iload_n (n := 22) C dX4_hoursFor_21 rfl rfl rfl ?_
      refine v_iconst (n := 23) (v := 2) C dX4_hoursFor_22 rfl (by decide) ?_
      refine v_iadd (n := 24) C dX4_hoursFor_23 rfl ?_
      refine v_icmp_eq (t := 34) (n := 27) C dX4_hoursFor_24 (by decide) rfl (fun c_3 => ?_) (fun c_3 => ?_)
      · skip
        refine v_aload_n (n := 35) C dX4_hoursFor_34 rfl rfl rfl ?_
        refine v_go (n := 38) C (vr_X4_25 (rest := []) C hk he dX4_hoursFor_35 ⟨Nat.le_of_ble_eq_true rfl, Nat.le_of_ble_eq_true rfl⟩ ⟨Nat.le_of_ble_eq_true rfl, Nat.le_of_ble_eq_true rfl⟩ (Nat.le_of_ble_eq_true rfl)) rfl ?_
        rintro _ _ ⟨rfl, rfl⟩ -
        exact v_iret C dX4_hoursFor_38 rfl rfl ⟨by first | rfl | (simp only [hfF, if_neg c_1, if_neg c_2, if_neg (fun h => c_2 (Eq.symm h)), if_pos c_3, if_pos (Eq.symm c_3)]; done) | simp [hfF, c_1, c_2, c_3] , rfl⟩
      · skip
        refine v_iload_n (n := 28) C dX4_hoursFor_27 rfl rfl rfl ?_
        refine v_iload_n (n := 29) C dX4_hoursFor_28 rfl rfl rfl ?_
        refine v_iconst (n := 30) (v := 2) C dX4_hoursFor_29 rfl (by decide) ?_
        refine v_isub (n := 31) C dX4_hoursFor_30 rfl ?_
        refine v_icmp_ne (t := 39) (n := 34) C dX4_hoursFor_31 (by decide) rfl (fun c_4 => ?_) (fun c_4 => ?_)
        · skip
          refine v_aload_n (n := 40) C dX4_hoursFor_39 rfl rfl rfl ?_
          refine v_go (n := 43) C (vr_X4_28 (rest := []) C hk he dX4_hoursFor_40 ⟨Nat.le_of_ble_eq_true rfl, Nat.le_of_ble_eq_true rfl⟩ ⟨Nat.le_of_ble_eq_true rfl, Nat.le_of_ble_eq_true rfl⟩ (Nat.le_of_ble_eq_true rfl)) rfl ?_
          rintro _ _ ⟨rfl, rfl⟩ -
          exact v_iret C dX4_hoursFor_43 rfl rfl ⟨by first | rfl | (simp only [hfF, if_neg c_1, if_neg c_2, if_neg (fun h => c_2 (Eq.symm h)), if_neg c_3, if_neg (fun h => c_3 (Eq.symm h)), if_neg c_4, if_neg (fun h => c_4 (Eq.symm h))]; done) | simp [hfF, c_1, c_2, c_3, c_4] , rfl⟩
        · skip
          refine v_aload_n (n := 35) C dX4_hoursFor_34 rfl rfl rfl ?_
          refine v_go (n := 38) C (vr_X4_25 (rest := []) C hk he dX4_hoursFor_35 ⟨Nat.le_of_ble_eq_true rfl, Nat.le_of_ble_eq_true rfl⟩ ⟨Nat.le_of_ble_eq_true rfl, Nat.le_of_ble_eq_true rfl⟩ (Nat.le_of_ble_eq_true rfl)) rfl ?_
          rintro _ _ ⟨rfl, rfl⟩ -
          exact v_iret C dX4_hoursFor_38 rfl rfl ⟨by first | rfl | (simp only [hfF, if_neg c_1, if_neg c_2, if_neg (fun h => c_2 (Eq.symm h)), if_neg c_3, if_neg (fun h => c_3 (Eq.symm h)), if_pos c_4, if_pos (Eq.symm c_4)]; done) | simp [hfF, c_1, c_2, c_3, c_4] , rfl⟩
    · skip
      refine v_aload_n (n := 16) C dX4_hoursFor_15 rfl rfl rfl ?_
      refine v_go (n := 19) C (vr_X4_22 (rest := []) C hk he dX4_hoursFor_16 ⟨Nat.le_of_ble_eq_true rfl, Nat.le_of_ble_eq_true rfl⟩ ⟨Nat.le_of_ble_eq_true rfl, Nat.le_of_ble_eq_true rfl⟩ (Nat.le_of_ble_eq_true rfl)) rfl ?_
      rintro _ _ ⟨rfl, rfl⟩ -
      exact v_iret C dX4_hoursFor_19 rfl rfl ⟨by first | rfl | (simp only [hfF, if_neg c_1, if_pos c_2, if_pos (Eq.symm c_2)]; done) | simp [hfF, c_1, c_2] , rfl⟩
  · skip
    refine v_aload_n (n := 6) C dX4_hoursFor_5 rfl rfl rfl ?_
    refine v_go (n := 9) C (vr_X4_18 (rest := []) C hk he dX4_hoursFor_6 ⟨Nat.le_of_ble_eq_true rfl, Nat.le_of_ble_eq_true rfl⟩ ⟨Nat.le_of_ble_eq_true rfl, Nat.le_of_ble_eq_true rfl⟩ (Nat.le_of_ble_eq_true rfl)) rfl ?_
    rintro _ _ ⟨rfl, rfl⟩ -
    exact v_iret C dX4_hoursFor_9 rfl rfl ⟨by first | rfl | (simp only [hfF, if_pos c_1]; done) | simp [hfF, c_1] , rfl⟩
theorem vr_X7_39 {p : Program} {l : Launch} {e : Env} {R : Room} {s : State} {m : MethodId} {args : Array Value} {below : List Frame} {meth : Method} {c : Code} {D : va_G} {b nL : Nat} {cells slots : Nat} {es : List va_E} {rest : List Value} {pc : Nat} {cc : ByteArray} {nm : String} {ret : Option FieldType} (C : vC p s m args meth c cc nL RX7 nm ret D b) {k j : Nat} {dr ce sa : Int32} {w wd : Int32} (hk : k < 5) (he : es[j]? = some (hcl k dr ce sa)) (hdg : decode cc pc = .ok (.invokevirtual 39, 3)) (hR : 2 ≤ R.frames ∧ 42 ≤ R.locals) (hf : cells ≤ R.cells ∧ slots ≤ R.slots) (hW : (rest.map fun v => v.category).sum ≤ 8) : vRun p l e R s m args below meth c D b nL cells slots es rest (.int wd :: .int w :: .ref (b + j) :: rest) pc 0 0 (fun r es' => r = some (.int (hfF k w wd)) ∧ es = es') := by
  match k, hk, he with
  | 0, _, he => exact vRun_V (As := [.int w, .int wd]) C he rfl lk_X7_39 im_X4_hoursFor se_X4_hoursFor hdg (c_X4_hoursFor l D b es j 0 dr ce sa w wd (by decide) he) wm_X4_hoursFor rfl rfl ⟨Nat.le_trans (Nat.le_of_ble_eq_true rfl) hR.1, Nat.le_trans (Nat.le_of_ble_eq_true rfl) hR.2⟩ hf hW
  | 1, _, he => exact vRun_U (As := [.int w, .int wd]) (owner := "WheatSea$Hull") (x := ⟨"WheatSea$Hull", "hoursFor", "(II)I"⟩) C he rfl vw_X7_39_X10 rfl ⟨by decide, by decide, by decide +kernel⟩ hdg (c_X4_hoursFor l D b es j 1 dr ce sa w wd (by decide) he) wm_X4_hoursFor rfl rfl ⟨Nat.le_trans (Nat.le_of_ble_eq_true rfl) hR.1, Nat.le_trans (Nat.le_of_ble_eq_true rfl) hR.2⟩ hf hW
  | 2, _, he => exact vRun_U (As := [.int w, .int wd]) (owner := "WheatSea$Hull") (x := ⟨"WheatSea$Hull", "hoursFor", "(II)I"⟩) C he rfl vw_X7_39_X2 rfl ⟨by decide, by decide, by decide +kernel⟩ hdg (c_X4_hoursFor l D b es j 2 dr ce sa w wd (by decide) he) wm_X4_hoursFor rfl rfl ⟨Nat.le_trans (Nat.le_of_ble_eq_true rfl) hR.1, Nat.le_trans (Nat.le_of_ble_eq_true rfl) hR.2⟩ hf hW
  | 3, _, he => exact vRun_U (As := [.int w, .int wd]) (owner := "WheatSea$Hull") (x := ⟨"WheatSea$Hull", "hoursFor", "(II)I"⟩) C he rfl vw_X7_39_X9 rfl ⟨by decide, by decide, by decide +kernel⟩ hdg (c_X4_hoursFor l D b es j 3 dr ce sa w wd (by decide) he) wm_X4_hoursFor rfl rfl ⟨Nat.le_trans (Nat.le_of_ble_eq_true rfl) hR.1, Nat.le_trans (Nat.le_of_ble_eq_true rfl) hR.2⟩ hf hW
  | 4, _, he => exact vRun_U (As := [.int w, .int wd]) (owner := "WheatSea$Hull") (x := ⟨"WheatSea$Hull", "hoursFor", "(II)I"⟩) C he rfl vw_X7_39_X1 rfl ⟨by decide, by decide, by decide +kernel⟩ hdg (c_X4_hoursFor l D b es j 4 dr ce sa w wd (by decide) he) wm_X4_hoursFor rfl rfl ⟨Nat.le_trans (Nat.le_of_ble_eq_true rfl) hR.1, Nat.le_trans (Nat.le_of_ble_eq_true rfl) hR.2⟩ hf hW
/-- highAt, floats, hoursToSail -/
def hiF (f : Nat → Int32) (rp c h : Int32) : Int32 := if c < 0 then 0 else if 12 ≤ c then 0 else if h < rp * (c + 1) then f c.toNatClampNeg else 0
abbrev flP (f : Nat → Int32) (rp : Int32) (k : Nat) (dr c h : Int32) : Prop := ¬ hiF f rp c h < cornN k dr
def htF (f : Nat → Int32) (rp wd : Int32) (k : Nat) (dr c w h : Int32) : Int32 := if beF c w = -1 then -1 else if flP f rp k dr c h then (if hfF k w wd = -1 then -1 else if flP f rp k dr (beF c w) (h + hfF k w wd) then hfF k w wd else -1) else -1
set_option maxHeartbeats 4000000 in
set_option maxRecDepth 100000 in
theorem c_cutHour (l : Launch) (D : va_G) (b : Nat) (es : List va_E) (q : Nat) (qh : Nat) (f : Nat → Int32) (rp wd : Int32) (hs : es[q]? = some (.inr (7, [.ref (b + qh), .int rp, .int wd]))) (hh : es[qh]? = some (.inl (D.1 13, 12, .inl f))) (x : Int32) : Con l yX7_cutHour cX7_cutHour 2 (some .int) 0 0 D b 0 0 es [.ref (b + q), .int x] (fun r es' => r = some (.int (rp * (x + 1))) ∧ es = es') := by
  refine con_of (by decide) (Nat.le_of_ble_eq_true rfl) (fun p e s m args below meth c C hsz => ?_)
  have C : vC p s m args meth c cX7_cutHour 2 RX7 "cutHour" (some .int) D b := C
  change V p l e _ s m args below meth c D b 2 _ 0 0 es [(0, .ref (b + q)), (1, .int x)] [] 0
  refine v_aload_n (n := 1) C dX7_cutHour_0 rfl rfl rfl ?_
  refine v_get (n := 4) C dX7_cutHour_1 rfl fl_X7_19_X7 hs rfl ?_
  refine v_iload_n (n := 5) C dX7_cutHour_4 rfl rfl rfl ?_
  refine v_iconst (n := 6) (v := 1) C dX7_cutHour_5 rfl (by decide) ?_
  refine v_iadd (n := 7) C dX7_cutHour_6 rfl ?_
  refine v_imul (n := 8) C dX7_cutHour_7 rfl ?_
  exact v_iret C dX7_cutHour_8 rfl rfl ⟨by first | rfl | (simp only []; done) | simp [] , rfl⟩
set_option maxHeartbeats 4000000 in
set_option maxRecDepth 100000 in
theorem c_highAt (l : Launch) (D : va_G) (b : Nat) (es : List va_E) (q : Nat) (qh : Nat) (f : Nat → Int32) (rp wd : Int32) (hs : es[q]? = some (.inr (7, [.ref (b + qh), .int rp, .int wd]))) (hh : es[qh]? = some (.inl (D.1 13, 12, .inl f))) (x h : Int32) : Con l yX7_highAt cX7_highAt 3 (some .int) 0 0 D b 0 0 es [.ref (b + q), .int x, .int h] (fun r es' => r = some (.int (hiF f rp x h)) ∧ es = es') := by
  refine con_of (by decide) (Nat.le_of_ble_eq_true rfl) (fun p e s m args below meth c C hsz => ?_)
  have C : vC p s m args meth c cX7_highAt 3 RX7 "highAt" (some .int) D b := C
  change V p l e _ s m args below meth c D b 3 _ 0 0 es [(0, .ref (b + q)), (1, .int x), (2, .int h)] [] 0
  refine v_iload_n (n := 1) C dX7_highAt_0 rfl rfl rfl ?_
  refine v_if_lt (t := 25) (n := 4) C dX7_highAt_1 (by decide) rfl (fun c_1 => ?_) (fun c_1 => ?_)
  · skip
    refine v_iconst (n := 26) (v := 0) C dX7_highAt_25 rfl (by decide) ?_
    exact v_iret C dX7_highAt_26 rfl rfl ⟨by first | rfl | (simp only [hiF, if_pos c_1, if_neg (Int32.not_le.mpr c_1)]; done) | simp [hiF, c_1] , rfl⟩
  · skip
    refine v_iload_n (n := 5) C dX7_highAt_4 rfl rfl rfl ?_
    refine v_aload_n (n := 6) C dX7_highAt_5 rfl rfl rfl ?_
    refine v_get (n := 9) C dX7_highAt_6 rfl fl_X7_15_X7 hs rfl ?_
    refine v_alen (n := 10) (v := 12) C dX7_highAt_9 rfl hh rfl ?_
    refine v_icmp_ge (t := 25) (n := 13) C dX7_highAt_10 (by decide) rfl (fun c_2 => ?_) (fun c_2 => ?_)
    · skip
      refine v_iconst (n := 26) (v := 0) C dX7_highAt_25 rfl (by decide) ?_
      exact v_iret C dX7_highAt_26 rfl rfl ⟨by first | rfl | (simp only [hiF, if_neg c_1, if_pos (Int32.not_lt.mp c_1), if_pos c_2, if_neg (Int32.not_lt.mpr c_2)]; done) | simp [hiF, c_1, c_2] , rfl⟩
    · skip
      refine v_iload_n (n := 14) C dX7_highAt_13 rfl rfl rfl ?_
      refine v_aload_n (n := 15) C dX7_highAt_14 rfl rfl rfl ?_
      refine v_get (n := 18) C dX7_highAt_15 rfl fl_X7_19_X7 hs rfl ?_
      refine v_iload_n (n := 19) C dX7_highAt_18 rfl rfl rfl ?_
      refine v_iconst (n := 20) (v := 1) C dX7_highAt_19 rfl (by decide) ?_
      refine v_iadd (n := 21) C dX7_highAt_20 rfl ?_
      refine v_imul (n := 22) C dX7_highAt_21 rfl ?_
      refine v_icmp_lt (t := 27) (n := 25) C dX7_highAt_22 (by decide) rfl (fun c_3 => ?_) (fun c_3 => ?_)
      · skip
        refine v_aload_n (n := 28) C dX7_highAt_27 rfl rfl rfl ?_
        refine v_get (n := 31) C dX7_highAt_28 rfl fl_X7_15_X7 hs rfl ?_
        refine v_iload_n (n := 32) C dX7_highAt_31 rfl rfl rfl ?_
        refine v_iald (n := 33) C dX7_highAt_32 rfl hh (vp_b (Int32.not_lt.mp c_1) (Int32.not_le.mp c_2) (by decide)) ?_
        exact v_iret C dX7_highAt_33 rfl rfl ⟨by first | rfl | (simp only [hiF, if_neg c_1, if_pos (Int32.not_lt.mp c_1), if_neg c_2, if_pos (Int32.not_le.mp c_2), if_pos c_3, if_neg (Int32.not_le.mpr c_3)]; done) | simp [hiF, c_1, c_2, c_3] , rfl⟩
      · skip
        refine v_iconst (n := 26) (v := 0) C dX7_highAt_25 rfl (by decide) ?_
        exact v_iret C dX7_highAt_26 rfl rfl ⟨by first | rfl | (simp only [hiF, if_neg c_1, if_pos (Int32.not_lt.mp c_1), if_neg c_2, if_pos (Int32.not_le.mp c_2), if_neg c_3, if_pos (Int32.not_lt.mp c_3)]; done) | simp [hiF, c_1, c_2, c_3] , rfl⟩
set_option maxHeartbeats 4000000 in
set_option maxRecDepth 100000 in
theorem c_floats (l : Launch) (D : va_G) (b : Nat) (es : List va_E) (q : Nat) (qh : Nat) (f : Nat → Int32) (rp wd : Int32) (hs : es[q]? = some (.inr (7, [.ref (b + qh), .int rp, .int wd]))) (hh : es[qh]? = some (.inl (D.1 13, 12, .inl f))) (j k : Nat) (dr ce sa : Int32) (hk : k < 5) (he : es[j]? = some (hcl k dr ce sa)) (x h : Int32) : Con l yX7_floats cX7_floats 4 (some .boolean) 1 22 D b 0 0 es [.ref (b + q), .ref (b + j), .int x, .int h] (fun r es' => r = some (.int (if flP f rp k dr x h then 1 else 0)) ∧ es = es') := by
  refine con_of (by decide) (Nat.le_of_ble_eq_true rfl) (fun p e s m args below meth c C hsz => ?_)
  have C : vC p s m args meth c cX7_floats 4 RX7 "floats" (some .boolean) D b := C
  change V p l e _ s m args below meth c D b 4 _ 0 0 es [(0, .ref (b + q)), (1, .ref (b + j)), (2, .int x), (3, .int h)] [] 0
  refine v_aload_n (n := 1) C dX7_floats_0 rfl rfl rfl ?_
  refine v_ifnull (n := 4) C dX7_floats_1 rfl ?_
  refine v_aload_n (n := 5) C dX7_floats_4 rfl rfl rfl ?_
  refine v_iload_n (n := 6) C dX7_floats_5 rfl rfl rfl ?_
  refine v_iload_n (n := 7) C dX7_floats_6 rfl rfl rfl ?_
  refine v_go (n := 10) C (vRun_V (As := [.int x, .int h]) (rest := []) C hs rfl lk_X7_22 im_X7_highAt se_X7_highAt dX7_floats_7 (c_highAt l D b es q qh f rp wd hs hh x h) wm_X7_highAt rfl rfl ⟨Nat.le_of_ble_eq_true rfl, Nat.le_of_ble_eq_true rfl⟩ ⟨Nat.le_of_ble_eq_true rfl, Nat.le_of_ble_eq_true rfl⟩ (Nat.le_of_ble_eq_true rfl)) rfl ?_
  rintro _ _ ⟨rfl, rfl⟩ -
  refine v_aload_n (n := 11) C dX7_floats_10 rfl rfl rfl ?_
  refine v_go (n := 14) C (vr_X7_26 (rest := [.int (hiF f rp x h)]) C hk he dX7_floats_11 ⟨Nat.le_of_ble_eq_true rfl, Nat.le_of_ble_eq_true rfl⟩ ⟨Nat.le_of_ble_eq_true rfl, Nat.le_of_ble_eq_true rfl⟩ (Nat.le_of_ble_eq_true rfl)) rfl ?_
  rintro _ _ ⟨rfl, rfl⟩ -
  refine v_icmp_lt (t := 21) (n := 17) C dX7_floats_14 (by decide) rfl (fun c_1 => ?_) (fun c_1 => ?_)
  · skip
    refine v_iconst (n := 22) (v := 0) C dX7_floats_21 rfl (by decide) ?_
    exact v_iret C dX7_floats_22 rfl rfl ⟨by first | rfl | (simp only [flP, if_pos c_1, if_neg (Int32.not_le.mpr c_1)]; done) | simp [flP, c_1] , rfl⟩
  · skip
    refine v_iconst (n := 18) (v := 1) C dX7_floats_17 rfl (by decide) ?_
    refine v_goto (t := 22) C dX7_floats_18 (by decide) ?_
    exact v_iret C dX7_floats_22 rfl rfl ⟨by first | rfl | (simp only [flP, if_neg c_1, if_pos (Int32.not_lt.mp c_1)]; done) | simp [flP, c_1] , rfl⟩
set_option maxHeartbeats 4000000 in
set_option maxRecDepth 100000 in
theorem c_hoursToSail (l : Launch) (D : va_G) (b : Nat) (es : List va_E) (q : Nat) (qh : Nat) (f : Nat → Int32) (rp wd : Int32) (hs : es[q]? = some (.inr (7, [.ref (b + qh), .int rp, .int wd]))) (hh : es[qh]? = some (.inl (D.1 13, 12, .inl f))) (j k : Nat) (dr ce sa : Int32) (hk : k < 5) (he : es[j]? = some (hcl k dr ce sa)) (x w h : Int32) : Con l yX7_hoursToSail cX7_hoursToSail 7 (some .int) 2 45 D b 0 0 es [.ref (b + q), .ref (b + j), .int x, .int w, .int h] (fun r es' => r = some (.int (htF f rp wd k dr x w h)) ∧ es = es') := by
  refine con_of (by decide) (Nat.le_of_ble_eq_true rfl) (fun p e s m args below meth c C hsz => ?_)
  have C : vC p s m args meth c cX7_hoursToSail 7 RX7 "hoursToSail" (some .int) D b := C
  change V p l e _ s m args below meth c D b 7 _ 0 0 es [(0, .ref (b + q)), (1, .ref (b + j)), (2, .int x), (3, .int w), (4, .int h)] [] 0
  refine v_iload_n (n := 1) C dX7_hoursToSail_0 rfl rfl rfl ?_
  refine v_iload_n (n := 2) C dX7_hoursToSail_1 rfl rfl rfl ?_
  refine v_go (n := 5) C (vRun_SN (As := [.int x, .int w]) (rest := []) C lk_X7_32 st_X11_beside dX7_hoursToSail_2 (c_beside l D b es x w) wm_X11_beside rfl rfl ⟨Nat.le_of_ble_eq_true rfl, Nat.le_of_ble_eq_true rfl⟩ ⟨Nat.le_of_ble_eq_true rfl, Nat.le_of_ble_eq_true rfl⟩ (Nat.le_of_ble_eq_true rfl)) rfl ?_
  rintro _ _ ⟨rfl, rfl⟩ -
  refine v_istore (n := 7) (lv' := [(5, .int (beF x w)), (0, .ref (b + q)), (1, .ref (b + j)), (2, .int x), (3, .int w), (4, .int h)]) C dX7_hoursToSail_5 rfl (Nat.le_of_ble_eq_true rfl) rfl ?_
  refine v_aload_n (n := 8) C dX7_hoursToSail_7 rfl rfl rfl ?_
  refine v_ifnull (n := 11) C dX7_hoursToSail_8 rfl ?_
  refine v_iload (n := 13) C dX7_hoursToSail_11 rfl rfl ?_
  refine v_iconst (n := 14) (v := -1) C dX7_hoursToSail_13 rfl (by decide) ?_
  refine v_icmp_eq (t := 28) (n := 17) C dX7_hoursToSail_14 (by decide) rfl (fun c_1 => ?_) (fun c_1 => ?_)
  · skip
    refine v_iconst (n := 29) (v := -1) C dX7_hoursToSail_28 rfl (by decide) ?_
    exact v_iret C dX7_hoursToSail_29 rfl rfl ⟨by first | rfl | (simp only [htF, if_pos c_1]; done) | simp [htF, c_1] , rfl⟩
  · skip
    refine v_aload_n (n := 18) C dX7_hoursToSail_17 rfl rfl rfl ?_
    refine v_aload_n (n := 19) C dX7_hoursToSail_18 rfl rfl rfl ?_
    refine v_iload_n (n := 20) C dX7_hoursToSail_19 rfl rfl rfl ?_
    refine v_iload (n := 22) C dX7_hoursToSail_20 rfl rfl ?_
    refine v_go (n := 25) C (vRun_V (As := [.ref (b + j), .int x, .int h]) (rest := []) C hs rfl lk_X7_35 im_X7_floats se_X7_floats dX7_hoursToSail_22 (c_floats l D b es q qh f rp wd hs hh j k dr ce sa hk he x h) wm_X7_floats rfl rfl ⟨Nat.le_of_ble_eq_true rfl, Nat.le_of_ble_eq_true rfl⟩ ⟨Nat.le_of_ble_eq_true rfl, Nat.le_of_ble_eq_true rfl⟩ (Nat.le_of_ble_eq_true rfl)) rfl ?_
    rintro _ _ ⟨rfl, rfl⟩ -
    by_cases p_2 : flP f rp k dr x h
    · skip
      refine v_stk (st' := .int 1 :: []) (congrArg (fun z : Int32 => Value.int z :: []) (if_pos p_2 : (if flP f rp k dr x h then (1 : Int32) else 0) = 1)) ?_
      refine v_if_ne (t := 30) (n := 28) C dX7_hoursToSail_25 (by decide) rfl (fun c_3 => ?_) (fun c_3 => ?_)
      · skip
        refine v_aload_n (n := 31) C dX7_hoursToSail_30 rfl rfl rfl ?_
        refine v_iload_n (n := 32) C dX7_hoursToSail_31 rfl rfl rfl ?_
        refine v_aload_n (n := 33) C dX7_hoursToSail_32 rfl rfl rfl ?_
        refine v_get (n := 36) C dX7_hoursToSail_33 rfl fl_X7_9_X7 hs rfl ?_
        refine v_go (n := 39) C (vr_X7_39 (rest := []) C hk he dX7_hoursToSail_36 ⟨Nat.le_of_ble_eq_true rfl, Nat.le_of_ble_eq_true rfl⟩ ⟨Nat.le_of_ble_eq_true rfl, Nat.le_of_ble_eq_true rfl⟩ (Nat.le_of_ble_eq_true rfl)) rfl ?_
        rintro _ _ ⟨rfl, rfl⟩ -
        refine v_istore (n := 41) (lv' := [(6, .int (hfF k w wd)), (5, .int (beF x w)), (0, .ref (b + q)), (1, .ref (b + j)), (2, .int x), (3, .int w), (4, .int h)]) C dX7_hoursToSail_39 rfl (Nat.le_of_ble_eq_true rfl) rfl ?_
        refine v_iload (n := 43) C dX7_hoursToSail_41 rfl rfl ?_
        refine v_iconst (n := 44) (v := -1) C dX7_hoursToSail_43 rfl (by decide) ?_
        refine v_icmp_eq (t := 62) (n := 47) C dX7_hoursToSail_44 (by decide) rfl (fun c_4 => ?_) (fun c_4 => ?_)
        · skip
          refine v_iconst (n := 63) (v := -1) C dX7_hoursToSail_62 rfl (by decide) ?_
          exact v_iret C dX7_hoursToSail_63 rfl rfl ⟨by first | rfl | (simp only [htF, if_neg c_1, if_pos p_2, if_neg c_3, if_pos c_4]; done) | simp [htF, c_1, p_2, c_3, c_4] , rfl⟩
        · skip
          refine v_aload_n (n := 48) C dX7_hoursToSail_47 rfl rfl rfl ?_
          refine v_aload_n (n := 49) C dX7_hoursToSail_48 rfl rfl rfl ?_
          refine v_iload (n := 51) C dX7_hoursToSail_49 rfl rfl ?_
          refine v_iload (n := 53) C dX7_hoursToSail_51 rfl rfl ?_
          refine v_iload (n := 55) C dX7_hoursToSail_53 rfl rfl ?_
          refine v_iadd (n := 56) C dX7_hoursToSail_55 rfl ?_
          refine v_go (n := 59) C (vRun_V (As := [.ref (b + j), .int (beF x w), .int (h + (hfF k w wd))]) (rest := []) C hs rfl lk_X7_35 im_X7_floats se_X7_floats dX7_hoursToSail_56 (c_floats l D b es q qh f rp wd hs hh j k dr ce sa hk he (beF x w) (h + (hfF k w wd))) wm_X7_floats rfl rfl ⟨Nat.le_of_ble_eq_true rfl, Nat.le_of_ble_eq_true rfl⟩ ⟨Nat.le_of_ble_eq_true rfl, Nat.le_of_ble_eq_true rfl⟩ (Nat.le_of_ble_eq_true rfl)) rfl ?_
          rintro _ _ ⟨rfl, rfl⟩ -
          by_cases p_5 : flP f rp k dr (beF x w) (h + (hfF k w wd))
          · skip
            refine v_stk (st' := .int 1 :: []) (congrArg (fun z : Int32 => Value.int z :: []) (if_pos p_5 : (if flP f rp k dr (beF x w) (h + (hfF k w wd)) then (1 : Int32) else 0) = 1)) ?_
            refine v_if_ne (t := 64) (n := 62) C dX7_hoursToSail_59 (by decide) rfl (fun c_6 => ?_) (fun c_6 => ?_)
            · skip
              refine v_iload (n := 66) C dX7_hoursToSail_64 rfl rfl ?_
              exact v_iret C dX7_hoursToSail_66 rfl rfl ⟨by first | rfl | (simp only [htF, if_neg c_1, if_pos p_2, if_neg c_3, if_neg c_4, if_pos p_5, if_neg c_6]; done) | simp [htF, c_1, p_2, c_3, c_4, p_5, c_6] , rfl⟩
            · exact absurd c_6 (by decide)
          · skip
            refine v_stk (st' := .int 0 :: []) (congrArg (fun z : Int32 => Value.int z :: []) (if_neg p_5 : (if flP f rp k dr (beF x w) (h + (hfF k w wd)) then (1 : Int32) else 0) = 0)) ?_
            refine v_if_ne (t := 64) (n := 62) C dX7_hoursToSail_59 (by decide) rfl (fun c_7 => ?_) (fun c_7 => ?_)
            · exact absurd c_7 (by decide)
            · skip
              refine v_iconst (n := 63) (v := -1) C dX7_hoursToSail_62 rfl (by decide) ?_
              exact v_iret C dX7_hoursToSail_63 rfl rfl ⟨by first | rfl | (simp only [htF, if_neg c_1, if_pos p_2, if_neg c_3, if_neg c_4, if_neg p_5, if_pos c_7]; done) | simp [htF, c_1, p_2, c_3, c_4, p_5, c_7] , rfl⟩
      · exact absurd c_3 (by decide)
    · skip
      refine v_stk (st' := .int 0 :: []) (congrArg (fun z : Int32 => Value.int z :: []) (if_neg p_2 : (if flP f rp k dr x h then (1 : Int32) else 0) = 0)) ?_
      refine v_if_ne (t := 30) (n := 28) C dX7_hoursToSail_25 (by decide) rfl (fun c_8 => ?_) (fun c_8 => ?_)
      · exact absurd c_8 (by decide)
      · skip
        refine v_iconst (n := 29) (v := -1) C dX7_hoursToSail_28 rfl (by decide) ?_
        exact v_iret C dX7_hoursToSail_29 rfl rfl ⟨by first | rfl | (simp only [htF, if_neg c_1, if_neg p_2, if_pos c_8]; done) | simp [htF, c_1, p_2, c_8] , rfl⟩
end
section
/-- the heap behind the two constructors: the class's objects (places 0 to 26), the reference's (27 to 39), the hulls made since (40 and on) -/
def wl (D : va_G) (b : Nat) (sc : Nat → Int32) (ar : Nat → Nat → Int32) (hn : Nat → Option Nat) (mh : Int64) (G : List va_E) : List va_E :=
  .inr (11, [.ref (b + 1), .int (sc 0), .int (sc 1), .ref (b + 25), .ref (b + 26), .ref (b + 2), .int (sc 2), .int (sc 3), .ref (b + 3), .ref (b + 9), .ref (b + 18), .ref (b + 21), .ref (b + 22)]) ::
  .inl (D.1 13, 18, .inl (ar 1)) ::
  .inl (D.1 14, 3, .inr (.inr (.inr (.inr (fun i => (hn i).map (fun t => b + t)))))) ::
  .inr (8, [.int (sc 4), .ref (b + 4), .ref (b + 5), .ref (b + 6), .ref (b + 7), .ref (b + 8)]) ::
  .inl (D.1 13, 6, .inl (ar 4)) ::
  .inl (D.1 13, 6, .inl (ar 5)) ::
  .inl (D.1 13, 6, .inl (ar 6)) ::
  .inl (D.1 13, 41, .inl (ar 7)) ::
  .inl (D.1 13, 41, .inl (ar 8)) ::
  .inr (5, [.int (sc 6), .int (sc 7), .int (sc 8), .int (sc 9), .ref (b + 10), .ref (b + 16), .ref (b + 17)]) ::
  .inr (8, [.int (sc 5), .ref (b + 11), .ref (b + 12), .ref (b + 13), .ref (b + 14), .ref (b + 15)]) ::
  .inl (D.1 13, 6, .inl (ar 11)) ::
  .inl (D.1 13, 6, .inl (ar 12)) ::
  .inl (D.1 13, 6, .inl (ar 13)) ::
  .inl (D.1 13, 41, .inl (ar 14)) ::
  .inl (D.1 13, 41, .inl (ar 15)) ::
  .inl (D.1 13, 3, .inl (ar 16)) ::
  .inl (D.1 13, 3, .inl (ar 17)) ::
  .inr (0, [.ref (b + 19), .ref (b + 20)]) ::
  .inl (D.1 13, 12, .inl (ar 19)) ::
  .inl (D.1 13, 12, .inl (ar 20)) ::
  .inr (3, [.int (sc 10), .int (sc 11), .int (sc 12)]) ::
  .inr (6, [.ref (b + 23), .int (sc 13), .int (sc 14), .int (sc 15)]) ::
  .inl (D.1 13, 3, .inl (ar 23)) ::
  .inl (D.1 13, 12, .inl (ar 24)) ::
  .inr (7, [.ref (b + 24), .int (sc 16), .int (sc 17)]) ::
  .inr (7, [.ref (b + 24), .int (sc 18), .int (sc 19)]) ::
  .inr (12, [.ref (b + 28), .int (sc 20), .int (sc 21), .int (sc 22), .int (sc 23), .int (sc 24), .ref (b + 29), .int (sc 25), .ref (b + 30), .ref (b + 31), .ref (b + 32), .ref (b + 33), .ref (b + 34), .int (sc 26), .int (sc 27), .int (sc 28), .ref (b + 35), .ref (b + 36), .int (sc 29), .ref (b + 37), .int (sc 30), .int (sc 31), .int (sc 32), .int (sc 33), .int (sc 34), .ref (b + 38), .ref (b + 39), .long mh]) ::
  .inl (D.1 13, 18, .inl (ar 28)) ::
  .inl (D.1 13, 12, .inl (ar 29)) ::
  .inl (D.1 13, 12, .inl (ar 30)) ::
  .inl (D.1 13, 12, .inl (ar 31)) ::
  .inl (D.1 13, 12, .inl (ar 32)) ::
  .inl (D.1 13, 3, .inl (ar 33)) ::
  .inl (D.1 13, 3, .inl (ar 34)) ::
  .inl (D.1 13, 18, .inl (ar 35)) ::
  .inl (D.1 13, 48, .inl (ar 36)) ::
  .inl (D.1 13, 12, .inl (ar 37)) ::
  .inl (D.1 13, 12, .inl (ar 38)) ::
  .inl (D.1 13, 18, .inl (ar 39)) ::
  G
section WLS
variable {D : va_G} {b : Nat} {sc : Nat → Int32} {ar : Nat → Nat → Int32} {hn : Nat → Option Nat} {mh : Int64} {G : List va_E}
theorem wl_c0 : (wl D b sc ar hn mh G)[0]? = some (.inr (11, [.ref (b + 1), .int (sc 0), .int (sc 1), .ref (b + 25), .ref (b + 26), .ref (b + 2), .int (sc 2), .int (sc 3), .ref (b + 3), .ref (b + 9), .ref (b + 18), .ref (b + 21), .ref (b + 22)])) := rfl
theorem wl_c1 : (wl D b sc ar hn mh G)[1]? = some (.inl (D.1 13, 18, .inl (ar 1))) := rfl
theorem wl_c2 : (wl D b sc ar hn mh G)[2]? = some (.inl (D.1 14, 3, .inr (.inr (.inr (.inr (fun i => (hn i).map (fun t => b + t))))))) := rfl
theorem wl_c3 : (wl D b sc ar hn mh G)[3]? = some (.inr (8, [.int (sc 4), .ref (b + 4), .ref (b + 5), .ref (b + 6), .ref (b + 7), .ref (b + 8)])) := rfl
theorem wl_c4 : (wl D b sc ar hn mh G)[4]? = some (.inl (D.1 13, 6, .inl (ar 4))) := rfl
theorem wl_c5 : (wl D b sc ar hn mh G)[5]? = some (.inl (D.1 13, 6, .inl (ar 5))) := rfl
theorem wl_c6 : (wl D b sc ar hn mh G)[6]? = some (.inl (D.1 13, 6, .inl (ar 6))) := rfl
theorem wl_c7 : (wl D b sc ar hn mh G)[7]? = some (.inl (D.1 13, 41, .inl (ar 7))) := rfl
theorem wl_c8 : (wl D b sc ar hn mh G)[8]? = some (.inl (D.1 13, 41, .inl (ar 8))) := rfl
theorem wl_c9 : (wl D b sc ar hn mh G)[9]? = some (.inr (5, [.int (sc 6), .int (sc 7), .int (sc 8), .int (sc 9), .ref (b + 10), .ref (b + 16), .ref (b + 17)])) := rfl
theorem wl_c10 : (wl D b sc ar hn mh G)[10]? = some (.inr (8, [.int (sc 5), .ref (b + 11), .ref (b + 12), .ref (b + 13), .ref (b + 14), .ref (b + 15)])) := rfl
theorem wl_c11 : (wl D b sc ar hn mh G)[11]? = some (.inl (D.1 13, 6, .inl (ar 11))) := rfl
theorem wl_c12 : (wl D b sc ar hn mh G)[12]? = some (.inl (D.1 13, 6, .inl (ar 12))) := rfl
theorem wl_c13 : (wl D b sc ar hn mh G)[13]? = some (.inl (D.1 13, 6, .inl (ar 13))) := rfl
theorem wl_c14 : (wl D b sc ar hn mh G)[14]? = some (.inl (D.1 13, 41, .inl (ar 14))) := rfl
theorem wl_c15 : (wl D b sc ar hn mh G)[15]? = some (.inl (D.1 13, 41, .inl (ar 15))) := rfl
theorem wl_c16 : (wl D b sc ar hn mh G)[16]? = some (.inl (D.1 13, 3, .inl (ar 16))) := rfl
theorem wl_c17 : (wl D b sc ar hn mh G)[17]? = some (.inl (D.1 13, 3, .inl (ar 17))) := rfl
theorem wl_c18 : (wl D b sc ar hn mh G)[18]? = some (.inr (0, [.ref (b + 19), .ref (b + 20)])) := rfl
theorem wl_c19 : (wl D b sc ar hn mh G)[19]? = some (.inl (D.1 13, 12, .inl (ar 19))) := rfl
theorem wl_c20 : (wl D b sc ar hn mh G)[20]? = some (.inl (D.1 13, 12, .inl (ar 20))) := rfl
theorem wl_c21 : (wl D b sc ar hn mh G)[21]? = some (.inr (3, [.int (sc 10), .int (sc 11), .int (sc 12)])) := rfl
theorem wl_c22 : (wl D b sc ar hn mh G)[22]? = some (.inr (6, [.ref (b + 23), .int (sc 13), .int (sc 14), .int (sc 15)])) := rfl
theorem wl_c23 : (wl D b sc ar hn mh G)[23]? = some (.inl (D.1 13, 3, .inl (ar 23))) := rfl
theorem wl_c24 : (wl D b sc ar hn mh G)[24]? = some (.inl (D.1 13, 12, .inl (ar 24))) := rfl
theorem wl_c25 : (wl D b sc ar hn mh G)[25]? = some (.inr (7, [.ref (b + 24), .int (sc 16), .int (sc 17)])) := rfl
theorem wl_c26 : (wl D b sc ar hn mh G)[26]? = some (.inr (7, [.ref (b + 24), .int (sc 18), .int (sc 19)])) := rfl
theorem wl_c27 : (wl D b sc ar hn mh G)[27]? = some (.inr (12, [.ref (b + 28), .int (sc 20), .int (sc 21), .int (sc 22), .int (sc 23), .int (sc 24), .ref (b + 29), .int (sc 25), .ref (b + 30), .ref (b + 31), .ref (b + 32), .ref (b + 33), .ref (b + 34), .int (sc 26), .int (sc 27), .int (sc 28), .ref (b + 35), .ref (b + 36), .int (sc 29), .ref (b + 37), .int (sc 30), .int (sc 31), .int (sc 32), .int (sc 33), .int (sc 34), .ref (b + 38), .ref (b + 39), .long mh])) := rfl
theorem wl_c28 : (wl D b sc ar hn mh G)[28]? = some (.inl (D.1 13, 18, .inl (ar 28))) := rfl
theorem wl_c29 : (wl D b sc ar hn mh G)[29]? = some (.inl (D.1 13, 12, .inl (ar 29))) := rfl
theorem wl_c30 : (wl D b sc ar hn mh G)[30]? = some (.inl (D.1 13, 12, .inl (ar 30))) := rfl
theorem wl_c31 : (wl D b sc ar hn mh G)[31]? = some (.inl (D.1 13, 12, .inl (ar 31))) := rfl
theorem wl_c32 : (wl D b sc ar hn mh G)[32]? = some (.inl (D.1 13, 12, .inl (ar 32))) := rfl
theorem wl_c33 : (wl D b sc ar hn mh G)[33]? = some (.inl (D.1 13, 3, .inl (ar 33))) := rfl
theorem wl_c34 : (wl D b sc ar hn mh G)[34]? = some (.inl (D.1 13, 3, .inl (ar 34))) := rfl
theorem wl_c35 : (wl D b sc ar hn mh G)[35]? = some (.inl (D.1 13, 18, .inl (ar 35))) := rfl
theorem wl_c36 : (wl D b sc ar hn mh G)[36]? = some (.inl (D.1 13, 48, .inl (ar 36))) := rfl
theorem wl_c37 : (wl D b sc ar hn mh G)[37]? = some (.inl (D.1 13, 12, .inl (ar 37))) := rfl
theorem wl_c38 : (wl D b sc ar hn mh G)[38]? = some (.inl (D.1 13, 12, .inl (ar 38))) := rfl
theorem wl_c39 : (wl D b sc ar hn mh G)[39]? = some (.inl (D.1 13, 18, .inl (ar 39))) := rfl
theorem wl_p0_1 {v : Int32} : (wl D b sc ar hn mh G).set 0 (.inr (11, ([.ref (b + 1), .int (sc 0), .int (sc 1), .ref (b + 25), .ref (b + 26), .ref (b + 2), .int (sc 2), .int (sc 3), .ref (b + 3), .ref (b + 9), .ref (b + 18), .ref (b + 21), .ref (b + 22)] : List Value).set 1 (.int v))) = wl D b (va_up sc 0 v) ar hn mh G := rfl
theorem wl_p0_2 {v : Int32} : (wl D b sc ar hn mh G).set 0 (.inr (11, ([.ref (b + 1), .int (sc 0), .int (sc 1), .ref (b + 25), .ref (b + 26), .ref (b + 2), .int (sc 2), .int (sc 3), .ref (b + 3), .ref (b + 9), .ref (b + 18), .ref (b + 21), .ref (b + 22)] : List Value).set 2 (.int v))) = wl D b (va_up sc 1 v) ar hn mh G := rfl
theorem wl_p0_6 {v : Int32} : (wl D b sc ar hn mh G).set 0 (.inr (11, ([.ref (b + 1), .int (sc 0), .int (sc 1), .ref (b + 25), .ref (b + 26), .ref (b + 2), .int (sc 2), .int (sc 3), .ref (b + 3), .ref (b + 9), .ref (b + 18), .ref (b + 21), .ref (b + 22)] : List Value).set 6 (.int v))) = wl D b (va_up sc 2 v) ar hn mh G := rfl
theorem wl_p0_7 {v : Int32} : (wl D b sc ar hn mh G).set 0 (.inr (11, ([.ref (b + 1), .int (sc 0), .int (sc 1), .ref (b + 25), .ref (b + 26), .ref (b + 2), .int (sc 2), .int (sc 3), .ref (b + 3), .ref (b + 9), .ref (b + 18), .ref (b + 21), .ref (b + 22)] : List Value).set 7 (.int v))) = wl D b (va_up sc 3 v) ar hn mh G := rfl
theorem wl_a1 (g : Nat → Int32) : (wl D b sc ar hn mh G).set 1 (.inl (D.1 13, 18, .inl g)) = wl D b sc (va_up ar 1 g) hn mh G := rfl
theorem wl_p3_0 {v : Int32} : (wl D b sc ar hn mh G).set 3 (.inr (8, ([.int (sc 4), .ref (b + 4), .ref (b + 5), .ref (b + 6), .ref (b + 7), .ref (b + 8)] : List Value).set 0 (.int v))) = wl D b (va_up sc 4 v) ar hn mh G := rfl
theorem wl_a4 (g : Nat → Int32) : (wl D b sc ar hn mh G).set 4 (.inl (D.1 13, 6, .inl g)) = wl D b sc (va_up ar 4 g) hn mh G := rfl
theorem wl_a5 (g : Nat → Int32) : (wl D b sc ar hn mh G).set 5 (.inl (D.1 13, 6, .inl g)) = wl D b sc (va_up ar 5 g) hn mh G := rfl
theorem wl_a6 (g : Nat → Int32) : (wl D b sc ar hn mh G).set 6 (.inl (D.1 13, 6, .inl g)) = wl D b sc (va_up ar 6 g) hn mh G := rfl
theorem wl_a7 (g : Nat → Int32) : (wl D b sc ar hn mh G).set 7 (.inl (D.1 13, 41, .inl g)) = wl D b sc (va_up ar 7 g) hn mh G := rfl
theorem wl_a8 (g : Nat → Int32) : (wl D b sc ar hn mh G).set 8 (.inl (D.1 13, 41, .inl g)) = wl D b sc (va_up ar 8 g) hn mh G := rfl
theorem wl_p9_0 {v : Int32} : (wl D b sc ar hn mh G).set 9 (.inr (5, ([.int (sc 6), .int (sc 7), .int (sc 8), .int (sc 9), .ref (b + 10), .ref (b + 16), .ref (b + 17)] : List Value).set 0 (.int v))) = wl D b (va_up sc 6 v) ar hn mh G := rfl
theorem wl_p9_1 {v : Int32} : (wl D b sc ar hn mh G).set 9 (.inr (5, ([.int (sc 6), .int (sc 7), .int (sc 8), .int (sc 9), .ref (b + 10), .ref (b + 16), .ref (b + 17)] : List Value).set 1 (.int v))) = wl D b (va_up sc 7 v) ar hn mh G := rfl
theorem wl_p9_2 {v : Int32} : (wl D b sc ar hn mh G).set 9 (.inr (5, ([.int (sc 6), .int (sc 7), .int (sc 8), .int (sc 9), .ref (b + 10), .ref (b + 16), .ref (b + 17)] : List Value).set 2 (.int v))) = wl D b (va_up sc 8 v) ar hn mh G := rfl
theorem wl_p9_3 {v : Int32} : (wl D b sc ar hn mh G).set 9 (.inr (5, ([.int (sc 6), .int (sc 7), .int (sc 8), .int (sc 9), .ref (b + 10), .ref (b + 16), .ref (b + 17)] : List Value).set 3 (.int v))) = wl D b (va_up sc 9 v) ar hn mh G := rfl
theorem wl_p10_0 {v : Int32} : (wl D b sc ar hn mh G).set 10 (.inr (8, ([.int (sc 5), .ref (b + 11), .ref (b + 12), .ref (b + 13), .ref (b + 14), .ref (b + 15)] : List Value).set 0 (.int v))) = wl D b (va_up sc 5 v) ar hn mh G := rfl
theorem wl_a11 (g : Nat → Int32) : (wl D b sc ar hn mh G).set 11 (.inl (D.1 13, 6, .inl g)) = wl D b sc (va_up ar 11 g) hn mh G := rfl
theorem wl_a12 (g : Nat → Int32) : (wl D b sc ar hn mh G).set 12 (.inl (D.1 13, 6, .inl g)) = wl D b sc (va_up ar 12 g) hn mh G := rfl
theorem wl_a13 (g : Nat → Int32) : (wl D b sc ar hn mh G).set 13 (.inl (D.1 13, 6, .inl g)) = wl D b sc (va_up ar 13 g) hn mh G := rfl
theorem wl_a14 (g : Nat → Int32) : (wl D b sc ar hn mh G).set 14 (.inl (D.1 13, 41, .inl g)) = wl D b sc (va_up ar 14 g) hn mh G := rfl
theorem wl_a15 (g : Nat → Int32) : (wl D b sc ar hn mh G).set 15 (.inl (D.1 13, 41, .inl g)) = wl D b sc (va_up ar 15 g) hn mh G := rfl
theorem wl_a16 (g : Nat → Int32) : (wl D b sc ar hn mh G).set 16 (.inl (D.1 13, 3, .inl g)) = wl D b sc (va_up ar 16 g) hn mh G := rfl
theorem wl_a17 (g : Nat → Int32) : (wl D b sc ar hn mh G).set 17 (.inl (D.1 13, 3, .inl g)) = wl D b sc (va_up ar 17 g) hn mh G := rfl
theorem wl_a19 (g : Nat → Int32) : (wl D b sc ar hn mh G).set 19 (.inl (D.1 13, 12, .inl g)) = wl D b sc (va_up ar 19 g) hn mh G := rfl
theorem wl_a20 (g : Nat → Int32) : (wl D b sc ar hn mh G).set 20 (.inl (D.1 13, 12, .inl g)) = wl D b sc (va_up ar 20 g) hn mh G := rfl
theorem wl_p21_0 {v : Int32} : (wl D b sc ar hn mh G).set 21 (.inr (3, ([.int (sc 10), .int (sc 11), .int (sc 12)] : List Value).set 0 (.int v))) = wl D b (va_up sc 10 v) ar hn mh G := rfl
theorem wl_p21_1 {v : Int32} : (wl D b sc ar hn mh G).set 21 (.inr (3, ([.int (sc 10), .int (sc 11), .int (sc 12)] : List Value).set 1 (.int v))) = wl D b (va_up sc 11 v) ar hn mh G := rfl
theorem wl_p21_2 {v : Int32} : (wl D b sc ar hn mh G).set 21 (.inr (3, ([.int (sc 10), .int (sc 11), .int (sc 12)] : List Value).set 2 (.int v))) = wl D b (va_up sc 12 v) ar hn mh G := rfl
theorem wl_p22_1 {v : Int32} : (wl D b sc ar hn mh G).set 22 (.inr (6, ([.ref (b + 23), .int (sc 13), .int (sc 14), .int (sc 15)] : List Value).set 1 (.int v))) = wl D b (va_up sc 13 v) ar hn mh G := rfl
theorem wl_p22_2 {v : Int32} : (wl D b sc ar hn mh G).set 22 (.inr (6, ([.ref (b + 23), .int (sc 13), .int (sc 14), .int (sc 15)] : List Value).set 2 (.int v))) = wl D b (va_up sc 14 v) ar hn mh G := rfl
theorem wl_p22_3 {v : Int32} : (wl D b sc ar hn mh G).set 22 (.inr (6, ([.ref (b + 23), .int (sc 13), .int (sc 14), .int (sc 15)] : List Value).set 3 (.int v))) = wl D b (va_up sc 15 v) ar hn mh G := rfl
theorem wl_a23 (g : Nat → Int32) : (wl D b sc ar hn mh G).set 23 (.inl (D.1 13, 3, .inl g)) = wl D b sc (va_up ar 23 g) hn mh G := rfl
theorem wl_a24 (g : Nat → Int32) : (wl D b sc ar hn mh G).set 24 (.inl (D.1 13, 12, .inl g)) = wl D b sc (va_up ar 24 g) hn mh G := rfl
theorem wl_p25_1 {v : Int32} : (wl D b sc ar hn mh G).set 25 (.inr (7, ([.ref (b + 24), .int (sc 16), .int (sc 17)] : List Value).set 1 (.int v))) = wl D b (va_up sc 16 v) ar hn mh G := rfl
theorem wl_p25_2 {v : Int32} : (wl D b sc ar hn mh G).set 25 (.inr (7, ([.ref (b + 24), .int (sc 16), .int (sc 17)] : List Value).set 2 (.int v))) = wl D b (va_up sc 17 v) ar hn mh G := rfl
theorem wl_p26_1 {v : Int32} : (wl D b sc ar hn mh G).set 26 (.inr (7, ([.ref (b + 24), .int (sc 18), .int (sc 19)] : List Value).set 1 (.int v))) = wl D b (va_up sc 18 v) ar hn mh G := rfl
theorem wl_p26_2 {v : Int32} : (wl D b sc ar hn mh G).set 26 (.inr (7, ([.ref (b + 24), .int (sc 18), .int (sc 19)] : List Value).set 2 (.int v))) = wl D b (va_up sc 19 v) ar hn mh G := rfl
theorem wl_p27_1 {v : Int32} : (wl D b sc ar hn mh G).set 27 (.inr (12, ([.ref (b + 28), .int (sc 20), .int (sc 21), .int (sc 22), .int (sc 23), .int (sc 24), .ref (b + 29), .int (sc 25), .ref (b + 30), .ref (b + 31), .ref (b + 32), .ref (b + 33), .ref (b + 34), .int (sc 26), .int (sc 27), .int (sc 28), .ref (b + 35), .ref (b + 36), .int (sc 29), .ref (b + 37), .int (sc 30), .int (sc 31), .int (sc 32), .int (sc 33), .int (sc 34), .ref (b + 38), .ref (b + 39), .long mh] : List Value).set 1 (.int v))) = wl D b (va_up sc 20 v) ar hn mh G := rfl
theorem wl_p27_2 {v : Int32} : (wl D b sc ar hn mh G).set 27 (.inr (12, ([.ref (b + 28), .int (sc 20), .int (sc 21), .int (sc 22), .int (sc 23), .int (sc 24), .ref (b + 29), .int (sc 25), .ref (b + 30), .ref (b + 31), .ref (b + 32), .ref (b + 33), .ref (b + 34), .int (sc 26), .int (sc 27), .int (sc 28), .ref (b + 35), .ref (b + 36), .int (sc 29), .ref (b + 37), .int (sc 30), .int (sc 31), .int (sc 32), .int (sc 33), .int (sc 34), .ref (b + 38), .ref (b + 39), .long mh] : List Value).set 2 (.int v))) = wl D b (va_up sc 21 v) ar hn mh G := rfl
theorem wl_p27_3 {v : Int32} : (wl D b sc ar hn mh G).set 27 (.inr (12, ([.ref (b + 28), .int (sc 20), .int (sc 21), .int (sc 22), .int (sc 23), .int (sc 24), .ref (b + 29), .int (sc 25), .ref (b + 30), .ref (b + 31), .ref (b + 32), .ref (b + 33), .ref (b + 34), .int (sc 26), .int (sc 27), .int (sc 28), .ref (b + 35), .ref (b + 36), .int (sc 29), .ref (b + 37), .int (sc 30), .int (sc 31), .int (sc 32), .int (sc 33), .int (sc 34), .ref (b + 38), .ref (b + 39), .long mh] : List Value).set 3 (.int v))) = wl D b (va_up sc 22 v) ar hn mh G := rfl
theorem wl_p27_4 {v : Int32} : (wl D b sc ar hn mh G).set 27 (.inr (12, ([.ref (b + 28), .int (sc 20), .int (sc 21), .int (sc 22), .int (sc 23), .int (sc 24), .ref (b + 29), .int (sc 25), .ref (b + 30), .ref (b + 31), .ref (b + 32), .ref (b + 33), .ref (b + 34), .int (sc 26), .int (sc 27), .int (sc 28), .ref (b + 35), .ref (b + 36), .int (sc 29), .ref (b + 37), .int (sc 30), .int (sc 31), .int (sc 32), .int (sc 33), .int (sc 34), .ref (b + 38), .ref (b + 39), .long mh] : List Value).set 4 (.int v))) = wl D b (va_up sc 23 v) ar hn mh G := rfl
theorem wl_p27_5 {v : Int32} : (wl D b sc ar hn mh G).set 27 (.inr (12, ([.ref (b + 28), .int (sc 20), .int (sc 21), .int (sc 22), .int (sc 23), .int (sc 24), .ref (b + 29), .int (sc 25), .ref (b + 30), .ref (b + 31), .ref (b + 32), .ref (b + 33), .ref (b + 34), .int (sc 26), .int (sc 27), .int (sc 28), .ref (b + 35), .ref (b + 36), .int (sc 29), .ref (b + 37), .int (sc 30), .int (sc 31), .int (sc 32), .int (sc 33), .int (sc 34), .ref (b + 38), .ref (b + 39), .long mh] : List Value).set 5 (.int v))) = wl D b (va_up sc 24 v) ar hn mh G := rfl
theorem wl_p27_7 {v : Int32} : (wl D b sc ar hn mh G).set 27 (.inr (12, ([.ref (b + 28), .int (sc 20), .int (sc 21), .int (sc 22), .int (sc 23), .int (sc 24), .ref (b + 29), .int (sc 25), .ref (b + 30), .ref (b + 31), .ref (b + 32), .ref (b + 33), .ref (b + 34), .int (sc 26), .int (sc 27), .int (sc 28), .ref (b + 35), .ref (b + 36), .int (sc 29), .ref (b + 37), .int (sc 30), .int (sc 31), .int (sc 32), .int (sc 33), .int (sc 34), .ref (b + 38), .ref (b + 39), .long mh] : List Value).set 7 (.int v))) = wl D b (va_up sc 25 v) ar hn mh G := rfl
theorem wl_p27_13 {v : Int32} : (wl D b sc ar hn mh G).set 27 (.inr (12, ([.ref (b + 28), .int (sc 20), .int (sc 21), .int (sc 22), .int (sc 23), .int (sc 24), .ref (b + 29), .int (sc 25), .ref (b + 30), .ref (b + 31), .ref (b + 32), .ref (b + 33), .ref (b + 34), .int (sc 26), .int (sc 27), .int (sc 28), .ref (b + 35), .ref (b + 36), .int (sc 29), .ref (b + 37), .int (sc 30), .int (sc 31), .int (sc 32), .int (sc 33), .int (sc 34), .ref (b + 38), .ref (b + 39), .long mh] : List Value).set 13 (.int v))) = wl D b (va_up sc 26 v) ar hn mh G := rfl
theorem wl_p27_14 {v : Int32} : (wl D b sc ar hn mh G).set 27 (.inr (12, ([.ref (b + 28), .int (sc 20), .int (sc 21), .int (sc 22), .int (sc 23), .int (sc 24), .ref (b + 29), .int (sc 25), .ref (b + 30), .ref (b + 31), .ref (b + 32), .ref (b + 33), .ref (b + 34), .int (sc 26), .int (sc 27), .int (sc 28), .ref (b + 35), .ref (b + 36), .int (sc 29), .ref (b + 37), .int (sc 30), .int (sc 31), .int (sc 32), .int (sc 33), .int (sc 34), .ref (b + 38), .ref (b + 39), .long mh] : List Value).set 14 (.int v))) = wl D b (va_up sc 27 v) ar hn mh G := rfl
theorem wl_p27_15 {v : Int32} : (wl D b sc ar hn mh G).set 27 (.inr (12, ([.ref (b + 28), .int (sc 20), .int (sc 21), .int (sc 22), .int (sc 23), .int (sc 24), .ref (b + 29), .int (sc 25), .ref (b + 30), .ref (b + 31), .ref (b + 32), .ref (b + 33), .ref (b + 34), .int (sc 26), .int (sc 27), .int (sc 28), .ref (b + 35), .ref (b + 36), .int (sc 29), .ref (b + 37), .int (sc 30), .int (sc 31), .int (sc 32), .int (sc 33), .int (sc 34), .ref (b + 38), .ref (b + 39), .long mh] : List Value).set 15 (.int v))) = wl D b (va_up sc 28 v) ar hn mh G := rfl
theorem wl_p27_18 {v : Int32} : (wl D b sc ar hn mh G).set 27 (.inr (12, ([.ref (b + 28), .int (sc 20), .int (sc 21), .int (sc 22), .int (sc 23), .int (sc 24), .ref (b + 29), .int (sc 25), .ref (b + 30), .ref (b + 31), .ref (b + 32), .ref (b + 33), .ref (b + 34), .int (sc 26), .int (sc 27), .int (sc 28), .ref (b + 35), .ref (b + 36), .int (sc 29), .ref (b + 37), .int (sc 30), .int (sc 31), .int (sc 32), .int (sc 33), .int (sc 34), .ref (b + 38), .ref (b + 39), .long mh] : List Value).set 18 (.int v))) = wl D b (va_up sc 29 v) ar hn mh G := rfl
theorem wl_p27_20 {v : Int32} : (wl D b sc ar hn mh G).set 27 (.inr (12, ([.ref (b + 28), .int (sc 20), .int (sc 21), .int (sc 22), .int (sc 23), .int (sc 24), .ref (b + 29), .int (sc 25), .ref (b + 30), .ref (b + 31), .ref (b + 32), .ref (b + 33), .ref (b + 34), .int (sc 26), .int (sc 27), .int (sc 28), .ref (b + 35), .ref (b + 36), .int (sc 29), .ref (b + 37), .int (sc 30), .int (sc 31), .int (sc 32), .int (sc 33), .int (sc 34), .ref (b + 38), .ref (b + 39), .long mh] : List Value).set 20 (.int v))) = wl D b (va_up sc 30 v) ar hn mh G := rfl
theorem wl_p27_21 {v : Int32} : (wl D b sc ar hn mh G).set 27 (.inr (12, ([.ref (b + 28), .int (sc 20), .int (sc 21), .int (sc 22), .int (sc 23), .int (sc 24), .ref (b + 29), .int (sc 25), .ref (b + 30), .ref (b + 31), .ref (b + 32), .ref (b + 33), .ref (b + 34), .int (sc 26), .int (sc 27), .int (sc 28), .ref (b + 35), .ref (b + 36), .int (sc 29), .ref (b + 37), .int (sc 30), .int (sc 31), .int (sc 32), .int (sc 33), .int (sc 34), .ref (b + 38), .ref (b + 39), .long mh] : List Value).set 21 (.int v))) = wl D b (va_up sc 31 v) ar hn mh G := rfl
theorem wl_p27_22 {v : Int32} : (wl D b sc ar hn mh G).set 27 (.inr (12, ([.ref (b + 28), .int (sc 20), .int (sc 21), .int (sc 22), .int (sc 23), .int (sc 24), .ref (b + 29), .int (sc 25), .ref (b + 30), .ref (b + 31), .ref (b + 32), .ref (b + 33), .ref (b + 34), .int (sc 26), .int (sc 27), .int (sc 28), .ref (b + 35), .ref (b + 36), .int (sc 29), .ref (b + 37), .int (sc 30), .int (sc 31), .int (sc 32), .int (sc 33), .int (sc 34), .ref (b + 38), .ref (b + 39), .long mh] : List Value).set 22 (.int v))) = wl D b (va_up sc 32 v) ar hn mh G := rfl
theorem wl_p27_23 {v : Int32} : (wl D b sc ar hn mh G).set 27 (.inr (12, ([.ref (b + 28), .int (sc 20), .int (sc 21), .int (sc 22), .int (sc 23), .int (sc 24), .ref (b + 29), .int (sc 25), .ref (b + 30), .ref (b + 31), .ref (b + 32), .ref (b + 33), .ref (b + 34), .int (sc 26), .int (sc 27), .int (sc 28), .ref (b + 35), .ref (b + 36), .int (sc 29), .ref (b + 37), .int (sc 30), .int (sc 31), .int (sc 32), .int (sc 33), .int (sc 34), .ref (b + 38), .ref (b + 39), .long mh] : List Value).set 23 (.int v))) = wl D b (va_up sc 33 v) ar hn mh G := rfl
theorem wl_p27_24 {v : Int32} : (wl D b sc ar hn mh G).set 27 (.inr (12, ([.ref (b + 28), .int (sc 20), .int (sc 21), .int (sc 22), .int (sc 23), .int (sc 24), .ref (b + 29), .int (sc 25), .ref (b + 30), .ref (b + 31), .ref (b + 32), .ref (b + 33), .ref (b + 34), .int (sc 26), .int (sc 27), .int (sc 28), .ref (b + 35), .ref (b + 36), .int (sc 29), .ref (b + 37), .int (sc 30), .int (sc 31), .int (sc 32), .int (sc 33), .int (sc 34), .ref (b + 38), .ref (b + 39), .long mh] : List Value).set 24 (.int v))) = wl D b (va_up sc 34 v) ar hn mh G := rfl
theorem wl_p27_27 {v : Int64} : (wl D b sc ar hn mh G).set 27 (.inr (12, ([.ref (b + 28), .int (sc 20), .int (sc 21), .int (sc 22), .int (sc 23), .int (sc 24), .ref (b + 29), .int (sc 25), .ref (b + 30), .ref (b + 31), .ref (b + 32), .ref (b + 33), .ref (b + 34), .int (sc 26), .int (sc 27), .int (sc 28), .ref (b + 35), .ref (b + 36), .int (sc 29), .ref (b + 37), .int (sc 30), .int (sc 31), .int (sc 32), .int (sc 33), .int (sc 34), .ref (b + 38), .ref (b + 39), .long mh] : List Value).set 27 (.long v))) = wl D b sc ar hn v G := rfl
theorem wl_a28 (g : Nat → Int32) : (wl D b sc ar hn mh G).set 28 (.inl (D.1 13, 18, .inl g)) = wl D b sc (va_up ar 28 g) hn mh G := rfl
theorem wl_a29 (g : Nat → Int32) : (wl D b sc ar hn mh G).set 29 (.inl (D.1 13, 12, .inl g)) = wl D b sc (va_up ar 29 g) hn mh G := rfl
theorem wl_a30 (g : Nat → Int32) : (wl D b sc ar hn mh G).set 30 (.inl (D.1 13, 12, .inl g)) = wl D b sc (va_up ar 30 g) hn mh G := rfl
theorem wl_a31 (g : Nat → Int32) : (wl D b sc ar hn mh G).set 31 (.inl (D.1 13, 12, .inl g)) = wl D b sc (va_up ar 31 g) hn mh G := rfl
theorem wl_a32 (g : Nat → Int32) : (wl D b sc ar hn mh G).set 32 (.inl (D.1 13, 12, .inl g)) = wl D b sc (va_up ar 32 g) hn mh G := rfl
theorem wl_a33 (g : Nat → Int32) : (wl D b sc ar hn mh G).set 33 (.inl (D.1 13, 3, .inl g)) = wl D b sc (va_up ar 33 g) hn mh G := rfl
theorem wl_a34 (g : Nat → Int32) : (wl D b sc ar hn mh G).set 34 (.inl (D.1 13, 3, .inl g)) = wl D b sc (va_up ar 34 g) hn mh G := rfl
theorem wl_a35 (g : Nat → Int32) : (wl D b sc ar hn mh G).set 35 (.inl (D.1 13, 18, .inl g)) = wl D b sc (va_up ar 35 g) hn mh G := rfl
theorem wl_a36 (g : Nat → Int32) : (wl D b sc ar hn mh G).set 36 (.inl (D.1 13, 48, .inl g)) = wl D b sc (va_up ar 36 g) hn mh G := rfl
theorem wl_a37 (g : Nat → Int32) : (wl D b sc ar hn mh G).set 37 (.inl (D.1 13, 12, .inl g)) = wl D b sc (va_up ar 37 g) hn mh G := rfl
theorem wl_a38 (g : Nat → Int32) : (wl D b sc ar hn mh G).set 38 (.inl (D.1 13, 12, .inl g)) = wl D b sc (va_up ar 38 g) hn mh G := rfl
theorem wl_a39 (g : Nat → Int32) : (wl D b sc ar hn mh G).set 39 (.inl (D.1 13, 18, .inl g)) = wl D b sc (va_up ar 39 g) hn mh G := rfl
theorem wl_t {u : Nat} {e : va_E} : (wl D b sc ar hn mh G).set (u + 40) e = wl D b sc ar hn mh (G.set u e) := rfl
theorem wl_tail {u : Nat} {e : va_E} (h : G[u]? = some e) : (wl D b sc ar hn mh G)[u + 40]? = some e := h
theorem wl_len : (wl D b sc ar hn mh G).length = G.length + 40 := rfl
theorem wl_push {e : va_E} : wl D b sc ar hn mh G ++ [e] = wl D b sc ar hn mh (G ++ [e]) := rfl
theorem wl_h {i : Nat} {v : Option Nat} : (wl D b sc ar hn mh G).set 2 (.inl (D.1 14, 3, .inr (.inr (.inr (.inr (va_up (fun i => (hn i).map (fun t => b + t)) i (v.map (fun t => b + t)))))))) = wl D b sc ar (va_up hn i v) mh G := by
  have h : va_up (fun i => (hn i).map (fun t => b + t)) i (v.map (fun t => b + t)) = fun j => ((va_up hn i v) j).map (fun t => b + t) := by
    funext j
    by_cases hj : j = i
    · subst hj; simp [va_up]
    · simp [va_up, hj]
  rw [h]
  rfl
end WLS
/-- what the slots of the hulls hold: kind, draught, cell, hours sailed -/
abbrev HV : Type := Nat → Option (Nat × Int32 × Int32 × Int32)
def HVr (hn : Nat → Option Nat) (G : List va_E) (hv : HV) : Prop := (∀ i, hv i = none → hn i = none) ∧ (∀ i k dr ce sa, hv i = some (k, dr, ce, sa) → ∃ u, hn i = some (u + 40) ∧ k < 5 ∧ G[u]? = some (hcl k dr ce sa)) ∧ (∀ i j t, hn i = some t → hn j = some t → i = j)
end
section
/-- the plain is there, the cell is on it -/
def hpF (rp : Int32) : Int32 := if rp ≤ 0 then 0 else 1
def thF (rp x : Int32) : Int32 := if rp ≤ 0 then 0 else icF x
def diF (f : Nat → Int32) (x : Int32) : Int32 := if x < 0 then 0 else if 18 ≤ x then 0 else f x.toNatClampNeg - 48
/-- a hull by its number, as its slot has it -/
def hvF (cnt : Int32) (hv : HV) (x : Int32) : Option (Nat × Int32 × Int32 × Int32) := if x < 0 then none else if cnt ≤ x then none else if x < 3 then hv x.toNatClampNeg else none
set_option maxHeartbeats 4000000 in
set_option maxRecDepth 100000 in
theorem c_hasPlain (l : Launch) (D : va_G) (b : Nat) (sc : Nat → Int32) (ar : Nat → Nat → Int32) (hn : Nat → Option Nat) (mh : Int64) (G : List va_E)  : Con l yX11_hasPlain cX11_hasPlain 1 (some .boolean) 0 0 D b 0 0 (wl D b sc ar hn mh G) [.ref (b + 0)] (fun r es' => r = some (.int (hpF (sc 16))) ∧ (wl D b sc ar hn mh G) = es') := by
  refine con_of (by decide) (Nat.le_of_ble_eq_true rfl) (fun p e s m args below meth c C hsz => ?_)
  have C : vC p s m args meth c cX11_hasPlain 1 RX11 "hasPlain" (some .boolean) D b := C
  change V p l e _ s m args below meth c D b 1 _ 0 0 (wl D b sc ar hn mh G) [(0, .ref (b + 0))] [] 0
  refine v_aload_n (n := 1) C dX11_hasPlain_0 rfl rfl rfl ?_
  refine v_get (n := 4) C dX11_hasPlain_1 rfl fl_X11_59_X11 wl_c0 rfl ?_
  refine v_get (n := 7) C dX11_hasPlain_4 rfl fl_X11_96_X7 wl_c25 rfl ?_
  refine v_if_le (t := 14) (n := 10) C dX11_hasPlain_7 (by decide) rfl (fun c_1 => ?_) (fun c_1 => ?_)
  · skip
    refine v_iconst (n := 15) (v := 0) C dX11_hasPlain_14 rfl (by decide) ?_
    exact v_iret C dX11_hasPlain_15 rfl rfl ⟨by first | rfl | (simp only [hpF, if_pos c_1, if_neg (Int32.not_lt.mpr c_1)]; done) | (simp [hpF, c_1]; done), rfl⟩
  · skip
    refine v_iconst (n := 11) (v := 1) C dX11_hasPlain_10 rfl (by decide) ?_
    refine v_goto (t := 15) C dX11_hasPlain_11 (by decide) ?_
    exact v_iret C dX11_hasPlain_15 rfl rfl ⟨by first | rfl | (simp only [hpF, if_neg c_1, if_pos (Int32.not_le.mp c_1)]; done) | (simp [hpF, c_1]; done), rfl⟩
set_option maxHeartbeats 4000000 in
set_option maxRecDepth 100000 in
theorem c_isThere (l : Launch) (D : va_G) (b : Nat) (sc : Nat → Int32) (ar : Nat → Nat → Int32) (hn : Nat → Option Nat) (mh : Int64) (G : List va_E) (x : Int32) : Con l yX11_isThere cX11_isThere 2 (some .boolean) 1 20 D b 0 0 (wl D b sc ar hn mh G) [.ref (b + 0), .int x] (fun r es' => r = some (.int (thF (sc 16) x)) ∧ (wl D b sc ar hn mh G) = es') := by
  refine con_of (by decide) (Nat.le_of_ble_eq_true rfl) (fun p e s m args below meth c C hsz => ?_)
  have C : vC p s m args meth c cX11_isThere 2 RX11 "isThere" (some .boolean) D b := C
  change V p l e _ s m args below meth c D b 2 _ 0 0 (wl D b sc ar hn mh G) [(0, .ref (b + 0)), (1, .int x)] [] 0
  refine v_aload_n (n := 1) C dX11_isThere_0 rfl rfl rfl ?_
  refine v_go (n := 4) C (vRun_V (As := []) (rest := []) C wl_c0 rfl lk_X11_119 im_X11_hasPlain se_X11_hasPlain dX11_isThere_1 (c_hasPlain l D b sc ar hn mh G) wm_X11_hasPlain rfl rfl ⟨Nat.le_of_ble_eq_true rfl, Nat.le_of_ble_eq_true rfl⟩ ⟨Nat.le_of_ble_eq_true rfl, Nat.le_of_ble_eq_true rfl⟩ (Nat.le_of_ble_eq_true rfl)) rfl ?_
  rintro _ _ ⟨rfl, rfl⟩ -
  by_cases p_1 : (sc 16) ≤ 0
  · skip
    refine v_stk (st' := .int 0 :: []) (congrArg (fun z : Int32 => Value.int z :: []) (show hpF (sc 16) = 0 by simp only [hpF, if_pos p_1])) ?_
    refine v_if_eq (t := 18) (n := 7) C dX11_isThere_4 (by decide) rfl (fun c_2 => ?_) (fun c_2 => ?_)
    · skip
      refine v_iconst (n := 19) (v := 0) C dX11_isThere_18 rfl (by decide) ?_
      exact v_iret C dX11_isThere_19 rfl rfl ⟨by first | rfl | (simp only [thF, icF, if_pos p_1, if_neg (Int32.not_lt.mpr p_1), if_pos c_2]; done) | (simp [thF, icF, p_1, c_2]; done), rfl⟩
    · exact absurd c_2 (by decide)
  refine v_stk (st' := .int 1 :: []) (congrArg (fun z : Int32 => Value.int z :: []) (show hpF (sc 16) = 1 by simp only [hpF, if_neg p_1])) ?_
  refine v_if_eq (t := 18) (n := 7) C dX11_isThere_4 (by decide) rfl (fun c_3 => ?_) (fun c_3 => ?_)
  · exact absurd c_3 (by decide)
  · skip
    refine v_iload_n (n := 8) C dX11_isThere_7 rfl rfl rfl ?_
    refine v_go (n := 11) C (vRun_S (As := [.int x]) (rest := []) C lk_X11_259 st_X11_isCell dX11_isThere_8 (c_isCell l D b (wl D b sc ar hn mh G) x) wm_X11_isCell rfl rfl ⟨Nat.le_of_ble_eq_true rfl, Nat.le_of_ble_eq_true rfl⟩ ⟨Nat.le_of_ble_eq_true rfl, Nat.le_of_ble_eq_true rfl⟩ (Nat.le_of_ble_eq_true rfl)) rfl ?_
    rintro _ _ ⟨rfl, rfl⟩ -
    by_cases p_4 : x < 0
    · skip
      refine v_stk (st' := .int 0 :: []) (congrArg (fun z : Int32 => Value.int z :: []) (show icF x = 0 by simp only [icF, if_pos p_4])) ?_
      refine v_if_eq (t := 18) (n := 14) C dX11_isThere_11 (by decide) rfl (fun c_5 => ?_) (fun c_5 => ?_)
      · skip
        refine v_iconst (n := 19) (v := 0) C dX11_isThere_18 rfl (by decide) ?_
        exact v_iret C dX11_isThere_19 rfl rfl ⟨by first | rfl | (simp only [thF, icF, if_neg p_1, if_pos (Int32.not_le.mp p_1), if_neg c_3, if_pos p_4, if_neg (Int32.not_le.mpr p_4), if_pos c_5]; done) | (simp [thF, icF, p_1, c_3, p_4, c_5]; done), rfl⟩
      · exact absurd c_5 (by decide)
    by_cases p_6 : 12 ≤ x
    · skip
      refine v_stk (st' := .int 0 :: []) (congrArg (fun z : Int32 => Value.int z :: []) (show icF x = 0 by simp only [icF, if_neg p_4, if_pos p_6])) ?_
      refine v_if_eq (t := 18) (n := 14) C dX11_isThere_11 (by decide) rfl (fun c_7 => ?_) (fun c_7 => ?_)
      · skip
        refine v_iconst (n := 19) (v := 0) C dX11_isThere_18 rfl (by decide) ?_
        exact v_iret C dX11_isThere_19 rfl rfl ⟨by first | rfl | (simp only [thF, icF, if_neg p_1, if_pos (Int32.not_le.mp p_1), if_neg c_3, if_neg p_4, if_pos (Int32.not_lt.mp p_4), if_pos p_6, if_neg (Int32.not_lt.mpr p_6), if_pos c_7]; done) | (simp [thF, icF, p_1, c_3, p_4, p_6, c_7]; done), rfl⟩
      · exact absurd c_7 (by decide)
    refine v_stk (st' := .int 1 :: []) (congrArg (fun z : Int32 => Value.int z :: []) (show icF x = 1 by simp only [icF, if_neg p_4, if_neg p_6])) ?_
    refine v_if_eq (t := 18) (n := 14) C dX11_isThere_11 (by decide) rfl (fun c_8 => ?_) (fun c_8 => ?_)
    · exact absurd c_8 (by decide)
    · skip
      refine v_iconst (n := 15) (v := 1) C dX11_isThere_14 rfl (by decide) ?_
      refine v_goto (t := 19) C dX11_isThere_15 (by decide) ?_
      exact v_iret C dX11_isThere_19 rfl rfl ⟨by first | rfl | (simp only [thF, icF, if_neg p_1, if_pos (Int32.not_le.mp p_1), if_neg c_3, if_neg p_4, if_pos (Int32.not_lt.mp p_4), if_neg p_6, if_pos (Int32.not_le.mp p_6), if_neg c_8]; done) | (simp [thF, icF, p_1, c_3, p_4, p_6, c_8]; done), rfl⟩
set_option maxHeartbeats 4000000 in
set_option maxRecDepth 100000 in
theorem c_digitAt (l : Launch) (D : va_G) (b : Nat) (sc : Nat → Int32) (ar : Nat → Nat → Int32) (hn : Nat → Option Nat) (mh : Int64) (G : List va_E) (x : Int32) : Con l yX11_digitAt cX11_digitAt 2 (some .int) 0 0 D b 0 0 (wl D b sc ar hn mh G) [.ref (b + 0), .int x] (fun r es' => r = some (.int (diF (ar 1) x)) ∧ (wl D b sc ar hn mh G) = es') := by
  refine con_of (by decide) (Nat.le_of_ble_eq_true rfl) (fun p e s m args below meth c C hsz => ?_)
  have C : vC p s m args meth c cX11_digitAt 2 RX11 "digitAt" (some .int) D b := C
  change V p l e _ s m args below meth c D b 2 _ 0 0 (wl D b sc ar hn mh G) [(0, .ref (b + 0)), (1, .int x)] [] 0
  refine v_iload_n (n := 1) C dX11_digitAt_0 rfl rfl rfl ?_
  refine v_if_lt (t := 25) (n := 4) C dX11_digitAt_1 (by decide) rfl (fun c_1 => ?_) (fun c_1 => ?_)
  · skip
    refine v_iconst (n := 26) (v := 0) C dX11_digitAt_25 rfl (by decide) ?_
    exact v_iret C dX11_digitAt_26 rfl rfl ⟨by first | rfl | (simp only [diF, if_pos c_1, if_neg (Int32.not_le.mpr c_1)]; done) | (simp [diF, c_1]; done), rfl⟩
  · skip
    refine v_iload_n (n := 5) C dX11_digitAt_4 rfl rfl rfl ?_
    refine v_aload_n (n := 6) C dX11_digitAt_5 rfl rfl rfl ?_
    refine v_get (n := 9) C dX11_digitAt_6 rfl fl_X11_9_X11 wl_c0 rfl ?_
    refine v_alen (n := 10) (v := 18) C dX11_digitAt_9 rfl wl_c1 rfl ?_
    refine v_icmp_ge (t := 25) (n := 13) C dX11_digitAt_10 (by decide) rfl (fun c_2 => ?_) (fun c_2 => ?_)
    · skip
      refine v_iconst (n := 26) (v := 0) C dX11_digitAt_25 rfl (by decide) ?_
      exact v_iret C dX11_digitAt_26 rfl rfl ⟨by first | rfl | (simp only [diF, if_neg c_1, if_pos (Int32.not_lt.mp c_1), if_pos c_2, if_neg (Int32.not_lt.mpr c_2)]; done) | (simp [diF, c_1, c_2]; done), rfl⟩
    · skip
      refine v_aload_n (n := 14) C dX11_digitAt_13 rfl rfl rfl ?_
      refine v_get (n := 17) C dX11_digitAt_14 rfl fl_X11_9_X11 wl_c0 rfl ?_
      refine v_iload_n (n := 18) C dX11_digitAt_17 rfl rfl rfl ?_
      refine v_iald (n := 19) C dX11_digitAt_18 rfl wl_c1 (vp_b (Int32.not_lt.mp c_1) (Int32.not_le.mp c_2) (by decide)) ?_
      refine v_bipush (n := 21) (v := 48) C dX11_digitAt_19 rfl (by decide) ?_
      refine v_isub (n := 22) C dX11_digitAt_21 rfl ?_
      refine v_goto (t := 26) C dX11_digitAt_22 (by decide) ?_
      exact v_iret C dX11_digitAt_26 rfl rfl ⟨by first | rfl | (simp only [diF, if_neg c_1, if_pos (Int32.not_lt.mp c_1), if_neg c_2, if_pos (Int32.not_le.mp c_2)]; done) | (simp [diF, c_1, c_2]; done), rfl⟩
set_option maxHeartbeats 4000000 in
set_option maxRecDepth 100000 in
theorem c_hullNumbered (l : Launch) (D : va_G) (b : Nat) (sc : Nat → Int32) (ar : Nat → Nat → Int32) (hn : Nat → Option Nat) (mh : Int64) (G : List va_E) (x : Int32) (hv : HV) (hr : HVr hn G hv) : Con l yX11_hullNumbered cX11_hullNumbered 2 (some (.object "WheatSea$Hull")) 0 0 D b 0 0 (wl D b sc ar hn mh G) [.ref (b + 0), .int x] (fun r es' => ((hvF (sc 2) hv x = none ∧ r = some .null) ∨ ∃ k dr ce sa u, hvF (sc 2) hv x = some (k, dr, ce, sa) ∧ hn x.toNatClampNeg = some (u + 40) ∧ k < 5 ∧ G[u]? = some (hcl k dr ce sa) ∧ r = some (.ref (b + (u + 40)))) ∧ wl D b sc ar hn mh G = es') := by
  refine con_of (by decide) (Nat.le_of_ble_eq_true rfl) (fun p e s m args below meth c C hsz => ?_)
  have C : vC p s m args meth c cX11_hullNumbered 2 RX11 "hullNumbered" (some (.object "WheatSea$Hull")) D b := C
  change V p l e _ s m args below meth c D b 2 _ 0 0 (wl D b sc ar hn mh G) [(0, .ref (b + 0)), (1, .int x)] [] 0
  refine v_iload_n (n := 1) C dX11_hullNumbered_0 rfl rfl rfl ?_
  refine v_if_lt (t := 21) (n := 4) C dX11_hullNumbered_1 (by decide) rfl (fun c_1 => ?_) (fun c_1 => ?_)
  · skip
    refine v_null (n := 22) C dX11_hullNumbered_21 rfl ?_
    exact v_aret C dX11_hullNumbered_22 rfl (Or.inl ⟨_, rfl⟩) (Or.inl rfl) ⟨Or.inl ⟨by simp only [hvF, if_pos c_1], rfl⟩, rfl⟩
  · skip
    refine v_iload_n (n := 5) C dX11_hullNumbered_4 rfl rfl rfl ?_
    refine v_aload_n (n := 6) C dX11_hullNumbered_5 rfl rfl rfl ?_
    refine v_get (n := 9) C dX11_hullNumbered_6 rfl fl_X11_126_X11 wl_c0 rfl ?_
    refine v_icmp_ge (t := 21) (n := 12) C dX11_hullNumbered_9 (by decide) rfl (fun c_2 => ?_) (fun c_2 => ?_)
    · skip
      refine v_null (n := 22) C dX11_hullNumbered_21 rfl ?_
      exact v_aret C dX11_hullNumbered_22 rfl (Or.inl ⟨_, rfl⟩) (Or.inl rfl) ⟨Or.inl ⟨by simp only [hvF, if_neg c_1, if_pos c_2], rfl⟩, rfl⟩
    · skip
      refine v_iload_n (n := 13) C dX11_hullNumbered_12 rfl rfl rfl ?_
      refine v_aload_n (n := 14) C dX11_hullNumbered_13 rfl rfl rfl ?_
      refine v_get (n := 17) C dX11_hullNumbered_14 rfl fl_X11_15_X11 wl_c0 rfl ?_
      refine v_alenQ (n := 18) (v := 3) C dX11_hullNumbered_17 rfl wl_c2 rfl ?_
      refine v_icmp_lt (t := 23) (n := 21) C dX11_hullNumbered_18 (by decide) rfl (fun c_3 => ?_) (fun c_3 => ?_)
      · skip
        refine v_aload_n (n := 24) C dX11_hullNumbered_23 rfl rfl rfl ?_
        refine v_get (n := 27) C dX11_hullNumbered_24 rfl fl_X11_15_X11 wl_c0 rfl ?_
        refine v_iload_n (n := 28) C dX11_hullNumbered_27 rfl rfl rfl ?_
        refine v_aald (n := 29) C dX11_hullNumbered_28 rfl wl_c2 (vp_b (Int32.not_lt.mp c_1) c_3 (by decide)) ?_
        rcases q_4 : hv (x.toNatClampNeg) with _ | ⟨k4, dr4, ce4, sa4⟩
        · skip
          refine v_stk (st' := .null :: []) (congrArg (fun z : Option Nat => va_rf (z.map (fun t => b + t)) :: []) (hr.1 _ q_4)) ?_
          exact v_aret C dX11_hullNumbered_29 rfl (Or.inl ⟨_, rfl⟩) (Or.inl rfl) ⟨Or.inl ⟨by simp only [hvF, if_neg c_1, if_neg c_2, if_pos c_3, q_4], rfl⟩, rfl⟩
        · obtain ⟨u4, hu4, hk4, hg4⟩ := hr.2.1 _ _ _ _ _ q_4
          refine v_stk (st' := .ref (b + (u4 + 40)) :: []) (congrArg (fun z : Option Nat => va_rf (z.map (fun t => b + t)) :: []) hu4) ?_
          exact v_aret C dX11_hullNumbered_29 rfl (Or.inl ⟨_, rfl⟩) (Or.inr ⟨_, rfl⟩) ⟨Or.inr ⟨k4, dr4, ce4, sa4, u4, by simp only [hvF, if_neg c_1, if_neg c_2, if_pos c_3, q_4], hu4, hk4, hg4, rfl⟩, rfl⟩
      · skip
        refine v_null (n := 22) C dX11_hullNumbered_21 rfl ?_
        exact v_aret C dX11_hullNumbered_22 rfl (Or.inl ⟨_, rfl⟩) (Or.inl rfl) ⟨Or.inl ⟨by simp only [hvF, if_neg c_1, if_neg c_2, if_neg c_3], rfl⟩, rfl⟩
/-- hulls on a cell, stranded hulls, cut cells: by counting -/
def hoN (hv : HV) (x : Int32) : Nat → Int32
  | 0 => 0
  | i + 1 => match hv i with
    | none => hoN hv x i
    | some q => if q.2.2.1 = x then hoN hv x i + 1 else hoN hv x i
def stN (f : Nat → Int32) (rp h : Int32) (hv : HV) : Nat → Int32
  | 0 => 0
  | i + 1 => match hv i with
    | none => stN f rp h hv i
    | some q => if flP f rp q.1 q.2.1 q.2.2.1 h then stN f rp h hv i else stN f rp h hv i + 1
def cuN (rp h : Int32) : Nat → Int32
  | 0 => 0
  | i + 1 => if h < rp * (nI i + 1) then cuN rp h i else cuN rp h i + 1
def cuF (rp h : Int32) : Int32 := if rp ≤ 0 then 0 else cuN rp h 12
set_option maxHeartbeats 4000000 in
set_option maxRecDepth 100000 in
theorem c_hullsOn (l : Launch) (D : va_G) (b : Nat) (sc : Nat → Int32) (ar : Nat → Nat → Int32) (hn : Nat → Option Nat) (mh : Int64) (G : List va_E) (x : Int32) (hv : HV) (hr : HVr hn G hv) : Con l yX11_hullsOn cX11_hullsOn 5 (some .int) 0 0 D b 0 0 (wl D b sc ar hn mh G) [.ref (b + 0), .int x] (fun r es' => r = some (.int (hoN hv x 3)) ∧ (wl D b sc ar hn mh G) = es') := by
  refine con_of (by decide) (Nat.le_of_ble_eq_true rfl) (fun p e s m args below meth c C hsz => ?_)
  have C : vC p s m args meth c cX11_hullsOn 5 RX11 "hullsOn" (some .int) D b := C
  change V p l e _ s m args below meth c D b 5 _ 0 0 (wl D b sc ar hn mh G) [(0, .ref (b + 0)), (1, .int x)] [] 0
  refine v_iconst (n := 1) (v := 0) C dX11_hullsOn_0 rfl (by decide) ?_
  refine v_istore_n (n := 2) (lv' := [(2, .int 0), (0, .ref (b + 0)), (1, .int x)]) C dX11_hullsOn_1 rfl rfl (Nat.le_of_ble_eq_true rfl) rfl ?_
  refine v_iconst (n := 3) (v := 0) C dX11_hullsOn_2 rfl (by decide) ?_
  refine v_istore_n (n := 4) (lv' := [(3, .int 0), (2, .int 0), (0, .ref (b + 0)), (1, .int x)]) C dX11_hullsOn_3 rfl rfl (Nat.le_of_ble_eq_true rfl) rfl ?_
  refine v_pick (lv' := [(3, .int 0), (0, .ref (b + 0)), (1, .int x), (2, .int 0)]) [0, 2, 3, 1] rfl ?_
  have e_1 : (0 : Int32) = (nI 0) := rfl
  have e_2 : (0 : Int32) = (hoN hv x 0) := by first | rfl | (simp only [hoN]; done) | (simp [hoN]; done)
  refine v_cong (es' := (wl D b sc ar hn mh G)) (lv' := [(3, .int (nI 0)), (0, .ref (b + 0)), (1, .int x), (2, .int (hoN hv x 0))]) rfl (cg2 (fun (z0 : Int32) (z1 : Int32) => ([(3, .int z0), (0, .ref (b + 0)), (1, .int x), (2, .int z1)] : List (Nat × Value))) e_1 e_2) ?_
  refine loop_dn (P := fun i_4 => V p l e { frames := 0, cells := 0, slots := 0, locals := 0 } s m args below meth c D b 5 (MQ below (cQ D b 0 (fun r es' => r = some (.int (hoN hv x 3)) ∧ (wl D b sc ar hn mh G) = es')) args s 0 0 (fun q => b ≤ q)) 0 0 (wl D b sc ar hn mh G) [(3, .int (nI i_4)), (0, .ref (b + 0)), (1, .int x), (2, .int (hoN hv x i_4))] [] 4) 3 ?_ (fun i_4 hi_4 ih_4 => ?_)
  · skip
    have g_3 : (3 : Int32) ≤ nI 3 := nI_g12
    refine v_iload_n (n := 5) C dX11_hullsOn_4 rfl rfl rfl ?_
    refine v_aload_n (n := 6) C dX11_hullsOn_5 rfl rfl rfl ?_
    refine v_get (n := 9) C dX11_hullsOn_6 rfl fl_X11_15_X11 wl_c0 rfl ?_
    refine v_alenQ (n := 10) (v := 3) C dX11_hullsOn_9 rfl wl_c2 rfl ?_
    refine v_icmp_ge (t := 44) (n := 13) C dX11_hullsOn_10 (by decide) rfl (fun c_4 => ?_) (fun c_4 => ?_)
    · skip
      refine v_iload_n (n := 45) C dX11_hullsOn_44 rfl rfl rfl ?_
      exact v_iret C dX11_hullsOn_45 rfl rfl ⟨by first | rfl | (simp only [hoN, if_pos g_3, if_neg (Int32.not_lt.mpr g_3), if_pos c_4, if_neg (Int32.not_lt.mpr c_4)]; done) | (simp [hoN, g_3, c_4]; done), rfl⟩
    · first | exact absurd c_4 g_3 | exact absurd g_3 c_4 | exact absurd c_4 (Int32.not_le.mpr g_3) | exact absurd c_4 (Int32.not_lt.mpr g_3) | exact absurd (Int32.not_le.mp g_3) c_4 | exact absurd (Int32.not_lt.mp g_3) c_4 | exact absurd (Int32.not_le.mp g_3) (Int32.not_lt.mpr c_4) | exact absurd (Int32.not_lt.mp g_3) (Int32.not_le.mpr c_4) | exact absurd (Int32.not_lt.mp c_4) (Int32.not_le.mpr (Int32.not_le.mp g_3))
  · skip
    have g_5 : ¬ (3 : Int32) ≤ nI i_4 := nI_n12 hi_4 (by decide)
    refine v_iload_n (n := 5) C dX11_hullsOn_4 rfl rfl rfl ?_
    refine v_aload_n (n := 6) C dX11_hullsOn_5 rfl rfl rfl ?_
    refine v_get (n := 9) C dX11_hullsOn_6 rfl fl_X11_15_X11 wl_c0 rfl ?_
    refine v_alenQ (n := 10) (v := 3) C dX11_hullsOn_9 rfl wl_c2 rfl ?_
    refine v_icmp_ge (t := 44) (n := 13) C dX11_hullsOn_10 (by decide) rfl (fun c_6 => ?_) (fun c_6 => ?_)
    · first | exact absurd c_6 g_5 | exact absurd g_5 c_6 | exact absurd c_6 (Int32.not_le.mpr g_5) | exact absurd c_6 (Int32.not_lt.mpr g_5) | exact absurd (Int32.not_le.mp g_5) c_6 | exact absurd (Int32.not_lt.mp g_5) c_6 | exact absurd (Int32.not_le.mp g_5) (Int32.not_lt.mpr c_6) | exact absurd (Int32.not_lt.mp g_5) (Int32.not_le.mpr c_6) | exact absurd (Int32.not_lt.mp c_6) (Int32.not_le.mpr (Int32.not_le.mp g_5))
    · skip
      refine v_aload_n (n := 14) C dX11_hullsOn_13 rfl rfl rfl ?_
      refine v_get (n := 17) C dX11_hullsOn_14 rfl fl_X11_15_X11 wl_c0 rfl ?_
      refine v_iload_n (n := 18) C dX11_hullsOn_17 rfl rfl rfl ?_
      refine v_aald (n := 19) C dX11_hullsOn_18 rfl wl_c2 (nI_vp hi_4 (by decide) (by decide)) ?_
      refine v_stk (st' := va_rf ((hn i_4).map (fun t => b + t)) :: []) (congrArg (fun z : Nat => va_rf ((hn z).map (fun t => b + t)) :: []) (nI_clamp (show i_4 < 2 ^ 31 by omega))) ?_
      rcases q_7 : hv i_4 with _ | ⟨k7, dr7, ce7, sa7⟩
      · skip
        refine v_stk (st' := .null :: []) (congrArg (fun z : Option Nat => va_rf (z.map (fun t => b + t)) :: []) (hr.1 _ q_7)) ?_
        refine v_astoreN (n := 21) (lv' := [(4, .null), (3, .int (nI i_4)), (0, .ref (b + 0)), (1, .int x), (2, .int (hoN hv x i_4))]) C dX11_hullsOn_19 rfl (Nat.le_of_ble_eq_true rfl) rfl ?_
        refine v_aloadN (n := 23) C dX11_hullsOn_21 rfl rfl ?_
        refine v_ifnullN (t := 38) C dX11_hullsOn_23 (by decide) ?_
        refine v_iinc (n := 41) (v := ((nI i_4) + 1)) (lv' := [(3, .int ((nI i_4) + 1)), (4, .null), (0, .ref (b + 0)), (1, .int x), (2, .int (hoN hv x i_4))]) C dX11_hullsOn_38 rfl rfl rfl (Nat.le_of_ble_eq_true rfl) rfl ?_
        refine v_goto (t := 4) C dX11_hullsOn_41 (by decide) ?_
        refine v_pick (lv' := [(3, .int ((nI i_4) + 1)), (0, .ref (b + 0)), (1, .int x), (2, .int (hoN hv x i_4))]) [0, 2, 3, 4] rfl ?_
        have e_8 : ((nI i_4) + 1) = (nI (i_4 + 1)) := nI_1 _
        have e_9 : ((hoN hv x i_4) : Int32) = (hoN hv x (i_4 + 1)) := by first | rfl | (simp only [hoN, if_neg g_5, if_pos (Int32.not_le.mp g_5), if_neg c_6, if_pos (Int32.not_le.mp c_6), q_7]; done) | (simp [hoN, g_5, c_6, q_7]; done)
        refine v_cong (es' := (wl D b sc ar hn mh G)) (lv' := [(3, .int (nI (i_4 + 1))), (0, .ref (b + 0)), (1, .int x), (2, .int (hoN hv x (i_4 + 1)))]) rfl (cg2 (fun (z0 : Int32) (z1 : Int32) => ([(3, .int z0), (0, .ref (b + 0)), (1, .int x), (2, .int z1)] : List (Nat × Value))) e_8 e_9) ?_
        exact ih_4
      · obtain ⟨u7, hu7, hk7, hg7⟩ := hr.2.1 _ _ _ _ _ q_7
        refine v_stk (st' := .ref (b + (u7 + 40)) :: []) (congrArg (fun z : Option Nat => va_rf (z.map (fun t => b + t)) :: []) hu7) ?_
        refine v_astore (n := 21) (lv' := [(4, .ref (b + (u7 + 40))), (3, .int (nI i_4)), (0, .ref (b + 0)), (1, .int x), (2, .int (hoN hv x i_4))]) C dX11_hullsOn_19 rfl (Nat.le_of_ble_eq_true rfl) rfl ?_
        refine v_aload (n := 23) C dX11_hullsOn_21 rfl rfl ?_
        refine v_ifnull (n := 26) C dX11_hullsOn_23 rfl ?_
        refine v_aload (n := 28) C dX11_hullsOn_26 rfl rfl ?_
        refine v_get (n := 31) C dX11_hullsOn_28 rfl (flk_X11_143 hk7) (wl_tail hg7) rfl ?_
        refine v_iload_n (n := 32) C dX11_hullsOn_31 rfl rfl rfl ?_
        refine v_icmp_ne (t := 38) (n := 35) C dX11_hullsOn_32 (by decide) rfl (fun c_10 => ?_) (fun c_10 => ?_)
        · skip
          refine v_iinc (n := 41) (v := ((nI i_4) + 1)) (lv' := [(3, .int ((nI i_4) + 1)), (4, .ref (b + (u7 + 40))), (0, .ref (b + 0)), (1, .int x), (2, .int (hoN hv x i_4))]) C dX11_hullsOn_38 rfl rfl rfl (Nat.le_of_ble_eq_true rfl) rfl ?_
          refine v_goto (t := 4) C dX11_hullsOn_41 (by decide) ?_
          refine v_pick (lv' := [(3, .int ((nI i_4) + 1)), (0, .ref (b + 0)), (1, .int x), (2, .int (hoN hv x i_4))]) [0, 2, 3, 4] rfl ?_
          have e_11 : ((nI i_4) + 1) = (nI (i_4 + 1)) := nI_1 _
          have e_12 : ((hoN hv x i_4) : Int32) = (hoN hv x (i_4 + 1)) := by first | rfl | (simp only [hoN, if_neg g_5, if_pos (Int32.not_le.mp g_5), if_neg c_6, if_pos (Int32.not_le.mp c_6), q_7, if_neg c_10, if_neg (fun h => c_10 (Eq.symm h))]; done) | (simp [hoN, g_5, c_6, q_7, c_10]; done)
          refine v_cong (es' := (wl D b sc ar hn mh G)) (lv' := [(3, .int (nI (i_4 + 1))), (0, .ref (b + 0)), (1, .int x), (2, .int (hoN hv x (i_4 + 1)))]) rfl (cg2 (fun (z0 : Int32) (z1 : Int32) => ([(3, .int z0), (0, .ref (b + 0)), (1, .int x), (2, .int z1)] : List (Nat × Value))) e_11 e_12) ?_
          exact ih_4
        · skip
          refine v_iinc (n := 38) (v := ((hoN hv x i_4) + 1)) (lv' := [(2, .int ((hoN hv x i_4) + 1)), (4, .ref (b + (u7 + 40))), (3, .int (nI i_4)), (0, .ref (b + 0)), (1, .int x)]) C dX11_hullsOn_35 rfl rfl rfl (Nat.le_of_ble_eq_true rfl) rfl ?_
          refine v_iinc (n := 41) (v := ((nI i_4) + 1)) (lv' := [(3, .int ((nI i_4) + 1)), (2, .int ((hoN hv x i_4) + 1)), (4, .ref (b + (u7 + 40))), (0, .ref (b + 0)), (1, .int x)]) C dX11_hullsOn_38 rfl rfl rfl (Nat.le_of_ble_eq_true rfl) rfl ?_
          refine v_goto (t := 4) C dX11_hullsOn_41 (by decide) ?_
          refine v_pick (lv' := [(3, .int ((nI i_4) + 1)), (0, .ref (b + 0)), (1, .int x), (2, .int ((hoN hv x i_4) + 1))]) [0, 3, 4, 1] rfl ?_
          have e_13 : ((nI i_4) + 1) = (nI (i_4 + 1)) := nI_1 _
          have e_14 : (((hoN hv x i_4) + 1) : Int32) = (hoN hv x (i_4 + 1)) := by first | rfl | (simp only [hoN, if_neg g_5, if_pos (Int32.not_le.mp g_5), if_neg c_6, if_pos (Int32.not_le.mp c_6), q_7, if_pos c_10, if_pos (Eq.symm c_10)]; done) | (simp [hoN, g_5, c_6, q_7, c_10]; done)
          refine v_cong (es' := (wl D b sc ar hn mh G)) (lv' := [(3, .int (nI (i_4 + 1))), (0, .ref (b + 0)), (1, .int x), (2, .int (hoN hv x (i_4 + 1)))]) rfl (cg2 (fun (z0 : Int32) (z1 : Int32) => ([(3, .int z0), (0, .ref (b + 0)), (1, .int x), (2, .int z1)] : List (Nat × Value))) e_13 e_14) ?_
          exact ih_4
set_option maxHeartbeats 4000000 in
set_option maxRecDepth 100000 in
theorem c_strandedHulls (l : Launch) (D : va_G) (b : Nat) (sc : Nat → Int32) (ar : Nat → Nat → Int32) (hn : Nat → Option Nat) (mh : Int64) (G : List va_E) (hv : HV) (hr : HVr hn G hv) : Con l yX11_strandedHulls cX11_strandedHulls 4 (some .int) 2 45 D b 0 0 (wl D b sc ar hn mh G) [.ref (b + 0)] (fun r es' => r = some (.int (stN (ar 24) (sc 16) (sc 3) hv 3)) ∧ (wl D b sc ar hn mh G) = es') := by
  refine con_of (by decide) (Nat.le_of_ble_eq_true rfl) (fun p e s m args below meth c C hsz => ?_)
  have C : vC p s m args meth c cX11_strandedHulls 4 RX11 "strandedHulls" (some .int) D b := C
  change V p l e _ s m args below meth c D b 4 _ 0 0 (wl D b sc ar hn mh G) [(0, .ref (b + 0))] [] 0
  refine v_iconst (n := 1) (v := 0) C dX11_strandedHulls_0 rfl (by decide) ?_
  refine v_istore_n (n := 2) (lv' := [(1, .int 0), (0, .ref (b + 0))]) C dX11_strandedHulls_1 rfl rfl (Nat.le_of_ble_eq_true rfl) rfl ?_
  refine v_iconst (n := 3) (v := 0) C dX11_strandedHulls_2 rfl (by decide) ?_
  refine v_istore_n (n := 4) (lv' := [(2, .int 0), (1, .int 0), (0, .ref (b + 0))]) C dX11_strandedHulls_3 rfl rfl (Nat.le_of_ble_eq_true rfl) rfl ?_
  refine v_pick (lv' := [(2, .int 0), (0, .ref (b + 0)), (1, .int 0)]) [0, 2, 1] rfl ?_
  have e_1 : (0 : Int32) = (nI 0) := rfl
  have e_2 : (0 : Int32) = (stN (ar 24) (sc 16) (sc 3) hv 0) := by first | rfl | (simp only [stN]; done) | (simp [stN]; done)
  refine v_cong (es' := (wl D b sc ar hn mh G)) (lv' := [(2, .int (nI 0)), (0, .ref (b + 0)), (1, .int (stN (ar 24) (sc 16) (sc 3) hv 0))]) rfl (cg2 (fun (z0 : Int32) (z1 : Int32) => ([(2, .int z0), (0, .ref (b + 0)), (1, .int z1)] : List (Nat × Value))) e_1 e_2) ?_
  refine loop_dn (P := fun i_4 => V p l e { frames := 2, cells := 0, slots := 0, locals := 45 } s m args below meth c D b 4 (MQ below (cQ D b 0 (fun r es' => r = some (.int (stN (ar 24) (sc 16) (sc 3) hv 3)) ∧ (wl D b sc ar hn mh G) = es')) args s 0 0 (fun q => b ≤ q)) 0 0 (wl D b sc ar hn mh G) [(2, .int (nI i_4)), (0, .ref (b + 0)), (1, .int (stN (ar 24) (sc 16) (sc 3) hv i_4))] [] 4) 3 ?_ (fun i_4 hi_4 ih_4 => ?_)
  · skip
    have g_3 : (3 : Int32) ≤ nI 3 := nI_g12
    refine v_iload_n (n := 5) C dX11_strandedHulls_4 rfl rfl rfl ?_
    refine v_aload_n (n := 6) C dX11_strandedHulls_5 rfl rfl rfl ?_
    refine v_get (n := 9) C dX11_strandedHulls_6 rfl fl_X11_15_X11 wl_c0 rfl ?_
    refine v_alenQ (n := 10) (v := 3) C dX11_strandedHulls_9 rfl wl_c2 rfl ?_
    refine v_icmp_ge (t := 52) (n := 13) C dX11_strandedHulls_10 (by decide) rfl (fun c_4 => ?_) (fun c_4 => ?_)
    · skip
      refine v_iload_n (n := 53) C dX11_strandedHulls_52 rfl rfl rfl ?_
      exact v_iret C dX11_strandedHulls_53 rfl rfl ⟨by first | rfl | (simp only [stN, if_pos g_3, if_neg (Int32.not_lt.mpr g_3), if_pos c_4, if_neg (Int32.not_lt.mpr c_4)]; done) | (simp [stN, g_3, c_4]; done), rfl⟩
    · first | exact absurd c_4 g_3 | exact absurd g_3 c_4 | exact absurd c_4 (Int32.not_le.mpr g_3) | exact absurd c_4 (Int32.not_lt.mpr g_3) | exact absurd (Int32.not_le.mp g_3) c_4 | exact absurd (Int32.not_lt.mp g_3) c_4 | exact absurd (Int32.not_le.mp g_3) (Int32.not_lt.mpr c_4) | exact absurd (Int32.not_lt.mp g_3) (Int32.not_le.mpr c_4) | exact absurd (Int32.not_lt.mp c_4) (Int32.not_le.mpr (Int32.not_le.mp g_3))
  · skip
    have g_5 : ¬ (3 : Int32) ≤ nI i_4 := nI_n12 hi_4 (by decide)
    refine v_iload_n (n := 5) C dX11_strandedHulls_4 rfl rfl rfl ?_
    refine v_aload_n (n := 6) C dX11_strandedHulls_5 rfl rfl rfl ?_
    refine v_get (n := 9) C dX11_strandedHulls_6 rfl fl_X11_15_X11 wl_c0 rfl ?_
    refine v_alenQ (n := 10) (v := 3) C dX11_strandedHulls_9 rfl wl_c2 rfl ?_
    refine v_icmp_ge (t := 52) (n := 13) C dX11_strandedHulls_10 (by decide) rfl (fun c_6 => ?_) (fun c_6 => ?_)
    · first | exact absurd c_6 g_5 | exact absurd g_5 c_6 | exact absurd c_6 (Int32.not_le.mpr g_5) | exact absurd c_6 (Int32.not_lt.mpr g_5) | exact absurd (Int32.not_le.mp g_5) c_6 | exact absurd (Int32.not_lt.mp g_5) c_6 | exact absurd (Int32.not_le.mp g_5) (Int32.not_lt.mpr c_6) | exact absurd (Int32.not_lt.mp g_5) (Int32.not_le.mpr c_6) | exact absurd (Int32.not_lt.mp c_6) (Int32.not_le.mpr (Int32.not_le.mp g_5))
    · skip
      refine v_aload_n (n := 14) C dX11_strandedHulls_13 rfl rfl rfl ?_
      refine v_get (n := 17) C dX11_strandedHulls_14 rfl fl_X11_15_X11 wl_c0 rfl ?_
      refine v_iload_n (n := 18) C dX11_strandedHulls_17 rfl rfl rfl ?_
      refine v_aald (n := 19) C dX11_strandedHulls_18 rfl wl_c2 (nI_vp hi_4 (by decide) (by decide)) ?_
      refine v_stk (st' := va_rf ((hn i_4).map (fun t => b + t)) :: []) (congrArg (fun z : Nat => va_rf ((hn z).map (fun t => b + t)) :: []) (nI_clamp (show i_4 < 2 ^ 31 by omega))) ?_
      rcases q_7 : hv i_4 with _ | ⟨k7, dr7, ce7, sa7⟩
      · skip
        refine v_stk (st' := .null :: []) (congrArg (fun z : Option Nat => va_rf (z.map (fun t => b + t)) :: []) (hr.1 _ q_7)) ?_
        refine v_astore_nN (n := 20) (lv' := [(3, .null), (2, .int (nI i_4)), (0, .ref (b + 0)), (1, .int (stN (ar 24) (sc 16) (sc 3) hv i_4))]) C dX11_strandedHulls_19 rfl rfl (Nat.le_of_ble_eq_true rfl) rfl ?_
        refine v_aload_nN (n := 21) C dX11_strandedHulls_20 rfl rfl rfl ?_
        refine v_ifnullN (t := 46) C dX11_strandedHulls_21 (by decide) ?_
        refine v_iinc (n := 49) (v := ((nI i_4) + 1)) (lv' := [(2, .int ((nI i_4) + 1)), (3, .null), (0, .ref (b + 0)), (1, .int (stN (ar 24) (sc 16) (sc 3) hv i_4))]) C dX11_strandedHulls_46 rfl rfl rfl (Nat.le_of_ble_eq_true rfl) rfl ?_
        refine v_goto (t := 4) C dX11_strandedHulls_49 (by decide) ?_
        refine v_pick (lv' := [(2, .int ((nI i_4) + 1)), (0, .ref (b + 0)), (1, .int (stN (ar 24) (sc 16) (sc 3) hv i_4))]) [0, 2, 3] rfl ?_
        have e_8 : ((nI i_4) + 1) = (nI (i_4 + 1)) := nI_1 _
        have e_9 : ((stN (ar 24) (sc 16) (sc 3) hv i_4) : Int32) = (stN (ar 24) (sc 16) (sc 3) hv (i_4 + 1)) := by first | rfl | (simp only [stN, if_neg g_5, if_pos (Int32.not_le.mp g_5), if_neg c_6, if_pos (Int32.not_le.mp c_6), q_7]; done) | (simp [stN, g_5, c_6, q_7]; done)
        refine v_cong (es' := (wl D b sc ar hn mh G)) (lv' := [(2, .int (nI (i_4 + 1))), (0, .ref (b + 0)), (1, .int (stN (ar 24) (sc 16) (sc 3) hv (i_4 + 1)))]) rfl (cg2 (fun (z0 : Int32) (z1 : Int32) => ([(2, .int z0), (0, .ref (b + 0)), (1, .int z1)] : List (Nat × Value))) e_8 e_9) ?_
        exact ih_4
      · obtain ⟨u7, hu7, hk7, hg7⟩ := hr.2.1 _ _ _ _ _ q_7
        refine v_stk (st' := .ref (b + (u7 + 40)) :: []) (congrArg (fun z : Option Nat => va_rf (z.map (fun t => b + t)) :: []) hu7) ?_
        refine v_astore_n (n := 20) (lv' := [(3, .ref (b + (u7 + 40))), (2, .int (nI i_4)), (0, .ref (b + 0)), (1, .int (stN (ar 24) (sc 16) (sc 3) hv i_4))]) C dX11_strandedHulls_19 rfl rfl (Nat.le_of_ble_eq_true rfl) rfl ?_
        refine v_aload_n (n := 21) C dX11_strandedHulls_20 rfl rfl rfl ?_
        refine v_ifnull (n := 24) C dX11_strandedHulls_21 rfl ?_
        refine v_aload_n (n := 25) C dX11_strandedHulls_24 rfl rfl rfl ?_
        refine v_get (n := 28) C dX11_strandedHulls_25 rfl fl_X11_59_X11 wl_c0 rfl ?_
        refine v_aload_n (n := 29) C dX11_strandedHulls_28 rfl rfl rfl ?_
        refine v_aload_n (n := 30) C dX11_strandedHulls_29 rfl rfl rfl ?_
        refine v_get (n := 33) C dX11_strandedHulls_30 rfl (flk_X11_143 hk7) (wl_tail hg7) rfl ?_
        refine v_aload_n (n := 34) C dX11_strandedHulls_33 rfl rfl rfl ?_
        refine v_get (n := 37) C dX11_strandedHulls_34 rfl fl_X11_106_X11 wl_c0 rfl ?_
        refine v_go (n := 40) C (vRun_V (As := [.ref (b + (u7 + 40)), .int ce7, .int (sc 3)]) (rest := []) C wl_c25 rfl lk_X11_146 im_X7_floats se_X7_floats dX11_strandedHulls_37 (c_floats l D b (wl D b sc ar hn mh G) 25 24 (ar 24) (sc 16) (sc 17) wl_c25 wl_c24 (u7 + 40) k7 dr7 ce7 sa7 hk7 (wl_tail hg7) ce7 (sc 3)) wm_X7_floats rfl rfl ⟨Nat.le_of_ble_eq_true rfl, Nat.le_of_ble_eq_true rfl⟩ ⟨Nat.le_of_ble_eq_true rfl, Nat.le_of_ble_eq_true rfl⟩ (Nat.le_of_ble_eq_true rfl)) rfl ?_
        rintro _ _ ⟨rfl, rfl⟩ -
        by_cases p_10 : flP (ar 24) (sc 16) k7 dr7 ce7 (sc 3)
        · skip
          refine v_stk (st' := .int 1 :: []) (congrArg (fun z : Int32 => Value.int z :: []) (if_pos p_10 : (if flP (ar 24) (sc 16) k7 dr7 ce7 (sc 3) then (1 : Int32) else 0) = 1)) ?_
          refine v_if_ne (t := 46) (n := 43) C dX11_strandedHulls_40 (by decide) rfl (fun c_11 => ?_) (fun c_11 => ?_)
          · skip
            refine v_iinc (n := 49) (v := ((nI i_4) + 1)) (lv' := [(2, .int ((nI i_4) + 1)), (3, .ref (b + (u7 + 40))), (0, .ref (b + 0)), (1, .int (stN (ar 24) (sc 16) (sc 3) hv i_4))]) C dX11_strandedHulls_46 rfl rfl rfl (Nat.le_of_ble_eq_true rfl) rfl ?_
            refine v_goto (t := 4) C dX11_strandedHulls_49 (by decide) ?_
            refine v_pick (lv' := [(2, .int ((nI i_4) + 1)), (0, .ref (b + 0)), (1, .int (stN (ar 24) (sc 16) (sc 3) hv i_4))]) [0, 2, 3] rfl ?_
            have e_12 : ((nI i_4) + 1) = (nI (i_4 + 1)) := nI_1 _
            have e_13 : ((stN (ar 24) (sc 16) (sc 3) hv i_4) : Int32) = (stN (ar 24) (sc 16) (sc 3) hv (i_4 + 1)) := by first | rfl | (simp only [stN, if_neg g_5, if_pos (Int32.not_le.mp g_5), if_neg c_6, if_pos (Int32.not_le.mp c_6), q_7, if_pos p_10, if_neg c_11]; done) | (simp [stN, g_5, c_6, q_7, p_10, c_11]; done)
            refine v_cong (es' := (wl D b sc ar hn mh G)) (lv' := [(2, .int (nI (i_4 + 1))), (0, .ref (b + 0)), (1, .int (stN (ar 24) (sc 16) (sc 3) hv (i_4 + 1)))]) rfl (cg2 (fun (z0 : Int32) (z1 : Int32) => ([(2, .int z0), (0, .ref (b + 0)), (1, .int z1)] : List (Nat × Value))) e_12 e_13) ?_
            exact ih_4
          · exact absurd c_11 (by decide)
        · skip
          refine v_stk (st' := .int 0 :: []) (congrArg (fun z : Int32 => Value.int z :: []) (if_neg p_10 : (if flP (ar 24) (sc 16) k7 dr7 ce7 (sc 3) then (1 : Int32) else 0) = 0)) ?_
          refine v_if_ne (t := 46) (n := 43) C dX11_strandedHulls_40 (by decide) rfl (fun c_14 => ?_) (fun c_14 => ?_)
          · exact absurd c_14 (by decide)
          · skip
            refine v_iinc (n := 46) (v := ((stN (ar 24) (sc 16) (sc 3) hv i_4) + 1)) (lv' := [(1, .int ((stN (ar 24) (sc 16) (sc 3) hv i_4) + 1)), (3, .ref (b + (u7 + 40))), (2, .int (nI i_4)), (0, .ref (b + 0))]) C dX11_strandedHulls_43 rfl rfl rfl (Nat.le_of_ble_eq_true rfl) rfl ?_
            refine v_iinc (n := 49) (v := ((nI i_4) + 1)) (lv' := [(2, .int ((nI i_4) + 1)), (1, .int ((stN (ar 24) (sc 16) (sc 3) hv i_4) + 1)), (3, .ref (b + (u7 + 40))), (0, .ref (b + 0))]) C dX11_strandedHulls_46 rfl rfl rfl (Nat.le_of_ble_eq_true rfl) rfl ?_
            refine v_goto (t := 4) C dX11_strandedHulls_49 (by decide) ?_
            refine v_pick (lv' := [(2, .int ((nI i_4) + 1)), (0, .ref (b + 0)), (1, .int ((stN (ar 24) (sc 16) (sc 3) hv i_4) + 1))]) [0, 3, 1] rfl ?_
            have e_15 : ((nI i_4) + 1) = (nI (i_4 + 1)) := nI_1 _
            have e_16 : (((stN (ar 24) (sc 16) (sc 3) hv i_4) + 1) : Int32) = (stN (ar 24) (sc 16) (sc 3) hv (i_4 + 1)) := by first | rfl | (simp only [stN, if_neg g_5, if_pos (Int32.not_le.mp g_5), if_neg c_6, if_pos (Int32.not_le.mp c_6), q_7, if_neg p_10, if_pos c_14]; done) | (simp [stN, g_5, c_6, q_7, p_10, c_14]; done)
            refine v_cong (es' := (wl D b sc ar hn mh G)) (lv' := [(2, .int (nI (i_4 + 1))), (0, .ref (b + 0)), (1, .int (stN (ar 24) (sc 16) (sc 3) hv (i_4 + 1)))]) rfl (cg2 (fun (z0 : Int32) (z1 : Int32) => ([(2, .int z0), (0, .ref (b + 0)), (1, .int z1)] : List (Nat × Value))) e_15 e_16) ?_
            exact ih_4
set_option maxHeartbeats 4000000 in
set_option maxRecDepth 100000 in
theorem c_cutCells (l : Launch) (D : va_G) (b : Nat) (sc : Nat → Int32) (ar : Nat → Nat → Int32) (hn : Nat → Option Nat) (mh : Int64) (G : List va_E)  : Con l yX11_cutCells cX11_cutCells 3 (some .int) 1 21 D b 0 0 (wl D b sc ar hn mh G) [.ref (b + 0)] (fun r es' => r = some (.int (cuF (sc 16) (sc 3))) ∧ (wl D b sc ar hn mh G) = es') := by
  refine con_of (by decide) (Nat.le_of_ble_eq_true rfl) (fun p e s m args below meth c C hsz => ?_)
  have C : vC p s m args meth c cX11_cutCells 3 RX11 "cutCells" (some .int) D b := C
  change V p l e _ s m args below meth c D b 3 _ 0 0 (wl D b sc ar hn mh G) [(0, .ref (b + 0))] [] 0
  refine v_aload_n (n := 1) C dX11_cutCells_0 rfl rfl rfl ?_
  refine v_go (n := 4) C (vRun_V (As := []) (rest := []) C wl_c0 rfl lk_X11_119 im_X11_hasPlain se_X11_hasPlain dX11_cutCells_1 (c_hasPlain l D b sc ar hn mh G) wm_X11_hasPlain rfl rfl ⟨Nat.le_of_ble_eq_true rfl, Nat.le_of_ble_eq_true rfl⟩ ⟨Nat.le_of_ble_eq_true rfl, Nat.le_of_ble_eq_true rfl⟩ (Nat.le_of_ble_eq_true rfl)) rfl ?_
  rintro _ _ ⟨rfl, rfl⟩ -
  by_cases p_1 : (sc 16) ≤ 0
  · skip
    refine v_stk (st' := .int 0 :: []) (congrArg (fun z : Int32 => Value.int z :: []) (show hpF (sc 16) = 0 by simp only [hpF, if_pos p_1])) ?_
    refine v_if_ne (t := 9) (n := 7) C dX11_cutCells_4 (by decide) rfl (fun c_2 => ?_) (fun c_2 => ?_)
    · exact absurd c_2 (by decide)
    · skip
      refine v_iconst (n := 8) (v := 0) C dX11_cutCells_7 rfl (by decide) ?_
      exact v_iret C dX11_cutCells_8 rfl rfl ⟨by first | rfl | (simp only [cuF, if_pos p_1, if_neg (Int32.not_lt.mpr p_1), if_pos c_2]; done) | (simp [cuF, p_1, c_2]; done), rfl⟩
  refine v_stk (st' := .int 1 :: []) (congrArg (fun z : Int32 => Value.int z :: []) (show hpF (sc 16) = 1 by simp only [hpF, if_neg p_1])) ?_
  refine v_if_ne (t := 9) (n := 7) C dX11_cutCells_4 (by decide) rfl (fun c_3 => ?_) (fun c_3 => ?_)
  · skip
    refine v_iconst (n := 10) (v := 0) C dX11_cutCells_9 rfl (by decide) ?_
    refine v_istore_n (n := 11) (lv' := [(1, .int 0), (0, .ref (b + 0))]) C dX11_cutCells_10 rfl rfl (Nat.le_of_ble_eq_true rfl) rfl ?_
    refine v_iconst (n := 12) (v := 0) C dX11_cutCells_11 rfl (by decide) ?_
    refine v_istore_n (n := 13) (lv' := [(2, .int 0), (1, .int 0), (0, .ref (b + 0))]) C dX11_cutCells_12 rfl rfl (Nat.le_of_ble_eq_true rfl) rfl ?_
    refine v_pick (lv' := [(2, .int 0), (0, .ref (b + 0)), (1, .int 0)]) [0, 2, 1] rfl ?_
    have e_4 : (0 : Int32) = (nI 0) := rfl
    have e_5 : (0 : Int32) = (cuN (sc 16) (sc 3) 0) := by first | rfl | (simp only [cuN, if_neg p_1, if_pos (Int32.not_le.mp p_1), if_neg c_3]; done) | (simp [cuN, p_1, c_3]; done)
    refine v_cong (es' := (wl D b sc ar hn mh G)) (lv' := [(2, .int (nI 0)), (0, .ref (b + 0)), (1, .int (cuN (sc 16) (sc 3) 0))]) rfl (cg2 (fun (z0 : Int32) (z1 : Int32) => ([(2, .int z0), (0, .ref (b + 0)), (1, .int z1)] : List (Nat × Value))) e_4 e_5) ?_
    refine loop_dn (P := fun i_13 => V p l e { frames := 1, cells := 0, slots := 0, locals := 21 } s m args below meth c D b 3 (MQ below (cQ D b 0 (fun r es' => r = some (.int (cuF (sc 16) (sc 3))) ∧ (wl D b sc ar hn mh G) = es')) args s 0 0 (fun q => b ≤ q)) 0 0 (wl D b sc ar hn mh G) [(2, .int (nI i_13)), (0, .ref (b + 0)), (1, .int (cuN (sc 16) (sc 3) i_13))] [] 13) 12 ?_ (fun i_13 hi_13 ih_13 => ?_)
    · skip
      have g_6 : (12 : Int32) ≤ nI 12 := nI_g12
      refine v_iload_n (n := 14) C dX11_cutCells_13 rfl rfl rfl ?_
      refine v_bipush (n := 16) (v := 12) C dX11_cutCells_14 rfl (by decide) ?_
      refine v_icmp_ge (t := 43) (n := 19) C dX11_cutCells_16 (by decide) rfl (fun c_7 => ?_) (fun c_7 => ?_)
      · skip
        refine v_iload_n (n := 44) C dX11_cutCells_43 rfl rfl rfl ?_
        exact v_iret C dX11_cutCells_44 rfl rfl ⟨by first | rfl | (simp only [cuF, if_neg p_1, if_pos (Int32.not_le.mp p_1), if_neg c_3, if_pos g_6, if_neg (Int32.not_lt.mpr g_6), if_pos c_7, if_neg (Int32.not_lt.mpr c_7)]; done) | (simp [cuF, p_1, c_3, g_6, c_7]; done), rfl⟩
      · first | exact absurd c_7 g_6 | exact absurd g_6 c_7 | exact absurd c_7 (Int32.not_le.mpr g_6) | exact absurd c_7 (Int32.not_lt.mpr g_6) | exact absurd (Int32.not_le.mp g_6) c_7 | exact absurd (Int32.not_lt.mp g_6) c_7 | exact absurd (Int32.not_le.mp g_6) (Int32.not_lt.mpr c_7) | exact absurd (Int32.not_lt.mp g_6) (Int32.not_le.mpr c_7) | exact absurd (Int32.not_lt.mp c_7) (Int32.not_le.mpr (Int32.not_le.mp g_6))
    · skip
      have g_8 : ¬ (12 : Int32) ≤ nI i_13 := nI_n12 hi_13 (by decide)
      refine v_iload_n (n := 14) C dX11_cutCells_13 rfl rfl rfl ?_
      refine v_bipush (n := 16) (v := 12) C dX11_cutCells_14 rfl (by decide) ?_
      refine v_icmp_ge (t := 43) (n := 19) C dX11_cutCells_16 (by decide) rfl (fun c_9 => ?_) (fun c_9 => ?_)
      · first | exact absurd c_9 g_8 | exact absurd g_8 c_9 | exact absurd c_9 (Int32.not_le.mpr g_8) | exact absurd c_9 (Int32.not_lt.mpr g_8) | exact absurd (Int32.not_le.mp g_8) c_9 | exact absurd (Int32.not_lt.mp g_8) c_9 | exact absurd (Int32.not_le.mp g_8) (Int32.not_lt.mpr c_9) | exact absurd (Int32.not_lt.mp g_8) (Int32.not_le.mpr c_9) | exact absurd (Int32.not_lt.mp c_9) (Int32.not_le.mpr (Int32.not_le.mp g_8))
      · skip
        refine v_aload_n (n := 20) C dX11_cutCells_19 rfl rfl rfl ?_
        refine v_get (n := 23) C dX11_cutCells_20 rfl fl_X11_106_X11 wl_c0 rfl ?_
        refine v_aload_n (n := 24) C dX11_cutCells_23 rfl rfl rfl ?_
        refine v_get (n := 27) C dX11_cutCells_24 rfl fl_X11_59_X11 wl_c0 rfl ?_
        refine v_iload_n (n := 28) C dX11_cutCells_27 rfl rfl rfl ?_
        refine v_go (n := 31) C (vRun_V (As := [.int (nI i_13)]) (rest := [.int (sc 3)]) C wl_c25 rfl lk_X11_113 im_X7_cutHour se_X7_cutHour dX11_cutCells_28 (c_cutHour l D b (wl D b sc ar hn mh G) 25 24 (ar 24) (sc 16) (sc 17) wl_c25 wl_c24 (nI i_13)) wm_X7_cutHour rfl rfl ⟨Nat.le_of_ble_eq_true rfl, Nat.le_of_ble_eq_true rfl⟩ ⟨Nat.le_of_ble_eq_true rfl, Nat.le_of_ble_eq_true rfl⟩ (Nat.le_of_ble_eq_true rfl)) rfl ?_
        rintro _ _ ⟨rfl, rfl⟩ -
        refine v_icmp_lt (t := 37) (n := 34) C dX11_cutCells_31 (by decide) rfl (fun c_10 => ?_) (fun c_10 => ?_)
        · skip
          refine v_iinc (n := 40) (v := ((nI i_13) + 1)) (lv' := [(2, .int ((nI i_13) + 1)), (0, .ref (b + 0)), (1, .int (cuN (sc 16) (sc 3) i_13))]) C dX11_cutCells_37 rfl rfl rfl (Nat.le_of_ble_eq_true rfl) rfl ?_
          refine v_goto (t := 13) C dX11_cutCells_40 (by decide) ?_
          refine v_pick (lv' := [(2, .int ((nI i_13) + 1)), (0, .ref (b + 0)), (1, .int (cuN (sc 16) (sc 3) i_13))]) [0, 1, 2] rfl ?_
          have e_11 : ((nI i_13) + 1) = (nI (i_13 + 1)) := nI_1 _
          have e_12 : ((cuN (sc 16) (sc 3) i_13) : Int32) = (cuN (sc 16) (sc 3) (i_13 + 1)) := by first | rfl | (simp only [cuN, if_neg p_1, if_pos (Int32.not_le.mp p_1), if_neg c_3, if_neg g_8, if_pos (Int32.not_le.mp g_8), if_neg c_9, if_pos (Int32.not_le.mp c_9), if_pos c_10, if_neg (Int32.not_le.mpr c_10)]; done) | (simp [cuN, p_1, c_3, g_8, c_9, c_10]; done)
          refine v_cong (es' := (wl D b sc ar hn mh G)) (lv' := [(2, .int (nI (i_13 + 1))), (0, .ref (b + 0)), (1, .int (cuN (sc 16) (sc 3) (i_13 + 1)))]) rfl (cg2 (fun (z0 : Int32) (z1 : Int32) => ([(2, .int z0), (0, .ref (b + 0)), (1, .int z1)] : List (Nat × Value))) e_11 e_12) ?_
          exact ih_13
        · skip
          refine v_iinc (n := 37) (v := ((cuN (sc 16) (sc 3) i_13) + 1)) (lv' := [(1, .int ((cuN (sc 16) (sc 3) i_13) + 1)), (2, .int (nI i_13)), (0, .ref (b + 0))]) C dX11_cutCells_34 rfl rfl rfl (Nat.le_of_ble_eq_true rfl) rfl ?_
          refine v_iinc (n := 40) (v := ((nI i_13) + 1)) (lv' := [(2, .int ((nI i_13) + 1)), (1, .int ((cuN (sc 16) (sc 3) i_13) + 1)), (0, .ref (b + 0))]) C dX11_cutCells_37 rfl rfl rfl (Nat.le_of_ble_eq_true rfl) rfl ?_
          refine v_goto (t := 13) C dX11_cutCells_40 (by decide) ?_
          refine v_pick (lv' := [(2, .int ((nI i_13) + 1)), (0, .ref (b + 0)), (1, .int ((cuN (sc 16) (sc 3) i_13) + 1))]) [0, 2, 1] rfl ?_
          have e_13 : ((nI i_13) + 1) = (nI (i_13 + 1)) := nI_1 _
          have e_14 : (((cuN (sc 16) (sc 3) i_13) + 1) : Int32) = (cuN (sc 16) (sc 3) (i_13 + 1)) := by first | rfl | (simp only [cuN, if_neg p_1, if_pos (Int32.not_le.mp p_1), if_neg c_3, if_neg g_8, if_pos (Int32.not_le.mp g_8), if_neg c_9, if_pos (Int32.not_le.mp c_9), if_neg c_10, if_pos (Int32.not_lt.mp c_10)]; done) | (simp [cuN, p_1, c_3, g_8, c_9, c_10]; done)
          refine v_cong (es' := (wl D b sc ar hn mh G)) (lv' := [(2, .int (nI (i_13 + 1))), (0, .ref (b + 0)), (1, .int (cuN (sc 16) (sc 3) (i_13 + 1)))]) rfl (cg2 (fun (z0 : Int32) (z1 : Int32) => ([(2, .int z0), (0, .ref (b + 0)), (1, .int z1)] : List (Nat × Value))) e_13 e_14) ?_
          exact ih_13
  · exact absurd c_3 (by decide)
end
section
/-- a chart: hours and first ways -/
abbrev HF : Type := (Nat → Int32) × (Nat → Int32)
def arS (q : HF) (c w fi : Int32) : HF := if c < 0 then q else if 12 ≤ c then q else
  if q.1 c.toNatClampNeg = -1 then (upd q.1 c.toNatClampNeg w, upd q.2 c.toNatClampNeg fi) else
  if w < q.1 c.toNatClampNeg then (upd q.1 c.toNatClampNeg w, upd q.2 c.toNatClampNeg fi) else
  if w = q.1 c.toNatClampNeg then (if fi < q.2 c.toNatClampNeg then (upd q.1 c.toNatClampNeg w, upd q.2 c.toNatClampNeg fi) else q) else q
def soN (f : Nat → Int32) (rp wd : Int32) (k : Nat) (dr c : Int32) (q : HF) : Nat → HF
  | 0 => q
  | i + 1 => if htF f rp wd k dr c (nI i) ((soN f rp wd k dr c q i).1 c.toNatClampNeg) = -1 then soN f rp wd k dr c q i else
    arS (soN f rp wd k dr c q i) (beF c (nI i)) ((soN f rp wd k dr c q i).1 c.toNatClampNeg + htF f rp wd k dr c (nI i) ((soN f rp wd k dr c q i).1 c.toNatClampNeg)) (if (soN f rp wd k dr c q i).2 c.toNatClampNeg = -1 then nI i else (soN f rp wd k dr c q i).2 c.toNatClampNeg)
def soF (f : Nat → Int32) (rp wd : Int32) (k : Nat) (dr c : Int32) (q : HF) : HF := if c < 0 then q else if 12 ≤ c then q else soN f rp wd k dr c q 4
/-- the soonest open cell -/
def spN (h : Nat → Int32) (sd : Int32) : Nat → Int32
  | 0 => -1
  | i + 1 => if (sd >>> (nI i &&& 31)) &&& 1 = 0 then (if h i = -1 then spN h sd i else if spN h sd i = -1 then nI i else if h i < h (spN h sd i).toNatClampNeg then nI i else spN h sd i) else spN h sd i
theorem spN_bd (h : Nat → Int32) (sd : Int32) : ∀ i, i ≤ 12 → spN h sd i = -1 ∨ ∃ j, j < i ∧ spN h sd i = nI j := by
  intro i
  induction i with
  | zero => intro _; exact Or.inl rfl
  | succ i ih =>
    intro hi
    have ih := ih (by omega)
    have hw : spN h sd i = -1 ∨ ∃ j, j < i + 1 ∧ spN h sd i = nI j := by
      rcases ih with ih | ⟨j, hj, e⟩
      · exact Or.inl ih
      · exact Or.inr ⟨j, by omega, e⟩
    rw [spN]
    split
    · split
      · exact hw
      · split
        · exact Or.inr ⟨i, by omega, rfl⟩
        · split
          · exact Or.inr ⟨i, by omega, rfl⟩
          · exact hw
    · exact hw
theorem spN_vp {h : Nat → Int32} {sd : Int32} {i : Nat} (hi : i < 12) (hne : ¬ spN h sd i = -1) : vp_in (spN h sd i) 12 := by
  rcases spN_bd h sd i (by omega) with e | ⟨j, hj, e⟩
  · exact absurd e hne
  · rw [e]; exact vp_in_nI (by omega) (by decide)
/-- the plot: chart, settled, next -/
def fillN (x : Int32) (f : Nat → Int32) : Nat → Nat → Int32
  | 0 => f
  | i + 1 => upd (fillN x f i) i x
def plN (f : Nat → Int32) (rp wd : Int32) (k : Nat) (dr : Int32) (q : HF) (fr : Int32) : Nat → HF × Int32 × Int32
  | 0 => (q, 0, fr)
  | i + 1 => if (plN f rp wd k dr q fr i).2.2 = -1 then plN f rp wd k dr q fr i else
    (soF f rp wd k dr (plN f rp wd k dr q fr i).2.2 (plN f rp wd k dr q fr i).1, (plN f rp wd k dr q fr i).2.1 ||| ((1 : Int32) <<< ((plN f rp wd k dr q fr i).2.2 &&& 31)), spN (soF f rp wd k dr (plN f rp wd k dr q fr i).2.2 (plN f rp wd k dr q fr i).1).1 ((plN f rp wd k dr q fr i).2.1 ||| ((1 : Int32) <<< ((plN f rp wd k dr q fr i).2.2 &&& 31))) 12)
def plF (f : Nat → Int32) (rp wd : Int32) (k : Nat) (dr : Int32) (q : HF) (fr now : Int32) : HF := if fr < 0 then (fillN (-1) q.1 12, fillN (-1) q.2 12) else if 12 ≤ fr then (fillN (-1) q.1 12, fillN (-1) q.2 12) else (plN f rp wd k dr (upd (fillN (-1) q.1 12) fr.toNatClampNeg now, fillN (-1) q.2 12) fr 12).1
theorem plN_stop {f : Nat → Int32} {rp wd : Int32} {k : Nat} {dr : Int32} {q : HF} {fr : Int32} {i : Nat} (h : (plN f rp wd k dr q fr i).2.2 = -1) : ∀ n, plN f rp wd k dr q fr (i + n) = plN f rp wd k dr q fr i := by
  intro n
  induction n with
  | zero => rfl
  | succ n ih => rw [← Nat.add_assoc, plN, ih, if_pos h]
theorem plN_end {f : Nat → Int32} {rp wd : Int32} {k : Nat} {dr : Int32} {q : HF} {fr : Int32} {i : Nat} (hi : i < 12) (h : (plN f rp wd k dr q fr i).2.2 = -1) : plN f rp wd k dr q fr 12 = plN f rp wd k dr q fr i := by
  have := plN_stop h (12 - i)
  rwa [show i + (12 - i) = 12 by omega] at this
def atF (f : Nat → Int32) (x : Int32) : Int32 := if x < 0 then -1 else if 12 ≤ x then -1 else f x.toNatClampNeg
set_option maxHeartbeats 4000000 in
set_option maxRecDepth 100000 in
theorem c_hourAt (l : Launch) (D : va_G) (b : Nat) (sc : Nat → Int32) (ar : Nat → Nat → Int32) (hn : Nat → Option Nat) (mh : Int64) (G : List va_E) (x : Int32) : Con l yX0_hourAt cX0_hourAt 2 (some .int) 1 20 D b 0 0 (wl D b sc ar hn mh G) [.ref (b + 18), .int x] (fun r es' => r = some (.int (atF (ar 19) x)) ∧ (wl D b sc ar hn mh G) = es') := by
  refine con_of (by decide) (Nat.le_of_ble_eq_true rfl) (fun p e s m args below meth c C hsz => ?_)
  have C : vC p s m args meth c cX0_hourAt 2 RX0 "hourAt" (some .int) D b := C
  change V p l e _ s m args below meth c D b 2 _ 0 0 (wl D b sc ar hn mh G) [(0, .ref (b + 18)), (1, .int x)] [] 0
  refine v_iload_n (n := 1) C dX0_hourAt_0 rfl rfl rfl ?_
  refine v_go (n := 4) C (vRun_SN (As := [.int x]) (rest := []) C lk_X0_18 st_X11_isCell dX0_hourAt_1 (c_isCell l D b (wl D b sc ar hn mh G) x) wm_X11_isCell rfl rfl ⟨Nat.le_of_ble_eq_true rfl, Nat.le_of_ble_eq_true rfl⟩ ⟨Nat.le_of_ble_eq_true rfl, Nat.le_of_ble_eq_true rfl⟩ (Nat.le_of_ble_eq_true rfl)) rfl ?_
  rintro _ _ ⟨rfl, rfl⟩ -
  by_cases p_1 : x < 0
  · skip
    refine v_stk (st' := .int 0 :: []) (congrArg (fun z : Int32 => Value.int z :: []) (show icF x = 0 by simp only [icF, if_pos p_1])) ?_
    refine v_if_eq (t := 16) (n := 7) C dX0_hourAt_4 (by decide) rfl (fun c_2 => ?_) (fun c_2 => ?_)
    · skip
      refine v_iconst (n := 17) (v := -1) C dX0_hourAt_16 rfl (by decide) ?_
      exact v_iret C dX0_hourAt_17 rfl rfl ⟨by first | rfl | (simp only [atF, if_pos p_1, if_neg (Int32.not_le.mpr p_1), if_pos c_2]; done) | (simp [atF, p_1, c_2]; done), rfl⟩
    · exact absurd c_2 (by decide)
  by_cases p_3 : 12 ≤ x
  · skip
    refine v_stk (st' := .int 0 :: []) (congrArg (fun z : Int32 => Value.int z :: []) (show icF x = 0 by simp only [icF, if_neg p_1, if_pos p_3])) ?_
    refine v_if_eq (t := 16) (n := 7) C dX0_hourAt_4 (by decide) rfl (fun c_4 => ?_) (fun c_4 => ?_)
    · skip
      refine v_iconst (n := 17) (v := -1) C dX0_hourAt_16 rfl (by decide) ?_
      exact v_iret C dX0_hourAt_17 rfl rfl ⟨by first | rfl | (simp only [atF, if_neg p_1, if_pos (Int32.not_lt.mp p_1), if_pos p_3, if_neg (Int32.not_lt.mpr p_3), if_pos c_4]; done) | (simp [atF, p_1, p_3, c_4]; done), rfl⟩
    · exact absurd c_4 (by decide)
  refine v_stk (st' := .int 1 :: []) (congrArg (fun z : Int32 => Value.int z :: []) (show icF x = 1 by simp only [icF, if_neg p_1, if_neg p_3])) ?_
  refine v_if_eq (t := 16) (n := 7) C dX0_hourAt_4 (by decide) rfl (fun c_5 => ?_) (fun c_5 => ?_)
  · exact absurd c_5 (by decide)
  · skip
    refine v_aload_n (n := 8) C dX0_hourAt_7 rfl rfl rfl ?_
    refine v_get (n := 11) C dX0_hourAt_8 rfl fl_X0_9_X0 wl_c18 rfl ?_
    refine v_iload_n (n := 12) C dX0_hourAt_11 rfl rfl rfl ?_
    refine v_iald (n := 13) C dX0_hourAt_12 rfl wl_c19 (vp_b (Int32.not_lt.mp p_1) (Int32.not_le.mp p_3) (by decide)) ?_
    refine v_goto (t := 17) C dX0_hourAt_13 (by decide) ?_
    exact v_iret C dX0_hourAt_17 rfl rfl ⟨by first | rfl | (simp only [atF, if_neg p_1, if_pos (Int32.not_lt.mp p_1), if_neg p_3, if_pos (Int32.not_le.mp p_3), if_neg c_5]; done) | (simp [atF, p_1, p_3, c_5]; done), rfl⟩
set_option maxHeartbeats 4000000 in
set_option maxRecDepth 100000 in
theorem c_firstWayTo (l : Launch) (D : va_G) (b : Nat) (sc : Nat → Int32) (ar : Nat → Nat → Int32) (hn : Nat → Option Nat) (mh : Int64) (G : List va_E) (x : Int32) : Con l yX0_firstWayTo cX0_firstWayTo 2 (some .int) 1 20 D b 0 0 (wl D b sc ar hn mh G) [.ref (b + 18), .int x] (fun r es' => r = some (.int (atF (ar 20) x)) ∧ (wl D b sc ar hn mh G) = es') := by
  refine con_of (by decide) (Nat.le_of_ble_eq_true rfl) (fun p e s m args below meth c C hsz => ?_)
  have C : vC p s m args meth c cX0_firstWayTo 2 RX0 "firstWayTo" (some .int) D b := C
  change V p l e _ s m args below meth c D b 2 _ 0 0 (wl D b sc ar hn mh G) [(0, .ref (b + 18)), (1, .int x)] [] 0
  refine v_iload_n (n := 1) C dX0_firstWayTo_0 rfl rfl rfl ?_
  refine v_go (n := 4) C (vRun_SN (As := [.int x]) (rest := []) C lk_X0_18 st_X11_isCell dX0_firstWayTo_1 (c_isCell l D b (wl D b sc ar hn mh G) x) wm_X11_isCell rfl rfl ⟨Nat.le_of_ble_eq_true rfl, Nat.le_of_ble_eq_true rfl⟩ ⟨Nat.le_of_ble_eq_true rfl, Nat.le_of_ble_eq_true rfl⟩ (Nat.le_of_ble_eq_true rfl)) rfl ?_
  rintro _ _ ⟨rfl, rfl⟩ -
  by_cases p_1 : x < 0
  · skip
    refine v_stk (st' := .int 0 :: []) (congrArg (fun z : Int32 => Value.int z :: []) (show icF x = 0 by simp only [icF, if_pos p_1])) ?_
    refine v_if_eq (t := 16) (n := 7) C dX0_firstWayTo_4 (by decide) rfl (fun c_2 => ?_) (fun c_2 => ?_)
    · skip
      refine v_iconst (n := 17) (v := -1) C dX0_firstWayTo_16 rfl (by decide) ?_
      exact v_iret C dX0_firstWayTo_17 rfl rfl ⟨by first | rfl | (simp only [atF, if_pos p_1, if_neg (Int32.not_le.mpr p_1), if_pos c_2]; done) | (simp [atF, p_1, c_2]; done), rfl⟩
    · exact absurd c_2 (by decide)
  by_cases p_3 : 12 ≤ x
  · skip
    refine v_stk (st' := .int 0 :: []) (congrArg (fun z : Int32 => Value.int z :: []) (show icF x = 0 by simp only [icF, if_neg p_1, if_pos p_3])) ?_
    refine v_if_eq (t := 16) (n := 7) C dX0_firstWayTo_4 (by decide) rfl (fun c_4 => ?_) (fun c_4 => ?_)
    · skip
      refine v_iconst (n := 17) (v := -1) C dX0_firstWayTo_16 rfl (by decide) ?_
      exact v_iret C dX0_firstWayTo_17 rfl rfl ⟨by first | rfl | (simp only [atF, if_neg p_1, if_pos (Int32.not_lt.mp p_1), if_pos p_3, if_neg (Int32.not_lt.mpr p_3), if_pos c_4]; done) | (simp [atF, p_1, p_3, c_4]; done), rfl⟩
    · exact absurd c_4 (by decide)
  refine v_stk (st' := .int 1 :: []) (congrArg (fun z : Int32 => Value.int z :: []) (show icF x = 1 by simp only [icF, if_neg p_1, if_neg p_3])) ?_
  refine v_if_eq (t := 16) (n := 7) C dX0_firstWayTo_4 (by decide) rfl (fun c_5 => ?_) (fun c_5 => ?_)
  · exact absurd c_5 (by decide)
  · skip
    refine v_aload_n (n := 8) C dX0_firstWayTo_7 rfl rfl rfl ?_
    refine v_get (n := 11) C dX0_firstWayTo_8 rfl fl_X0_15_X0 wl_c18 rfl ?_
    refine v_iload_n (n := 12) C dX0_firstWayTo_11 rfl rfl rfl ?_
    refine v_iald (n := 13) C dX0_firstWayTo_12 rfl wl_c20 (vp_b (Int32.not_lt.mp p_1) (Int32.not_le.mp p_3) (by decide)) ?_
    refine v_goto (t := 17) C dX0_firstWayTo_13 (by decide) ?_
    exact v_iret C dX0_firstWayTo_17 rfl rfl ⟨by first | rfl | (simp only [atF, if_neg p_1, if_pos (Int32.not_lt.mp p_1), if_neg p_3, if_pos (Int32.not_le.mp p_3), if_neg c_5]; done) | (simp [atF, p_1, p_3, c_5]; done), rfl⟩
set_option maxHeartbeats 4000000 in
set_option maxRecDepth 100000 in
theorem c_arrive (l : Launch) (D : va_G) (b : Nat) (sc : Nat → Int32) (ar : Nat → Nat → Int32) (hn : Nat → Option Nat) (mh : Int64) (G : List va_E) (q : HF) (x w fi : Int32) : Con l yX0_arrive cX0_arrive 5 none 1 20 D b 0 0 (wl D b sc (va_up (va_up ar 19 (q).1) 20 (q).2) hn mh G) [.ref (b + 18), .int x, .int w, .int fi] (fun r es' => r = none ∧ wl D b sc (va_up (va_up ar 19 (arS q x w fi).1) 20 (arS q x w fi).2) hn mh G = es') := by
  refine con_of (by decide) (Nat.le_of_ble_eq_true rfl) (fun p e s m args below meth c C hsz => ?_)
  have C : vC p s m args meth c cX0_arrive 5 RX0 "arrive" none D b := C
  change V p l e _ s m args below meth c D b 5 _ 0 0 (wl D b sc (va_up (va_up ar 19 (q).1) 20 (q).2) hn mh G) [(0, .ref (b + 18)), (1, .int x), (2, .int w), (3, .int fi)] [] 0
  refine v_iload_n (n := 1) C dX0_arrive_0 rfl rfl rfl ?_
  refine v_go (n := 4) C (vRun_SN (As := [.int x]) (rest := []) C lk_X0_18 st_X11_isCell dX0_arrive_1 (c_isCell l D b (wl D b sc (va_up (va_up ar 19 (q).1) 20 (q).2) hn mh G) x) wm_X11_isCell rfl rfl ⟨Nat.le_of_ble_eq_true rfl, Nat.le_of_ble_eq_true rfl⟩ ⟨Nat.le_of_ble_eq_true rfl, Nat.le_of_ble_eq_true rfl⟩ (Nat.le_of_ble_eq_true rfl)) rfl ?_
  rintro _ _ ⟨rfl, rfl⟩ -
  by_cases p_1 : x < 0
  · skip
    refine v_stk (st' := .int 0 :: []) (congrArg (fun z : Int32 => Value.int z :: []) (show icF x = 0 by simp only [icF, if_pos p_1])) ?_
    refine v_if_ne (t := 8) (n := 7) C dX0_arrive_4 (by decide) rfl (fun c_2 => ?_) (fun c_2 => ?_)
    · exact absurd c_2 (by decide)
    · skip
      exact v_vret C dX0_arrive_7 rfl ⟨rfl, by first | (simp only [arS, if_pos p_1, if_neg (Int32.not_le.mpr p_1), if_pos c_2]; done) | simp [arS, p_1, c_2]⟩
  by_cases p_3 : 12 ≤ x
  · skip
    refine v_stk (st' := .int 0 :: []) (congrArg (fun z : Int32 => Value.int z :: []) (show icF x = 0 by simp only [icF, if_neg p_1, if_pos p_3])) ?_
    refine v_if_ne (t := 8) (n := 7) C dX0_arrive_4 (by decide) rfl (fun c_4 => ?_) (fun c_4 => ?_)
    · exact absurd c_4 (by decide)
    · skip
      exact v_vret C dX0_arrive_7 rfl ⟨rfl, by first | (simp only [arS, if_neg p_1, if_pos (Int32.not_lt.mp p_1), if_pos p_3, if_neg (Int32.not_lt.mpr p_3), if_pos c_4]; done) | simp [arS, p_1, p_3, c_4]⟩
  refine v_stk (st' := .int 1 :: []) (congrArg (fun z : Int32 => Value.int z :: []) (show icF x = 1 by simp only [icF, if_neg p_1, if_neg p_3])) ?_
  refine v_if_ne (t := 8) (n := 7) C dX0_arrive_4 (by decide) rfl (fun c_5 => ?_) (fun c_5 => ?_)
  · skip
    refine v_aload_n (n := 9) C dX0_arrive_8 rfl rfl rfl ?_
    refine v_get (n := 12) C dX0_arrive_9 rfl fl_X0_9_X0 wl_c18 rfl ?_
    refine v_iload_n (n := 13) C dX0_arrive_12 rfl rfl rfl ?_
    refine v_iald (n := 14) C dX0_arrive_13 rfl (show (wl D b sc (va_up (va_up ar 19 (q).1) 20 (q).2) hn mh G)[19]? = some (.inl (D.1 13, 12, .inl (q).1)) from wl_c19) (vp_b (Int32.not_lt.mp p_1) (Int32.not_le.mp p_3) (by decide)) ?_
    refine v_iconst (n := 15) (v := -1) C dX0_arrive_14 rfl (by decide) ?_
    refine v_icmp_eq (t := 28) (n := 18) C dX0_arrive_15 (by decide) rfl (fun c_6 => ?_) (fun c_6 => ?_)
    · skip
      refine v_iconst (n := 29) (v := 1) C dX0_arrive_28 rfl (by decide) ?_
      refine v_goto (t := 33) C dX0_arrive_29 (by decide) ?_
      refine v_istore (n := 35) (lv' := [(4, .int 1), (0, .ref (b + 18)), (1, .int x), (2, .int w), (3, .int fi)]) C dX0_arrive_33 rfl (Nat.le_of_ble_eq_true rfl) rfl ?_
      refine v_iload (n := 37) C dX0_arrive_35 rfl rfl ?_
      refine v_if_ne (t := 60) (n := 40) C dX0_arrive_37 (by decide) rfl (fun c_7 => ?_) (fun c_7 => ?_)
      · skip
        refine v_aload_n (n := 61) C dX0_arrive_60 rfl rfl rfl ?_
        refine v_get (n := 64) C dX0_arrive_61 rfl fl_X0_9_X0 wl_c18 rfl ?_
        refine v_iload_n (n := 65) C dX0_arrive_64 rfl rfl rfl ?_
        refine v_iload_n (n := 66) C dX0_arrive_65 rfl rfl rfl ?_
        refine v_iast (n := 67) (es' := (wl D b sc (va_up (va_up ar 19 (upd (q).1 (Int32.toNatClampNeg x) w)) 20 (q).2) hn mh G)) C dX0_arrive_66 rfl (show (wl D b sc (va_up (va_up ar 19 (q).1) 20 (q).2) hn mh G)[19]? = some (.inl (D.1 13, 12, .inl (q).1)) from wl_c19) (vp_b (Int32.not_lt.mp p_1) (Int32.not_le.mp p_3) (by decide)) rfl ?_
        refine v_aload_n (n := 68) C dX0_arrive_67 rfl rfl rfl ?_
        refine v_get (n := 71) C dX0_arrive_68 rfl fl_X0_15_X0 wl_c18 rfl ?_
        refine v_iload_n (n := 72) C dX0_arrive_71 rfl rfl rfl ?_
        refine v_iload_n (n := 73) C dX0_arrive_72 rfl rfl rfl ?_
        refine v_iast (n := 74) (es' := (wl D b sc (va_up (va_up ar 19 (upd (q).1 (Int32.toNatClampNeg x) w)) 20 (upd (q).2 (Int32.toNatClampNeg x) fi)) hn mh G)) C dX0_arrive_73 rfl (show (wl D b sc (va_up (va_up ar 19 (upd (q).1 (Int32.toNatClampNeg x) w)) 20 (q).2) hn mh G)[20]? = some (.inl (D.1 13, 12, .inl (q).2)) from wl_c20) (vp_b (Int32.not_lt.mp p_1) (Int32.not_le.mp p_3) (by decide)) rfl ?_
        exact v_vret C dX0_arrive_74 rfl ⟨rfl, by first | (simp only [arS, if_neg p_1, if_pos (Int32.not_lt.mp p_1), if_neg p_3, if_pos (Int32.not_le.mp p_3), if_neg c_5, if_pos c_6, if_neg c_7]; done) | simp [arS, p_1, p_3, c_5, c_6, c_7]⟩
      · exact absurd c_7 (by decide)
    · skip
      refine v_iload_n (n := 19) C dX0_arrive_18 rfl rfl rfl ?_
      refine v_aload_n (n := 20) C dX0_arrive_19 rfl rfl rfl ?_
      refine v_get (n := 23) C dX0_arrive_20 rfl fl_X0_9_X0 wl_c18 rfl ?_
      refine v_iload_n (n := 24) C dX0_arrive_23 rfl rfl rfl ?_
      refine v_iald (n := 25) C dX0_arrive_24 rfl (show (wl D b sc (va_up (va_up ar 19 (q).1) 20 (q).2) hn mh G)[19]? = some (.inl (D.1 13, 12, .inl (q).1)) from wl_c19) (vp_b (Int32.not_lt.mp p_1) (Int32.not_le.mp p_3) (by decide)) ?_
      refine v_icmp_ge (t := 32) (n := 28) C dX0_arrive_25 (by decide) rfl (fun c_8 => ?_) (fun c_8 => ?_)
      · skip
        refine v_iconst (n := 33) (v := 0) C dX0_arrive_32 rfl (by decide) ?_
        refine v_istore (n := 35) (lv' := [(4, .int 0), (0, .ref (b + 18)), (1, .int x), (2, .int w), (3, .int fi)]) C dX0_arrive_33 rfl (Nat.le_of_ble_eq_true rfl) rfl ?_
        refine v_iload (n := 37) C dX0_arrive_35 rfl rfl ?_
        refine v_if_ne (t := 60) (n := 40) C dX0_arrive_37 (by decide) rfl (fun c_9 => ?_) (fun c_9 => ?_)
        · exact absurd c_9 (by decide)
        · skip
          refine v_iload_n (n := 41) C dX0_arrive_40 rfl rfl rfl ?_
          refine v_aload_n (n := 42) C dX0_arrive_41 rfl rfl rfl ?_
          refine v_get (n := 45) C dX0_arrive_42 rfl fl_X0_9_X0 wl_c18 rfl ?_
          refine v_iload_n (n := 46) C dX0_arrive_45 rfl rfl rfl ?_
          refine v_iald (n := 47) C dX0_arrive_46 rfl (show (wl D b sc (va_up (va_up ar 19 (q).1) 20 (q).2) hn mh G)[19]? = some (.inl (D.1 13, 12, .inl (q).1)) from wl_c19) (vp_b (Int32.not_lt.mp p_1) (Int32.not_le.mp p_3) (by decide)) ?_
          refine v_icmp_ne (t := 74) (n := 50) C dX0_arrive_47 (by decide) rfl (fun c_10 => ?_) (fun c_10 => ?_)
          · skip
            exact v_vret C dX0_arrive_74 rfl ⟨rfl, by first | (simp only [arS, if_neg p_1, if_pos (Int32.not_lt.mp p_1), if_neg p_3, if_pos (Int32.not_le.mp p_3), if_neg c_5, if_neg c_6, if_pos c_8, if_neg (Int32.not_lt.mpr c_8), if_pos c_9, if_neg c_10, if_neg (fun h => c_10 (Eq.symm h))]; done) | simp [arS, p_1, p_3, c_5, c_6, c_8, c_9, c_10]⟩
          · skip
            refine v_iload_n (n := 51) C dX0_arrive_50 rfl rfl rfl ?_
            refine v_aload_n (n := 52) C dX0_arrive_51 rfl rfl rfl ?_
            refine v_get (n := 55) C dX0_arrive_52 rfl fl_X0_15_X0 wl_c18 rfl ?_
            refine v_iload_n (n := 56) C dX0_arrive_55 rfl rfl rfl ?_
            refine v_iald (n := 57) C dX0_arrive_56 rfl (show (wl D b sc (va_up (va_up ar 19 (q).1) 20 (q).2) hn mh G)[20]? = some (.inl (D.1 13, 12, .inl (q).2)) from wl_c20) (vp_b (Int32.not_lt.mp p_1) (Int32.not_le.mp p_3) (by decide)) ?_
            refine v_icmp_ge (t := 74) (n := 60) C dX0_arrive_57 (by decide) rfl (fun c_11 => ?_) (fun c_11 => ?_)
            · skip
              exact v_vret C dX0_arrive_74 rfl ⟨rfl, by first | (simp only [arS, if_neg p_1, if_pos (Int32.not_lt.mp p_1), if_neg p_3, if_pos (Int32.not_le.mp p_3), if_neg c_5, if_neg c_6, if_pos c_8, if_neg (Int32.not_lt.mpr c_8), if_pos c_9, if_pos c_10, if_pos (Eq.symm c_10), if_pos c_11, if_neg (Int32.not_lt.mpr c_11)]; done) | simp [arS, p_1, p_3, c_5, c_6, c_8, c_9, c_10, c_11]⟩
            · skip
              refine v_aload_n (n := 61) C dX0_arrive_60 rfl rfl rfl ?_
              refine v_get (n := 64) C dX0_arrive_61 rfl fl_X0_9_X0 wl_c18 rfl ?_
              refine v_iload_n (n := 65) C dX0_arrive_64 rfl rfl rfl ?_
              refine v_iload_n (n := 66) C dX0_arrive_65 rfl rfl rfl ?_
              refine v_iast (n := 67) (es' := (wl D b sc (va_up (va_up ar 19 (upd (q).1 (Int32.toNatClampNeg x) w)) 20 (q).2) hn mh G)) C dX0_arrive_66 rfl (show (wl D b sc (va_up (va_up ar 19 (q).1) 20 (q).2) hn mh G)[19]? = some (.inl (D.1 13, 12, .inl (q).1)) from wl_c19) (vp_b (Int32.not_lt.mp p_1) (Int32.not_le.mp p_3) (by decide)) rfl ?_
              refine v_aload_n (n := 68) C dX0_arrive_67 rfl rfl rfl ?_
              refine v_get (n := 71) C dX0_arrive_68 rfl fl_X0_15_X0 wl_c18 rfl ?_
              refine v_iload_n (n := 72) C dX0_arrive_71 rfl rfl rfl ?_
              refine v_iload_n (n := 73) C dX0_arrive_72 rfl rfl rfl ?_
              refine v_iast (n := 74) (es' := (wl D b sc (va_up (va_up ar 19 (upd (q).1 (Int32.toNatClampNeg x) w)) 20 (upd (q).2 (Int32.toNatClampNeg x) fi)) hn mh G)) C dX0_arrive_73 rfl (show (wl D b sc (va_up (va_up ar 19 (upd (q).1 (Int32.toNatClampNeg x) w)) 20 (q).2) hn mh G)[20]? = some (.inl (D.1 13, 12, .inl (q).2)) from wl_c20) (vp_b (Int32.not_lt.mp p_1) (Int32.not_le.mp p_3) (by decide)) rfl ?_
              exact v_vret C dX0_arrive_74 rfl ⟨rfl, by first | (simp only [arS, if_neg p_1, if_pos (Int32.not_lt.mp p_1), if_neg p_3, if_pos (Int32.not_le.mp p_3), if_neg c_5, if_neg c_6, if_pos c_8, if_neg (Int32.not_lt.mpr c_8), if_pos c_9, if_pos c_10, if_pos (Eq.symm c_10), if_neg c_11, if_pos (Int32.not_le.mp c_11)]; done) | simp [arS, p_1, p_3, c_5, c_6, c_8, c_9, c_10, c_11]⟩
      · skip
        refine v_iconst (n := 29) (v := 1) C dX0_arrive_28 rfl (by decide) ?_
        refine v_goto (t := 33) C dX0_arrive_29 (by decide) ?_
        refine v_istore (n := 35) (lv' := [(4, .int 1), (0, .ref (b + 18)), (1, .int x), (2, .int w), (3, .int fi)]) C dX0_arrive_33 rfl (Nat.le_of_ble_eq_true rfl) rfl ?_
        refine v_iload (n := 37) C dX0_arrive_35 rfl rfl ?_
        refine v_if_ne (t := 60) (n := 40) C dX0_arrive_37 (by decide) rfl (fun c_12 => ?_) (fun c_12 => ?_)
        · skip
          refine v_aload_n (n := 61) C dX0_arrive_60 rfl rfl rfl ?_
          refine v_get (n := 64) C dX0_arrive_61 rfl fl_X0_9_X0 wl_c18 rfl ?_
          refine v_iload_n (n := 65) C dX0_arrive_64 rfl rfl rfl ?_
          refine v_iload_n (n := 66) C dX0_arrive_65 rfl rfl rfl ?_
          refine v_iast (n := 67) (es' := (wl D b sc (va_up (va_up ar 19 (upd (q).1 (Int32.toNatClampNeg x) w)) 20 (q).2) hn mh G)) C dX0_arrive_66 rfl (show (wl D b sc (va_up (va_up ar 19 (q).1) 20 (q).2) hn mh G)[19]? = some (.inl (D.1 13, 12, .inl (q).1)) from wl_c19) (vp_b (Int32.not_lt.mp p_1) (Int32.not_le.mp p_3) (by decide)) rfl ?_
          refine v_aload_n (n := 68) C dX0_arrive_67 rfl rfl rfl ?_
          refine v_get (n := 71) C dX0_arrive_68 rfl fl_X0_15_X0 wl_c18 rfl ?_
          refine v_iload_n (n := 72) C dX0_arrive_71 rfl rfl rfl ?_
          refine v_iload_n (n := 73) C dX0_arrive_72 rfl rfl rfl ?_
          refine v_iast (n := 74) (es' := (wl D b sc (va_up (va_up ar 19 (upd (q).1 (Int32.toNatClampNeg x) w)) 20 (upd (q).2 (Int32.toNatClampNeg x) fi)) hn mh G)) C dX0_arrive_73 rfl (show (wl D b sc (va_up (va_up ar 19 (upd (q).1 (Int32.toNatClampNeg x) w)) 20 (q).2) hn mh G)[20]? = some (.inl (D.1 13, 12, .inl (q).2)) from wl_c20) (vp_b (Int32.not_lt.mp p_1) (Int32.not_le.mp p_3) (by decide)) rfl ?_
          exact v_vret C dX0_arrive_74 rfl ⟨rfl, by first | (simp only [arS, if_neg p_1, if_pos (Int32.not_lt.mp p_1), if_neg p_3, if_pos (Int32.not_le.mp p_3), if_neg c_5, if_neg c_6, if_neg c_8, if_pos (Int32.not_le.mp c_8), if_neg c_12]; done) | simp [arS, p_1, p_3, c_5, c_6, c_8, c_12]⟩
        · exact absurd c_12 (by decide)
  · exact absurd c_5 (by decide)
set_option maxHeartbeats 4000000 in
set_option maxRecDepth 100000 in
theorem c_sailOnFrom (l : Launch) (D : va_G) (b : Nat) (sc : Nat → Int32) (ar : Nat → Nat → Int32) (hn : Nat → Option Nat) (mh : Int64) (G : List va_E) (q : HF) (qs : Nat) (rp wd : Int32) (hs : ∀ ar, (wl D b sc ar hn mh G)[qs]? = some (.inr (7, [.ref (b + 24), .int rp, .int wd]))) (u k : Nat) (dr ce sa : Int32) (hk : k < 5) (hg : G[u]? = some (hcl k dr ce sa)) (x : Int32) : Con l yX0_sailOnFrom cX0_sailOnFrom 7 none 3 71 D b 0 0 (wl D b sc (va_up (va_up ar 19 (q).1) 20 (q).2) hn mh G) [.ref (b + 18), .ref (b + qs), .ref (b + (u + 40)), .int x] (fun r es' => r = none ∧ wl D b sc (va_up (va_up ar 19 (soF (ar 24) rp wd k dr x q).1) 20 (soF (ar 24) rp wd k dr x q).2) hn mh G = es') := by
  refine con_of (by decide) (Nat.le_of_ble_eq_true rfl) (fun p e s m args below meth c C hsz => ?_)
  have C : vC p s m args meth c cX0_sailOnFrom 7 RX0 "sailOnFrom" none D b := C
  change V p l e _ s m args below meth c D b 7 _ 0 0 (wl D b sc (va_up (va_up ar 19 (q).1) 20 (q).2) hn mh G) [(0, .ref (b + 18)), (1, .ref (b + qs)), (2, .ref (b + (u + 40))), (3, .int x)] [] 0
  refine v_iload_n (n := 1) C dX0_sailOnFrom_0 rfl rfl rfl ?_
  refine v_go (n := 4) C (vRun_SN (As := [.int x]) (rest := []) C lk_X0_18 st_X11_isCell dX0_sailOnFrom_1 (c_isCell l D b (wl D b sc (va_up (va_up ar 19 (q).1) 20 (q).2) hn mh G) x) wm_X11_isCell rfl rfl ⟨Nat.le_of_ble_eq_true rfl, Nat.le_of_ble_eq_true rfl⟩ ⟨Nat.le_of_ble_eq_true rfl, Nat.le_of_ble_eq_true rfl⟩ (Nat.le_of_ble_eq_true rfl)) rfl ?_
  rintro _ _ ⟨rfl, rfl⟩ -
  by_cases p_1 : x < 0
  · skip
    refine v_stk (st' := .int 0 :: []) (congrArg (fun z : Int32 => Value.int z :: []) (show icF x = 0 by simp only [icF, if_pos p_1])) ?_
    refine v_if_ne (t := 8) (n := 7) C dX0_sailOnFrom_4 (by decide) rfl (fun c_2 => ?_) (fun c_2 => ?_)
    · exact absurd c_2 (by decide)
    · skip
      exact v_vret C dX0_sailOnFrom_7 rfl ⟨rfl, by first | (simp only [soF, if_pos p_1, if_neg (Int32.not_le.mpr p_1), if_pos c_2]; done) | simp [soF, p_1, c_2]⟩
  by_cases p_3 : 12 ≤ x
  · skip
    refine v_stk (st' := .int 0 :: []) (congrArg (fun z : Int32 => Value.int z :: []) (show icF x = 0 by simp only [icF, if_neg p_1, if_pos p_3])) ?_
    refine v_if_ne (t := 8) (n := 7) C dX0_sailOnFrom_4 (by decide) rfl (fun c_4 => ?_) (fun c_4 => ?_)
    · exact absurd c_4 (by decide)
    · skip
      exact v_vret C dX0_sailOnFrom_7 rfl ⟨rfl, by first | (simp only [soF, if_neg p_1, if_pos (Int32.not_lt.mp p_1), if_pos p_3, if_neg (Int32.not_lt.mpr p_3), if_pos c_4]; done) | simp [soF, p_1, p_3, c_4]⟩
  refine v_stk (st' := .int 1 :: []) (congrArg (fun z : Int32 => Value.int z :: []) (show icF x = 1 by simp only [icF, if_neg p_1, if_neg p_3])) ?_
  refine v_if_ne (t := 8) (n := 7) C dX0_sailOnFrom_4 (by decide) rfl (fun c_5 => ?_) (fun c_5 => ?_)
  · skip
    refine v_iconst (n := 9) (v := 0) C dX0_sailOnFrom_8 rfl (by decide) ?_
    refine v_istore (n := 11) (lv' := [(4, .int 0), (0, .ref (b + 18)), (1, .ref (b + qs)), (2, .ref (b + (u + 40))), (3, .int x)]) C dX0_sailOnFrom_9 rfl (Nat.le_of_ble_eq_true rfl) rfl ?_
    refine v_pick (lv' := [(4, .int 0), (0, .ref (b + 18)), (1, .ref (b + qs)), (2, .ref (b + (u + 40))), (3, .int x)]) [0, 1, 2, 3, 4] rfl ?_
    have e_6 : (0 : Int32) = (nI 0) := rfl
    have w_7 : (wl D b sc (va_up (va_up ar 19 (q).1) 20 (q).2) hn mh G) = (wl D b sc (va_up (va_up ar 19 (soN (ar 24) rp wd k dr x q 0).1) 20 (soN (ar 24) rp wd k dr x q 0).2) hn mh G) := by first | rfl | (simp only [soN, if_neg p_1, if_pos (Int32.not_lt.mp p_1), if_neg p_3, if_pos (Int32.not_le.mp p_3), if_neg c_5] <;> rfl) | rfl | (simp only [soN, if_neg p_1, if_pos (Int32.not_lt.mp p_1), if_neg p_3, if_pos (Int32.not_le.mp p_3), if_neg c_5]; done) | (simp [soN, p_1, p_3, c_5]; done)
    refine v_cong (es' := (wl D b sc (va_up (va_up ar 19 (soN (ar 24) rp wd k dr x q 0).1) 20 (soN (ar 24) rp wd k dr x q 0).2) hn mh G)) (lv' := [(4, .int (nI 0)), (0, .ref (b + 18)), (1, .ref (b + qs)), (2, .ref (b + (u + 40))), (3, .int x)]) w_7 (cg1 (fun (z0 : Int32) => ([(4, .int z0), (0, .ref (b + 18)), (1, .ref (b + qs)), (2, .ref (b + (u + 40))), (3, .int x)] : List (Nat × Value))) e_6) ?_
    refine loop_dn (P := fun i_11 => V p l e { frames := 3, cells := 0, slots := 0, locals := 71 } s m args below meth c D b 7 (MQ below (cQ D b 0 (fun r es' => r = none ∧ wl D b sc (va_up (va_up ar 19 (soF (ar 24) rp wd k dr x q).1) 20 (soF (ar 24) rp wd k dr x q).2) hn mh G = es')) args s 0 0 (fun q => b ≤ q)) 0 0 (wl D b sc (va_up (va_up ar 19 (soN (ar 24) rp wd k dr x q i_11).1) 20 (soN (ar 24) rp wd k dr x q i_11).2) hn mh G) [(4, .int (nI i_11)), (0, .ref (b + 18)), (1, .ref (b + qs)), (2, .ref (b + (u + 40))), (3, .int x)] [] 11) 4 ?_ (fun i_11 hi_11 ih_11 => ?_)
    · skip
      have g_8 : (4 : Int32) ≤ nI 4 := nI_g12
      refine v_iload (n := 13) C dX0_sailOnFrom_11 rfl rfl ?_
      refine v_iconst (n := 14) (v := 4) C dX0_sailOnFrom_13 rfl (by decide) ?_
      refine v_icmp_ge (t := 89) (n := 17) C dX0_sailOnFrom_14 (by decide) rfl (fun c_9 => ?_) (fun c_9 => ?_)
      · skip
        exact v_vret C dX0_sailOnFrom_89 rfl ⟨rfl, by first | (simp only [soF, if_neg p_1, if_pos (Int32.not_lt.mp p_1), if_neg p_3, if_pos (Int32.not_le.mp p_3), if_neg c_5, if_pos g_8, if_neg (Int32.not_lt.mpr g_8), if_pos c_9, if_neg (Int32.not_lt.mpr c_9)]; done) | simp [soF, p_1, p_3, c_5, g_8, c_9]⟩
      · first | exact absurd c_9 g_8 | exact absurd g_8 c_9 | exact absurd c_9 (Int32.not_le.mpr g_8) | exact absurd c_9 (Int32.not_lt.mpr g_8) | exact absurd (Int32.not_le.mp g_8) c_9 | exact absurd (Int32.not_lt.mp g_8) c_9 | exact absurd (Int32.not_le.mp g_8) (Int32.not_lt.mpr c_9) | exact absurd (Int32.not_lt.mp g_8) (Int32.not_le.mpr c_9) | exact absurd (Int32.not_lt.mp c_9) (Int32.not_le.mpr (Int32.not_le.mp g_8))
    · skip
      have g_10 : ¬ (4 : Int32) ≤ nI i_11 := nI_n12 hi_11 (by decide)
      refine v_iload (n := 13) C dX0_sailOnFrom_11 rfl rfl ?_
      refine v_iconst (n := 14) (v := 4) C dX0_sailOnFrom_13 rfl (by decide) ?_
      refine v_icmp_ge (t := 89) (n := 17) C dX0_sailOnFrom_14 (by decide) rfl (fun c_11 => ?_) (fun c_11 => ?_)
      · first | exact absurd c_11 g_10 | exact absurd g_10 c_11 | exact absurd c_11 (Int32.not_le.mpr g_10) | exact absurd c_11 (Int32.not_lt.mpr g_10) | exact absurd (Int32.not_le.mp g_10) c_11 | exact absurd (Int32.not_lt.mp g_10) c_11 | exact absurd (Int32.not_le.mp g_10) (Int32.not_lt.mpr c_11) | exact absurd (Int32.not_lt.mp g_10) (Int32.not_le.mpr c_11) | exact absurd (Int32.not_lt.mp c_11) (Int32.not_le.mpr (Int32.not_le.mp g_10))
      · skip
        refine v_aload_n (n := 18) C dX0_sailOnFrom_17 rfl rfl rfl ?_
        refine v_aload_n (n := 19) C dX0_sailOnFrom_18 rfl rfl rfl ?_
        refine v_iload_n (n := 20) C dX0_sailOnFrom_19 rfl rfl rfl ?_
        refine v_iload (n := 22) C dX0_sailOnFrom_20 rfl rfl ?_
        refine v_aload_n (n := 23) C dX0_sailOnFrom_22 rfl rfl rfl ?_
        refine v_get (n := 26) C dX0_sailOnFrom_23 rfl fl_X0_9_X0 wl_c18 rfl ?_
        refine v_iload_n (n := 27) C dX0_sailOnFrom_26 rfl rfl rfl ?_
        refine v_iald (n := 28) C dX0_sailOnFrom_27 rfl (show (wl D b sc (va_up (va_up ar 19 (soN (ar 24) rp wd k dr x q i_11).1) 20 (soN (ar 24) rp wd k dr x q i_11).2) hn mh G)[19]? = some (.inl (D.1 13, 12, .inl (soN (ar 24) rp wd k dr x q i_11).1)) from wl_c19) (vp_b (Int32.not_lt.mp p_1) (Int32.not_le.mp p_3) (by decide)) ?_
        refine v_go (n := 31) C (vRun_V (As := [.ref (b + (u + 40)), .int x, .int (nI i_11), .int ((soN (ar 24) rp wd k dr x q i_11).1 (Int32.toNatClampNeg x))]) (rest := []) C (hs _) rfl lk_X0_30 im_X7_hoursToSail se_X7_hoursToSail dX0_sailOnFrom_28 (c_hoursToSail l D b (wl D b sc (va_up (va_up ar 19 (soN (ar 24) rp wd k dr x q i_11).1) 20 (soN (ar 24) rp wd k dr x q i_11).2) hn mh G) qs 24 (ar 24) rp wd (hs _) (show (wl D b sc (va_up (va_up ar 19 (soN (ar 24) rp wd k dr x q i_11).1) 20 (soN (ar 24) rp wd k dr x q i_11).2) hn mh G)[24]? = some (.inl (D.1 13, 12, .inl (ar 24))) from wl_c24) (u + 40) k dr ce sa hk (wl_tail hg) x (nI i_11) ((soN (ar 24) rp wd k dr x q i_11).1 (Int32.toNatClampNeg x))) wm_X7_hoursToSail rfl rfl ⟨Nat.le_of_ble_eq_true rfl, Nat.le_of_ble_eq_true rfl⟩ ⟨Nat.le_of_ble_eq_true rfl, Nat.le_of_ble_eq_true rfl⟩ (Nat.le_of_ble_eq_true rfl)) rfl ?_
        rintro _ _ ⟨rfl, rfl⟩ -
        refine v_istore (n := 33) (lv' := [(5, .int (htF (ar 24) rp wd k dr x (nI i_11) ((soN (ar 24) rp wd k dr x q i_11).1 (Int32.toNatClampNeg x)))), (4, .int (nI i_11)), (0, .ref (b + 18)), (1, .ref (b + qs)), (2, .ref (b + (u + 40))), (3, .int x)]) C dX0_sailOnFrom_31 rfl (Nat.le_of_ble_eq_true rfl) rfl ?_
        refine v_iload (n := 35) C dX0_sailOnFrom_33 rfl rfl ?_
        refine v_iconst (n := 36) (v := -1) C dX0_sailOnFrom_35 rfl (by decide) ?_
        refine v_icmp_eq (t := 83) (n := 39) C dX0_sailOnFrom_36 (by decide) rfl (fun c_12 => ?_) (fun c_12 => ?_)
        · skip
          refine v_iinc (n := 86) (v := ((nI i_11) + 1)) (lv' := [(4, .int ((nI i_11) + 1)), (5, .int (htF (ar 24) rp wd k dr x (nI i_11) ((soN (ar 24) rp wd k dr x q i_11).1 (Int32.toNatClampNeg x)))), (0, .ref (b + 18)), (1, .ref (b + qs)), (2, .ref (b + (u + 40))), (3, .int x)]) C dX0_sailOnFrom_83 rfl rfl rfl (Nat.le_of_ble_eq_true rfl) rfl ?_
          refine v_goto (t := 11) C dX0_sailOnFrom_86 (by decide) ?_
          refine v_pick (lv' := [(4, .int ((nI i_11) + 1)), (0, .ref (b + 18)), (1, .ref (b + qs)), (2, .ref (b + (u + 40))), (3, .int x)]) [0, 2, 3, 4, 5] rfl ?_
          have e_13 : ((nI i_11) + 1) = (nI (i_11 + 1)) := nI_1 _
          have w_14 : (wl D b sc (va_up (va_up ar 19 (soN (ar 24) rp wd k dr x q i_11).1) 20 (soN (ar 24) rp wd k dr x q i_11).2) hn mh G) = (wl D b sc (va_up (va_up ar 19 (soN (ar 24) rp wd k dr x q (i_11 + 1)).1) 20 (soN (ar 24) rp wd k dr x q (i_11 + 1)).2) hn mh G) := by first | rfl | (simp only [soN, if_neg p_1, if_pos (Int32.not_lt.mp p_1), if_neg p_3, if_pos (Int32.not_le.mp p_3), if_neg c_5, if_neg g_10, if_pos (Int32.not_le.mp g_10), if_neg c_11, if_pos (Int32.not_le.mp c_11), if_pos c_12] <;> rfl) | rfl | (simp only [soN, if_neg p_1, if_pos (Int32.not_lt.mp p_1), if_neg p_3, if_pos (Int32.not_le.mp p_3), if_neg c_5, if_neg g_10, if_pos (Int32.not_le.mp g_10), if_neg c_11, if_pos (Int32.not_le.mp c_11), if_pos c_12]; done) | (simp [soN, p_1, p_3, c_5, g_10, c_11, c_12]; done)
          refine v_cong (es' := (wl D b sc (va_up (va_up ar 19 (soN (ar 24) rp wd k dr x q (i_11 + 1)).1) 20 (soN (ar 24) rp wd k dr x q (i_11 + 1)).2) hn mh G)) (lv' := [(4, .int (nI (i_11 + 1))), (0, .ref (b + 18)), (1, .ref (b + qs)), (2, .ref (b + (u + 40))), (3, .int x)]) w_14 (cg1 (fun (z0 : Int32) => ([(4, .int z0), (0, .ref (b + 18)), (1, .ref (b + qs)), (2, .ref (b + (u + 40))), (3, .int x)] : List (Nat × Value))) e_13) ?_
          exact ih_11
        · skip
          refine v_aload_n (n := 40) C dX0_sailOnFrom_39 rfl rfl rfl ?_
          refine v_get (n := 43) C dX0_sailOnFrom_40 rfl fl_X0_15_X0 wl_c18 rfl ?_
          refine v_iload_n (n := 44) C dX0_sailOnFrom_43 rfl rfl rfl ?_
          refine v_iald (n := 45) C dX0_sailOnFrom_44 rfl (show (wl D b sc (va_up (va_up ar 19 (soN (ar 24) rp wd k dr x q i_11).1) 20 (soN (ar 24) rp wd k dr x q i_11).2) hn mh G)[20]? = some (.inl (D.1 13, 12, .inl (soN (ar 24) rp wd k dr x q i_11).2)) from wl_c20) (vp_b (Int32.not_lt.mp p_1) (Int32.not_le.mp p_3) (by decide)) ?_
          refine v_iconst (n := 46) (v := -1) C dX0_sailOnFrom_45 rfl (by decide) ?_
          refine v_icmp_ne (t := 54) (n := 49) C dX0_sailOnFrom_46 (by decide) rfl (fun c_15 => ?_) (fun c_15 => ?_)
          · skip
            refine v_aload_n (n := 55) C dX0_sailOnFrom_54 rfl rfl rfl ?_
            refine v_get (n := 58) C dX0_sailOnFrom_55 rfl fl_X0_15_X0 wl_c18 rfl ?_
            refine v_iload_n (n := 59) C dX0_sailOnFrom_58 rfl rfl rfl ?_
            refine v_iald (n := 60) C dX0_sailOnFrom_59 rfl (show (wl D b sc (va_up (va_up ar 19 (soN (ar 24) rp wd k dr x q i_11).1) 20 (soN (ar 24) rp wd k dr x q i_11).2) hn mh G)[20]? = some (.inl (D.1 13, 12, .inl (soN (ar 24) rp wd k dr x q i_11).2)) from wl_c20) (vp_b (Int32.not_lt.mp p_1) (Int32.not_le.mp p_3) (by decide)) ?_
            refine v_istore (n := 62) (lv' := [(6, .int ((soN (ar 24) rp wd k dr x q i_11).2 (Int32.toNatClampNeg x))), (5, .int (htF (ar 24) rp wd k dr x (nI i_11) ((soN (ar 24) rp wd k dr x q i_11).1 (Int32.toNatClampNeg x)))), (4, .int (nI i_11)), (0, .ref (b + 18)), (1, .ref (b + qs)), (2, .ref (b + (u + 40))), (3, .int x)]) C dX0_sailOnFrom_60 rfl (Nat.le_of_ble_eq_true rfl) rfl ?_
            refine v_aload_n (n := 63) C dX0_sailOnFrom_62 rfl rfl rfl ?_
            refine v_iload_n (n := 64) C dX0_sailOnFrom_63 rfl rfl rfl ?_
            refine v_iload (n := 66) C dX0_sailOnFrom_64 rfl rfl ?_
            refine v_go (n := 69) C (vRun_SN (As := [.int x, .int (nI i_11)]) (rest := [.ref (b + 18)]) C lk_X0_36 st_X11_beside dX0_sailOnFrom_66 (c_beside l D b (wl D b sc (va_up (va_up ar 19 (soN (ar 24) rp wd k dr x q i_11).1) 20 (soN (ar 24) rp wd k dr x q i_11).2) hn mh G) x (nI i_11)) wm_X11_beside rfl rfl ⟨Nat.le_of_ble_eq_true rfl, Nat.le_of_ble_eq_true rfl⟩ ⟨Nat.le_of_ble_eq_true rfl, Nat.le_of_ble_eq_true rfl⟩ (Nat.le_of_ble_eq_true rfl)) rfl ?_
            rintro _ _ ⟨rfl, rfl⟩ -
            refine v_aload_n (n := 70) C dX0_sailOnFrom_69 rfl rfl rfl ?_
            refine v_get (n := 73) C dX0_sailOnFrom_70 rfl fl_X0_9_X0 wl_c18 rfl ?_
            refine v_iload_n (n := 74) C dX0_sailOnFrom_73 rfl rfl rfl ?_
            refine v_iald (n := 75) C dX0_sailOnFrom_74 rfl (show (wl D b sc (va_up (va_up ar 19 (soN (ar 24) rp wd k dr x q i_11).1) 20 (soN (ar 24) rp wd k dr x q i_11).2) hn mh G)[19]? = some (.inl (D.1 13, 12, .inl (soN (ar 24) rp wd k dr x q i_11).1)) from wl_c19) (vp_b (Int32.not_lt.mp p_1) (Int32.not_le.mp p_3) (by decide)) ?_
            refine v_iload (n := 77) C dX0_sailOnFrom_75 rfl rfl ?_
            refine v_iadd (n := 78) C dX0_sailOnFrom_77 rfl ?_
            refine v_iload (n := 80) C dX0_sailOnFrom_78 rfl rfl ?_
            refine v_go (n := 83) C (vRun_V (As := [.int (beF x (nI i_11)), .int (((soN (ar 24) rp wd k dr x q i_11).1 (Int32.toNatClampNeg x)) + (htF (ar 24) rp wd k dr x (nI i_11) ((soN (ar 24) rp wd k dr x q i_11).1 (Int32.toNatClampNeg x)))), .int ((soN (ar 24) rp wd k dr x q i_11).2 (Int32.toNatClampNeg x))]) (rest := []) C wl_c18 rfl lk_X0_40 im_X0_arrive se_X0_arrive dX0_sailOnFrom_80 (c_arrive l D b sc ar hn mh G (soN (ar 24) rp wd k dr x q i_11) (beF x (nI i_11)) (((soN (ar 24) rp wd k dr x q i_11).1 (Int32.toNatClampNeg x)) + (htF (ar 24) rp wd k dr x (nI i_11) ((soN (ar 24) rp wd k dr x q i_11).1 (Int32.toNatClampNeg x)))) ((soN (ar 24) rp wd k dr x q i_11).2 (Int32.toNatClampNeg x))) wm_X0_arrive rfl rfl ⟨Nat.le_of_ble_eq_true rfl, Nat.le_of_ble_eq_true rfl⟩ ⟨Nat.le_of_ble_eq_true rfl, Nat.le_of_ble_eq_true rfl⟩ (Nat.le_of_ble_eq_true rfl)) rfl ?_
            rintro _ _ ⟨rfl, rfl⟩ -
            refine v_iinc (n := 86) (v := ((nI i_11) + 1)) (lv' := [(4, .int ((nI i_11) + 1)), (6, .int ((soN (ar 24) rp wd k dr x q i_11).2 (Int32.toNatClampNeg x))), (5, .int (htF (ar 24) rp wd k dr x (nI i_11) ((soN (ar 24) rp wd k dr x q i_11).1 (Int32.toNatClampNeg x)))), (0, .ref (b + 18)), (1, .ref (b + qs)), (2, .ref (b + (u + 40))), (3, .int x)]) C dX0_sailOnFrom_83 rfl rfl rfl (Nat.le_of_ble_eq_true rfl) rfl ?_
            refine v_goto (t := 11) C dX0_sailOnFrom_86 (by decide) ?_
            refine v_pick (lv' := [(4, .int ((nI i_11) + 1)), (0, .ref (b + 18)), (1, .ref (b + qs)), (2, .ref (b + (u + 40))), (3, .int x)]) [0, 3, 4, 5, 6] rfl ?_
            have e_16 : ((nI i_11) + 1) = (nI (i_11 + 1)) := nI_1 _
            have w_17 : (wl D b sc (va_up (va_up ar 19 (arS (soN (ar 24) rp wd k dr x q i_11) (beF x (nI i_11)) (((soN (ar 24) rp wd k dr x q i_11).1 (Int32.toNatClampNeg x)) + (htF (ar 24) rp wd k dr x (nI i_11) ((soN (ar 24) rp wd k dr x q i_11).1 (Int32.toNatClampNeg x)))) ((soN (ar 24) rp wd k dr x q i_11).2 (Int32.toNatClampNeg x))).1) 20 (arS (soN (ar 24) rp wd k dr x q i_11) (beF x (nI i_11)) (((soN (ar 24) rp wd k dr x q i_11).1 (Int32.toNatClampNeg x)) + (htF (ar 24) rp wd k dr x (nI i_11) ((soN (ar 24) rp wd k dr x q i_11).1 (Int32.toNatClampNeg x)))) ((soN (ar 24) rp wd k dr x q i_11).2 (Int32.toNatClampNeg x))).2) hn mh G) = (wl D b sc (va_up (va_up ar 19 (soN (ar 24) rp wd k dr x q (i_11 + 1)).1) 20 (soN (ar 24) rp wd k dr x q (i_11 + 1)).2) hn mh G) := by first | rfl | (simp only [soN, if_neg p_1, if_pos (Int32.not_lt.mp p_1), if_neg p_3, if_pos (Int32.not_le.mp p_3), if_neg c_5, if_neg g_10, if_pos (Int32.not_le.mp g_10), if_neg c_11, if_pos (Int32.not_le.mp c_11), if_neg c_12, if_neg c_15] <;> rfl) | rfl | (simp only [soN, if_neg p_1, if_pos (Int32.not_lt.mp p_1), if_neg p_3, if_pos (Int32.not_le.mp p_3), if_neg c_5, if_neg g_10, if_pos (Int32.not_le.mp g_10), if_neg c_11, if_pos (Int32.not_le.mp c_11), if_neg c_12, if_neg c_15]; done) | (simp [soN, p_1, p_3, c_5, g_10, c_11, c_12, c_15]; done)
            refine v_cong (es' := (wl D b sc (va_up (va_up ar 19 (soN (ar 24) rp wd k dr x q (i_11 + 1)).1) 20 (soN (ar 24) rp wd k dr x q (i_11 + 1)).2) hn mh G)) (lv' := [(4, .int (nI (i_11 + 1))), (0, .ref (b + 18)), (1, .ref (b + qs)), (2, .ref (b + (u + 40))), (3, .int x)]) w_17 (cg1 (fun (z0 : Int32) => ([(4, .int z0), (0, .ref (b + 18)), (1, .ref (b + qs)), (2, .ref (b + (u + 40))), (3, .int x)] : List (Nat × Value))) e_16) ?_
            exact ih_11
          · skip
            refine v_iload (n := 51) C dX0_sailOnFrom_49 rfl rfl ?_
            refine v_goto (t := 60) C dX0_sailOnFrom_51 (by decide) ?_
            refine v_istore (n := 62) (lv' := [(6, .int (nI i_11)), (5, .int (htF (ar 24) rp wd k dr x (nI i_11) ((soN (ar 24) rp wd k dr x q i_11).1 (Int32.toNatClampNeg x)))), (4, .int (nI i_11)), (0, .ref (b + 18)), (1, .ref (b + qs)), (2, .ref (b + (u + 40))), (3, .int x)]) C dX0_sailOnFrom_60 rfl (Nat.le_of_ble_eq_true rfl) rfl ?_
            refine v_aload_n (n := 63) C dX0_sailOnFrom_62 rfl rfl rfl ?_
            refine v_iload_n (n := 64) C dX0_sailOnFrom_63 rfl rfl rfl ?_
            refine v_iload (n := 66) C dX0_sailOnFrom_64 rfl rfl ?_
            refine v_go (n := 69) C (vRun_SN (As := [.int x, .int (nI i_11)]) (rest := [.ref (b + 18)]) C lk_X0_36 st_X11_beside dX0_sailOnFrom_66 (c_beside l D b (wl D b sc (va_up (va_up ar 19 (soN (ar 24) rp wd k dr x q i_11).1) 20 (soN (ar 24) rp wd k dr x q i_11).2) hn mh G) x (nI i_11)) wm_X11_beside rfl rfl ⟨Nat.le_of_ble_eq_true rfl, Nat.le_of_ble_eq_true rfl⟩ ⟨Nat.le_of_ble_eq_true rfl, Nat.le_of_ble_eq_true rfl⟩ (Nat.le_of_ble_eq_true rfl)) rfl ?_
            rintro _ _ ⟨rfl, rfl⟩ -
            refine v_aload_n (n := 70) C dX0_sailOnFrom_69 rfl rfl rfl ?_
            refine v_get (n := 73) C dX0_sailOnFrom_70 rfl fl_X0_9_X0 wl_c18 rfl ?_
            refine v_iload_n (n := 74) C dX0_sailOnFrom_73 rfl rfl rfl ?_
            refine v_iald (n := 75) C dX0_sailOnFrom_74 rfl (show (wl D b sc (va_up (va_up ar 19 (soN (ar 24) rp wd k dr x q i_11).1) 20 (soN (ar 24) rp wd k dr x q i_11).2) hn mh G)[19]? = some (.inl (D.1 13, 12, .inl (soN (ar 24) rp wd k dr x q i_11).1)) from wl_c19) (vp_b (Int32.not_lt.mp p_1) (Int32.not_le.mp p_3) (by decide)) ?_
            refine v_iload (n := 77) C dX0_sailOnFrom_75 rfl rfl ?_
            refine v_iadd (n := 78) C dX0_sailOnFrom_77 rfl ?_
            refine v_iload (n := 80) C dX0_sailOnFrom_78 rfl rfl ?_
            refine v_go (n := 83) C (vRun_V (As := [.int (beF x (nI i_11)), .int (((soN (ar 24) rp wd k dr x q i_11).1 (Int32.toNatClampNeg x)) + (htF (ar 24) rp wd k dr x (nI i_11) ((soN (ar 24) rp wd k dr x q i_11).1 (Int32.toNatClampNeg x)))), .int (nI i_11)]) (rest := []) C wl_c18 rfl lk_X0_40 im_X0_arrive se_X0_arrive dX0_sailOnFrom_80 (c_arrive l D b sc ar hn mh G (soN (ar 24) rp wd k dr x q i_11) (beF x (nI i_11)) (((soN (ar 24) rp wd k dr x q i_11).1 (Int32.toNatClampNeg x)) + (htF (ar 24) rp wd k dr x (nI i_11) ((soN (ar 24) rp wd k dr x q i_11).1 (Int32.toNatClampNeg x)))) (nI i_11)) wm_X0_arrive rfl rfl ⟨Nat.le_of_ble_eq_true rfl, Nat.le_of_ble_eq_true rfl⟩ ⟨Nat.le_of_ble_eq_true rfl, Nat.le_of_ble_eq_true rfl⟩ (Nat.le_of_ble_eq_true rfl)) rfl ?_
            rintro _ _ ⟨rfl, rfl⟩ -
            refine v_iinc (n := 86) (v := ((nI i_11) + 1)) (lv' := [(4, .int ((nI i_11) + 1)), (6, .int (nI i_11)), (5, .int (htF (ar 24) rp wd k dr x (nI i_11) ((soN (ar 24) rp wd k dr x q i_11).1 (Int32.toNatClampNeg x)))), (0, .ref (b + 18)), (1, .ref (b + qs)), (2, .ref (b + (u + 40))), (3, .int x)]) C dX0_sailOnFrom_83 rfl rfl rfl (Nat.le_of_ble_eq_true rfl) rfl ?_
            refine v_goto (t := 11) C dX0_sailOnFrom_86 (by decide) ?_
            refine v_pick (lv' := [(4, .int ((nI i_11) + 1)), (0, .ref (b + 18)), (1, .ref (b + qs)), (2, .ref (b + (u + 40))), (3, .int x)]) [0, 3, 4, 5, 6] rfl ?_
            have e_18 : ((nI i_11) + 1) = (nI (i_11 + 1)) := nI_1 _
            have w_19 : (wl D b sc (va_up (va_up ar 19 (arS (soN (ar 24) rp wd k dr x q i_11) (beF x (nI i_11)) (((soN (ar 24) rp wd k dr x q i_11).1 (Int32.toNatClampNeg x)) + (htF (ar 24) rp wd k dr x (nI i_11) ((soN (ar 24) rp wd k dr x q i_11).1 (Int32.toNatClampNeg x)))) (nI i_11)).1) 20 (arS (soN (ar 24) rp wd k dr x q i_11) (beF x (nI i_11)) (((soN (ar 24) rp wd k dr x q i_11).1 (Int32.toNatClampNeg x)) + (htF (ar 24) rp wd k dr x (nI i_11) ((soN (ar 24) rp wd k dr x q i_11).1 (Int32.toNatClampNeg x)))) (nI i_11)).2) hn mh G) = (wl D b sc (va_up (va_up ar 19 (soN (ar 24) rp wd k dr x q (i_11 + 1)).1) 20 (soN (ar 24) rp wd k dr x q (i_11 + 1)).2) hn mh G) := by first | rfl | (simp only [soN, if_neg p_1, if_pos (Int32.not_lt.mp p_1), if_neg p_3, if_pos (Int32.not_le.mp p_3), if_neg c_5, if_neg g_10, if_pos (Int32.not_le.mp g_10), if_neg c_11, if_pos (Int32.not_le.mp c_11), if_neg c_12, if_pos c_15] <;> rfl) | rfl | (simp only [soN, if_neg p_1, if_pos (Int32.not_lt.mp p_1), if_neg p_3, if_pos (Int32.not_le.mp p_3), if_neg c_5, if_neg g_10, if_pos (Int32.not_le.mp g_10), if_neg c_11, if_pos (Int32.not_le.mp c_11), if_neg c_12, if_pos c_15]; done) | (simp [soN, p_1, p_3, c_5, g_10, c_11, c_12, c_15]; done)
            refine v_cong (es' := (wl D b sc (va_up (va_up ar 19 (soN (ar 24) rp wd k dr x q (i_11 + 1)).1) 20 (soN (ar 24) rp wd k dr x q (i_11 + 1)).2) hn mh G)) (lv' := [(4, .int (nI (i_11 + 1))), (0, .ref (b + 18)), (1, .ref (b + qs)), (2, .ref (b + (u + 40))), (3, .int x)]) w_19 (cg1 (fun (z0 : Int32) => ([(4, .int z0), (0, .ref (b + 18)), (1, .ref (b + qs)), (2, .ref (b + (u + 40))), (3, .int x)] : List (Nat × Value))) e_18) ?_
            exact ih_11
  · exact absurd c_5 (by decide)
set_option maxHeartbeats 4000000 in
set_option maxRecDepth 100000 in
theorem c_soonestOpen (l : Launch) (D : va_G) (b : Nat) (sc : Nat → Int32) (ar : Nat → Nat → Int32) (hn : Nat → Option Nat) (mh : Int64) (G : List va_E) (sd : Int32) : Con l yX0_soonestOpen cX0_soonestOpen 5 (some .int) 0 0 D b 0 0 (wl D b sc ar hn mh G) [.ref (b + 18), .int sd] (fun r es' => r = some (.int (spN (ar 19) sd 12)) ∧ (wl D b sc ar hn mh G) = es') := by
  refine con_of (by decide) (Nat.le_of_ble_eq_true rfl) (fun p e s m args below meth c C hsz => ?_)
  have C : vC p s m args meth c cX0_soonestOpen 5 RX0 "soonestOpen" (some .int) D b := C
  change V p l e _ s m args below meth c D b 5 _ 0 0 (wl D b sc ar hn mh G) [(0, .ref (b + 18)), (1, .int sd)] [] 0
  refine v_iconst (n := 1) (v := -1) C dX0_soonestOpen_0 rfl (by decide) ?_
  refine v_istore_n (n := 2) (lv' := [(2, .int (-1)), (0, .ref (b + 18)), (1, .int sd)]) C dX0_soonestOpen_1 rfl rfl (Nat.le_of_ble_eq_true rfl) rfl ?_
  refine v_iconst (n := 3) (v := 0) C dX0_soonestOpen_2 rfl (by decide) ?_
  refine v_istore_n (n := 4) (lv' := [(3, .int 0), (2, .int (-1)), (0, .ref (b + 18)), (1, .int sd)]) C dX0_soonestOpen_3 rfl rfl (Nat.le_of_ble_eq_true rfl) rfl ?_
  refine v_pick (lv' := [(3, .int 0), (0, .ref (b + 18)), (1, .int sd), (2, .int (-1))]) [0, 2, 3, 1] rfl ?_
  have e_1 : (0 : Int32) = (nI 0) := rfl
  have e_2 : ((-1) : Int32) = (spN (ar 19) sd 0) := by first | rfl | (simp only [spN] <;> rfl) | rfl | (simp only [spN]; done) | (simp [spN]; done)
  refine v_cong (es' := (wl D b sc ar hn mh G)) (lv' := [(3, .int (nI 0)), (0, .ref (b + 18)), (1, .int sd), (2, .int (spN (ar 19) sd 0))]) rfl (cg2 (fun (z0 : Int32) (z1 : Int32) => ([(3, .int z0), (0, .ref (b + 18)), (1, .int sd), (2, .int z1)] : List (Nat × Value))) e_1 e_2) ?_
  refine loop_dn (P := fun i_4 => V p l e { frames := 0, cells := 0, slots := 0, locals := 0 } s m args below meth c D b 5 (MQ below (cQ D b 0 (fun r es' => r = some (.int (spN (ar 19) sd 12)) ∧ (wl D b sc ar hn mh G) = es')) args s 0 0 (fun q => b ≤ q)) 0 0 (wl D b sc ar hn mh G) [(3, .int (nI i_4)), (0, .ref (b + 18)), (1, .int sd), (2, .int (spN (ar 19) sd i_4))] [] 4) 12 ?_ (fun i_4 hi_4 ih_4 => ?_)
  · skip
    have g_3 : (12 : Int32) ≤ nI 12 := nI_g12
    refine v_iload_n (n := 5) C dX0_soonestOpen_4 rfl rfl rfl ?_
    refine v_bipush (n := 7) (v := 12) C dX0_soonestOpen_5 rfl (by decide) ?_
    refine v_icmp_ge (t := 68) (n := 10) C dX0_soonestOpen_7 (by decide) rfl (fun c_4 => ?_) (fun c_4 => ?_)
    · skip
      refine v_iload_n (n := 69) C dX0_soonestOpen_68 rfl rfl rfl ?_
      exact v_iret C dX0_soonestOpen_69 rfl rfl ⟨by first | rfl | (simp only [spN, if_pos g_3, if_neg (Int32.not_lt.mpr g_3), if_pos c_4, if_neg (Int32.not_lt.mpr c_4)]; done) | (simp [spN, g_3, c_4]; done), rfl⟩
    · first | exact absurd c_4 g_3 | exact absurd g_3 c_4 | exact absurd c_4 (Int32.not_le.mpr g_3) | exact absurd c_4 (Int32.not_lt.mpr g_3) | exact absurd (Int32.not_le.mp g_3) c_4 | exact absurd (Int32.not_lt.mp g_3) c_4 | exact absurd (Int32.not_le.mp g_3) (Int32.not_lt.mpr c_4) | exact absurd (Int32.not_lt.mp g_3) (Int32.not_le.mpr c_4) | exact absurd (Int32.not_lt.mp c_4) (Int32.not_le.mpr (Int32.not_le.mp g_3))
  · skip
    have g_5 : ¬ (12 : Int32) ≤ nI i_4 := nI_n12 hi_4 (by decide)
    refine v_iload_n (n := 5) C dX0_soonestOpen_4 rfl rfl rfl ?_
    refine v_bipush (n := 7) (v := 12) C dX0_soonestOpen_5 rfl (by decide) ?_
    refine v_icmp_ge (t := 68) (n := 10) C dX0_soonestOpen_7 (by decide) rfl (fun c_6 => ?_) (fun c_6 => ?_)
    · first | exact absurd c_6 g_5 | exact absurd g_5 c_6 | exact absurd c_6 (Int32.not_le.mpr g_5) | exact absurd c_6 (Int32.not_lt.mpr g_5) | exact absurd (Int32.not_le.mp g_5) c_6 | exact absurd (Int32.not_lt.mp g_5) c_6 | exact absurd (Int32.not_le.mp g_5) (Int32.not_lt.mpr c_6) | exact absurd (Int32.not_lt.mp g_5) (Int32.not_le.mpr c_6) | exact absurd (Int32.not_lt.mp c_6) (Int32.not_le.mpr (Int32.not_le.mp g_5))
    · skip
      refine v_iload_n (n := 11) C dX0_soonestOpen_10 rfl rfl rfl ?_
      refine v_iload_n (n := 12) C dX0_soonestOpen_11 rfl rfl rfl ?_
      refine v_ishr (n := 13) C dX0_soonestOpen_12 rfl ?_
      refine v_iconst (n := 14) (v := 1) C dX0_soonestOpen_13 rfl (by decide) ?_
      refine v_iand (n := 15) C dX0_soonestOpen_14 rfl ?_
      refine v_if_ne (t := 32) (n := 18) C dX0_soonestOpen_15 (by decide) rfl (fun c_7 => ?_) (fun c_7 => ?_)
      · skip
        refine v_iconst (n := 33) (v := 0) C dX0_soonestOpen_32 rfl (by decide) ?_
        refine v_istore (n := 35) (lv' := [(4, .int 0), (3, .int (nI i_4)), (0, .ref (b + 18)), (1, .int sd), (2, .int (spN (ar 19) sd i_4))]) C dX0_soonestOpen_33 rfl (Nat.le_of_ble_eq_true rfl) rfl ?_
        refine v_iload (n := 37) C dX0_soonestOpen_35 rfl rfl ?_
        refine v_if_eq (t := 62) (n := 40) C dX0_soonestOpen_37 (by decide) rfl (fun c_8 => ?_) (fun c_8 => ?_)
        · skip
          refine v_iinc (n := 65) (v := ((nI i_4) + 1)) (lv' := [(3, .int ((nI i_4) + 1)), (4, .int 0), (0, .ref (b + 18)), (1, .int sd), (2, .int (spN (ar 19) sd i_4))]) C dX0_soonestOpen_62 rfl rfl rfl (Nat.le_of_ble_eq_true rfl) rfl ?_
          refine v_goto (t := 4) C dX0_soonestOpen_65 (by decide) ?_
          refine v_pick (lv' := [(3, .int ((nI i_4) + 1)), (0, .ref (b + 18)), (1, .int sd), (2, .int (spN (ar 19) sd i_4))]) [0, 2, 3, 4] rfl ?_
          have e_9 : ((nI i_4) + 1) = (nI (i_4 + 1)) := nI_1 _
          have e_10 : ((spN (ar 19) sd i_4) : Int32) = (spN (ar 19) sd (i_4 + 1)) := by first | rfl | (simp only [spN, if_neg g_5, if_pos (Int32.not_le.mp g_5), if_neg c_6, if_pos (Int32.not_le.mp c_6), if_neg c_7, if_pos c_8] <;> rfl) | rfl | (simp only [spN, if_neg g_5, if_pos (Int32.not_le.mp g_5), if_neg c_6, if_pos (Int32.not_le.mp c_6), if_neg c_7, if_pos c_8]; done) | (simp [spN, g_5, c_6, c_7, c_8]; done)
          refine v_cong (es' := (wl D b sc ar hn mh G)) (lv' := [(3, .int (nI (i_4 + 1))), (0, .ref (b + 18)), (1, .int sd), (2, .int (spN (ar 19) sd (i_4 + 1)))]) rfl (cg2 (fun (z0 : Int32) (z1 : Int32) => ([(3, .int z0), (0, .ref (b + 18)), (1, .int sd), (2, .int z1)] : List (Nat × Value))) e_9 e_10) ?_
          exact ih_4
        · exact absurd c_8 (by decide)
      · skip
        refine v_aload_n (n := 19) C dX0_soonestOpen_18 rfl rfl rfl ?_
        refine v_get (n := 22) C dX0_soonestOpen_19 rfl fl_X0_9_X0 wl_c18 rfl ?_
        refine v_iload_n (n := 23) C dX0_soonestOpen_22 rfl rfl rfl ?_
        refine v_iald (n := 24) C dX0_soonestOpen_23 rfl wl_c19 (nI_vp hi_4 (by decide) (by decide)) ?_
        refine v_stk (st' := .int ((ar 19) i_4) :: []) (congrArg (fun z : Nat => Value.int ((ar 19) z) :: []) (nI_clamp (show i_4 < 2 ^ 31 by omega))) ?_
        refine v_iconst (n := 25) (v := -1) C dX0_soonestOpen_24 rfl (by decide) ?_
        refine v_icmp_eq (t := 32) (n := 28) C dX0_soonestOpen_25 (by decide) rfl (fun c_11 => ?_) (fun c_11 => ?_)
        · skip
          refine v_iconst (n := 33) (v := 0) C dX0_soonestOpen_32 rfl (by decide) ?_
          refine v_istore (n := 35) (lv' := [(4, .int 0), (3, .int (nI i_4)), (0, .ref (b + 18)), (1, .int sd), (2, .int (spN (ar 19) sd i_4))]) C dX0_soonestOpen_33 rfl (Nat.le_of_ble_eq_true rfl) rfl ?_
          refine v_iload (n := 37) C dX0_soonestOpen_35 rfl rfl ?_
          refine v_if_eq (t := 62) (n := 40) C dX0_soonestOpen_37 (by decide) rfl (fun c_12 => ?_) (fun c_12 => ?_)
          · skip
            refine v_iinc (n := 65) (v := ((nI i_4) + 1)) (lv' := [(3, .int ((nI i_4) + 1)), (4, .int 0), (0, .ref (b + 18)), (1, .int sd), (2, .int (spN (ar 19) sd i_4))]) C dX0_soonestOpen_62 rfl rfl rfl (Nat.le_of_ble_eq_true rfl) rfl ?_
            refine v_goto (t := 4) C dX0_soonestOpen_65 (by decide) ?_
            refine v_pick (lv' := [(3, .int ((nI i_4) + 1)), (0, .ref (b + 18)), (1, .int sd), (2, .int (spN (ar 19) sd i_4))]) [0, 2, 3, 4] rfl ?_
            have e_13 : ((nI i_4) + 1) = (nI (i_4 + 1)) := nI_1 _
            have e_14 : ((spN (ar 19) sd i_4) : Int32) = (spN (ar 19) sd (i_4 + 1)) := by first | rfl | (simp only [spN, if_neg g_5, if_pos (Int32.not_le.mp g_5), if_neg c_6, if_pos (Int32.not_le.mp c_6), if_pos c_7, if_pos c_11, if_pos c_12] <;> rfl) | rfl | (simp only [spN, if_neg g_5, if_pos (Int32.not_le.mp g_5), if_neg c_6, if_pos (Int32.not_le.mp c_6), if_pos c_7, if_pos c_11, if_pos c_12]; done) | (simp [spN, g_5, c_6, c_7, c_11, c_12]; done)
            refine v_cong (es' := (wl D b sc ar hn mh G)) (lv' := [(3, .int (nI (i_4 + 1))), (0, .ref (b + 18)), (1, .int sd), (2, .int (spN (ar 19) sd (i_4 + 1)))]) rfl (cg2 (fun (z0 : Int32) (z1 : Int32) => ([(3, .int z0), (0, .ref (b + 18)), (1, .int sd), (2, .int z1)] : List (Nat × Value))) e_13 e_14) ?_
            exact ih_4
          · exact absurd c_12 (by decide)
        · skip
          refine v_iconst (n := 29) (v := 1) C dX0_soonestOpen_28 rfl (by decide) ?_
          refine v_goto (t := 33) C dX0_soonestOpen_29 (by decide) ?_
          refine v_istore (n := 35) (lv' := [(4, .int 1), (3, .int (nI i_4)), (0, .ref (b + 18)), (1, .int sd), (2, .int (spN (ar 19) sd i_4))]) C dX0_soonestOpen_33 rfl (Nat.le_of_ble_eq_true rfl) rfl ?_
          refine v_iload (n := 37) C dX0_soonestOpen_35 rfl rfl ?_
          refine v_if_eq (t := 62) (n := 40) C dX0_soonestOpen_37 (by decide) rfl (fun c_15 => ?_) (fun c_15 => ?_)
          · exact absurd c_15 (by decide)
          · skip
            refine v_iload_n (n := 41) C dX0_soonestOpen_40 rfl rfl rfl ?_
            refine v_iconst (n := 42) (v := -1) C dX0_soonestOpen_41 rfl (by decide) ?_
            refine v_icmp_eq (t := 60) (n := 45) C dX0_soonestOpen_42 (by decide) rfl (fun c_16 => ?_) (fun c_16 => ?_)
            · skip
              refine v_iload_n (n := 61) C dX0_soonestOpen_60 rfl rfl rfl ?_
              refine v_istore_n (n := 62) (lv' := [(2, .int (nI i_4)), (4, .int 1), (3, .int (nI i_4)), (0, .ref (b + 18)), (1, .int sd)]) C dX0_soonestOpen_61 rfl rfl (Nat.le_of_ble_eq_true rfl) rfl ?_
              refine v_iinc (n := 65) (v := ((nI i_4) + 1)) (lv' := [(3, .int ((nI i_4) + 1)), (2, .int (nI i_4)), (4, .int 1), (0, .ref (b + 18)), (1, .int sd)]) C dX0_soonestOpen_62 rfl rfl rfl (Nat.le_of_ble_eq_true rfl) rfl ?_
              refine v_goto (t := 4) C dX0_soonestOpen_65 (by decide) ?_
              refine v_pick (lv' := [(3, .int ((nI i_4) + 1)), (0, .ref (b + 18)), (1, .int sd), (2, .int (nI i_4))]) [0, 3, 4, 1] rfl ?_
              have e_17 : ((nI i_4) + 1) = (nI (i_4 + 1)) := nI_1 _
              have e_18 : ((nI i_4) : Int32) = (spN (ar 19) sd (i_4 + 1)) := by first | rfl | (simp only [spN, if_neg g_5, if_pos (Int32.not_le.mp g_5), if_neg c_6, if_pos (Int32.not_le.mp c_6), if_pos c_7, if_neg c_11, if_neg c_15, if_pos c_16] <;> rfl) | rfl | (simp only [spN, if_neg g_5, if_pos (Int32.not_le.mp g_5), if_neg c_6, if_pos (Int32.not_le.mp c_6), if_pos c_7, if_neg c_11, if_neg c_15, if_pos c_16]; done) | (simp [spN, g_5, c_6, c_7, c_11, c_15, c_16]; done)
              refine v_cong (es' := (wl D b sc ar hn mh G)) (lv' := [(3, .int (nI (i_4 + 1))), (0, .ref (b + 18)), (1, .int sd), (2, .int (spN (ar 19) sd (i_4 + 1)))]) rfl (cg2 (fun (z0 : Int32) (z1 : Int32) => ([(3, .int z0), (0, .ref (b + 18)), (1, .int sd), (2, .int z1)] : List (Nat × Value))) e_17 e_18) ?_
              exact ih_4
            · skip
              refine v_aload_n (n := 46) C dX0_soonestOpen_45 rfl rfl rfl ?_
              refine v_get (n := 49) C dX0_soonestOpen_46 rfl fl_X0_9_X0 wl_c18 rfl ?_
              refine v_iload_n (n := 50) C dX0_soonestOpen_49 rfl rfl rfl ?_
              refine v_iald (n := 51) C dX0_soonestOpen_50 rfl wl_c19 (nI_vp hi_4 (by decide) (by decide)) ?_
              refine v_stk (st' := .int ((ar 19) i_4) :: []) (congrArg (fun z : Nat => Value.int ((ar 19) z) :: []) (nI_clamp (show i_4 < 2 ^ 31 by omega))) ?_
              refine v_aload_n (n := 52) C dX0_soonestOpen_51 rfl rfl rfl ?_
              refine v_get (n := 55) C dX0_soonestOpen_52 rfl fl_X0_9_X0 wl_c18 rfl ?_
              refine v_iload_n (n := 56) C dX0_soonestOpen_55 rfl rfl rfl ?_
              refine v_iald (n := 57) C dX0_soonestOpen_56 rfl wl_c19 (spN_vp hi_4 c_16) ?_
              refine v_icmp_ge (t := 62) (n := 60) C dX0_soonestOpen_57 (by decide) rfl (fun c_19 => ?_) (fun c_19 => ?_)
              · skip
                refine v_iinc (n := 65) (v := ((nI i_4) + 1)) (lv' := [(3, .int ((nI i_4) + 1)), (4, .int 1), (0, .ref (b + 18)), (1, .int sd), (2, .int (spN (ar 19) sd i_4))]) C dX0_soonestOpen_62 rfl rfl rfl (Nat.le_of_ble_eq_true rfl) rfl ?_
                refine v_goto (t := 4) C dX0_soonestOpen_65 (by decide) ?_
                refine v_pick (lv' := [(3, .int ((nI i_4) + 1)), (0, .ref (b + 18)), (1, .int sd), (2, .int (spN (ar 19) sd i_4))]) [0, 2, 3, 4] rfl ?_
                have e_20 : ((nI i_4) + 1) = (nI (i_4 + 1)) := nI_1 _
                have e_21 : ((spN (ar 19) sd i_4) : Int32) = (spN (ar 19) sd (i_4 + 1)) := by first | rfl | (simp only [spN, if_neg g_5, if_pos (Int32.not_le.mp g_5), if_neg c_6, if_pos (Int32.not_le.mp c_6), if_pos c_7, if_neg c_11, if_neg c_15, if_neg c_16, if_pos c_19, if_neg (Int32.not_lt.mpr c_19)] <;> rfl) | rfl | (simp only [spN, if_neg g_5, if_pos (Int32.not_le.mp g_5), if_neg c_6, if_pos (Int32.not_le.mp c_6), if_pos c_7, if_neg c_11, if_neg c_15, if_neg c_16, if_pos c_19, if_neg (Int32.not_lt.mpr c_19)]; done) | (simp [spN, g_5, c_6, c_7, c_11, c_15, c_16, c_19]; done)
                refine v_cong (es' := (wl D b sc ar hn mh G)) (lv' := [(3, .int (nI (i_4 + 1))), (0, .ref (b + 18)), (1, .int sd), (2, .int (spN (ar 19) sd (i_4 + 1)))]) rfl (cg2 (fun (z0 : Int32) (z1 : Int32) => ([(3, .int z0), (0, .ref (b + 18)), (1, .int sd), (2, .int z1)] : List (Nat × Value))) e_20 e_21) ?_
                exact ih_4
              · skip
                refine v_iload_n (n := 61) C dX0_soonestOpen_60 rfl rfl rfl ?_
                refine v_istore_n (n := 62) (lv' := [(2, .int (nI i_4)), (4, .int 1), (3, .int (nI i_4)), (0, .ref (b + 18)), (1, .int sd)]) C dX0_soonestOpen_61 rfl rfl (Nat.le_of_ble_eq_true rfl) rfl ?_
                refine v_iinc (n := 65) (v := ((nI i_4) + 1)) (lv' := [(3, .int ((nI i_4) + 1)), (2, .int (nI i_4)), (4, .int 1), (0, .ref (b + 18)), (1, .int sd)]) C dX0_soonestOpen_62 rfl rfl rfl (Nat.le_of_ble_eq_true rfl) rfl ?_
                refine v_goto (t := 4) C dX0_soonestOpen_65 (by decide) ?_
                refine v_pick (lv' := [(3, .int ((nI i_4) + 1)), (0, .ref (b + 18)), (1, .int sd), (2, .int (nI i_4))]) [0, 3, 4, 1] rfl ?_
                have e_22 : ((nI i_4) + 1) = (nI (i_4 + 1)) := nI_1 _
                have e_23 : ((nI i_4) : Int32) = (spN (ar 19) sd (i_4 + 1)) := by first | rfl | (simp only [spN, if_neg g_5, if_pos (Int32.not_le.mp g_5), if_neg c_6, if_pos (Int32.not_le.mp c_6), if_pos c_7, if_neg c_11, if_neg c_15, if_neg c_16, if_neg c_19, if_pos (Int32.not_le.mp c_19)] <;> rfl) | rfl | (simp only [spN, if_neg g_5, if_pos (Int32.not_le.mp g_5), if_neg c_6, if_pos (Int32.not_le.mp c_6), if_pos c_7, if_neg c_11, if_neg c_15, if_neg c_16, if_neg c_19, if_pos (Int32.not_le.mp c_19)]; done) | (simp [spN, g_5, c_6, c_7, c_11, c_15, c_16, c_19]; done)
                refine v_cong (es' := (wl D b sc ar hn mh G)) (lv' := [(3, .int (nI (i_4 + 1))), (0, .ref (b + 18)), (1, .int sd), (2, .int (spN (ar 19) sd (i_4 + 1)))]) rfl (cg2 (fun (z0 : Int32) (z1 : Int32) => ([(3, .int z0), (0, .ref (b + 18)), (1, .int sd), (2, .int z1)] : List (Nat × Value))) e_22 e_23) ?_
                exact ih_4
end
section
set_option maxHeartbeats 4000000 in
set_option maxRecDepth 100000 in
theorem c_plot (l : Launch) (D : va_G) (b : Nat) (sc : Nat → Int32) (ar : Nat → Nat → Int32) (hn : Nat → Option Nat) (mh : Int64) (G : List va_E) (qs : Nat) (rp wd : Int32) (hs : ∀ ar, (wl D b sc ar hn mh G)[qs]? = some (.inr (7, [.ref (b + 24), .int rp, .int wd]))) (u k : Nat) (dr ce sa : Int32) (hk : k < 5) (hg : G[u]? = some (hcl k dr ce sa)) (x h : Int32) : Con l yX0_plot cX0_plot 8 none 4 97 D b 0 0 (wl D b sc ar hn mh G) [.ref (b + 18), .ref (b + qs), .ref (b + (u + 40)), .int x, .int h] (fun r es' => r = none ∧ wl D b sc (va_up (va_up ar 19 (plF (ar 24) rp wd k dr (ar 19, ar 20) x h).1) 20 (plF (ar 24) rp wd k dr (ar 19, ar 20) x h).2) hn mh G = es') := by
  refine con_of (by decide) (Nat.le_of_ble_eq_true rfl) (fun p e s m args below meth c C hsz => ?_)
  have C : vC p s m args meth c cX0_plot 8 RX0 "plot" none D b := C
  change V p l e _ s m args below meth c D b 8 _ 0 0 (wl D b sc ar hn mh G) [(0, .ref (b + 18)), (1, .ref (b + qs)), (2, .ref (b + (u + 40))), (3, .int x), (4, .int h)] [] 0
  refine v_iconst (n := 1) (v := 0) C dX0_plot_0 rfl (by decide) ?_
  refine v_istore (n := 3) (lv' := [(5, .int 0), (0, .ref (b + 18)), (1, .ref (b + qs)), (2, .ref (b + (u + 40))), (3, .int x), (4, .int h)]) C dX0_plot_1 rfl (Nat.le_of_ble_eq_true rfl) rfl ?_
  refine v_pick (lv' := [(5, .int 0), (0, .ref (b + 18)), (1, .ref (b + qs)), (2, .ref (b + (u + 40))), (3, .int x), (4, .int h)]) [0, 1, 2, 3, 4, 5] rfl ?_
  have e_1 : (0 : Int32) = (nI 0) := rfl
  have w_2 : (wl D b sc ar hn mh G) = (wl D b sc (va_up (va_up ar 19 (fillN (-1) (ar 19) 0)) 20 (fillN (-1) (ar 20) 0)) hn mh G) := by first | rfl | (simp only [fillN]; done) | (simp [fillN]; done)
  refine v_cong (es' := (wl D b sc (va_up (va_up ar 19 (fillN (-1) (ar 19) 0)) 20 (fillN (-1) (ar 20) 0)) hn mh G)) (lv' := [(5, .int (nI 0)), (0, .ref (b + 18)), (1, .ref (b + qs)), (2, .ref (b + (u + 40))), (3, .int x), (4, .int h)]) w_2 (cg1 (fun (z0 : Int32) => ([(5, .int z0), (0, .ref (b + 18)), (1, .ref (b + qs)), (2, .ref (b + (u + 40))), (3, .int x), (4, .int h)] : List (Nat × Value))) e_1) ?_
  refine loop_dn (P := fun i_3 => V p l e { frames := 4, cells := 0, slots := 0, locals := 97 } s m args below meth c D b 8 (MQ below (cQ D b 0 (fun r es' => r = none ∧ wl D b sc (va_up (va_up ar 19 (plF (ar 24) rp wd k dr (ar 19, ar 20) x h).1) 20 (plF (ar 24) rp wd k dr (ar 19, ar 20) x h).2) hn mh G = es')) args s 0 0 (fun q => b ≤ q)) 0 0 (wl D b sc (va_up (va_up ar 19 (fillN (-1) (ar 19) i_3)) 20 (fillN (-1) (ar 20) i_3)) hn mh G) [(5, .int (nI i_3)), (0, .ref (b + 18)), (1, .ref (b + qs)), (2, .ref (b + (u + 40))), (3, .int x), (4, .int h)] [] 3) 12 ?_ (fun i_3 hi_3 ih_3 => ?_)
  · skip
    have g_3 : (12 : Int32) ≤ nI 12 := nI_g12
    refine v_iload (n := 5) C dX0_plot_3 rfl rfl ?_
    refine v_bipush (n := 7) (v := 12) C dX0_plot_5 rfl (by decide) ?_
    refine v_icmp_ge (t := 32) (n := 10) C dX0_plot_7 (by decide) rfl (fun c_4 => ?_) (fun c_4 => ?_)
    · skip
      refine v_iload_n (n := 33) C dX0_plot_32 rfl rfl rfl ?_
      refine v_go (n := 36) C (vRun_SN (As := [.int x]) (rest := []) C lk_X0_18 st_X11_isCell dX0_plot_33 (c_isCell l D b (wl D b sc (va_up (va_up ar 19 (fillN (-1) (ar 19) 12)) 20 (fillN (-1) (ar 20) 12)) hn mh G) x) wm_X11_isCell rfl rfl ⟨Nat.le_of_ble_eq_true rfl, Nat.le_of_ble_eq_true rfl⟩ ⟨Nat.le_of_ble_eq_true rfl, Nat.le_of_ble_eq_true rfl⟩ (Nat.le_of_ble_eq_true rfl)) rfl ?_
      rintro _ _ ⟨rfl, rfl⟩ -
      by_cases p_5 : x < 0
      · skip
        refine v_stk (st' := .int 0 :: []) (congrArg (fun z : Int32 => Value.int z :: []) (show icF x = 0 by simp only [icF, if_pos p_5])) ?_
        refine v_if_ne (t := 40) (n := 39) C dX0_plot_36 (by decide) rfl (fun c_6 => ?_) (fun c_6 => ?_)
        · exact absurd c_6 (by decide)
        · skip
          exact v_vret C dX0_plot_39 rfl ⟨rfl, by simp only [plF, if_pos g_3, if_neg (Int32.not_lt.mpr g_3), if_pos c_4, if_neg (Int32.not_lt.mpr c_4), if_pos p_5, if_neg (Int32.not_le.mpr p_5), if_pos c_6]⟩
      by_cases p_7 : 12 ≤ x
      · skip
        refine v_stk (st' := .int 0 :: []) (congrArg (fun z : Int32 => Value.int z :: []) (show icF x = 0 by simp only [icF, if_neg p_5, if_pos p_7])) ?_
        refine v_if_ne (t := 40) (n := 39) C dX0_plot_36 (by decide) rfl (fun c_8 => ?_) (fun c_8 => ?_)
        · exact absurd c_8 (by decide)
        · skip
          exact v_vret C dX0_plot_39 rfl ⟨rfl, by simp only [plF, if_pos g_3, if_neg (Int32.not_lt.mpr g_3), if_pos c_4, if_neg (Int32.not_lt.mpr c_4), if_neg p_5, if_pos (Int32.not_lt.mp p_5), if_pos p_7, if_neg (Int32.not_lt.mpr p_7), if_pos c_8]⟩
      refine v_stk (st' := .int 1 :: []) (congrArg (fun z : Int32 => Value.int z :: []) (show icF x = 1 by simp only [icF, if_neg p_5, if_neg p_7])) ?_
      refine v_if_ne (t := 40) (n := 39) C dX0_plot_36 (by decide) rfl (fun c_9 => ?_) (fun c_9 => ?_)
      · skip
        refine v_aload_n (n := 41) C dX0_plot_40 rfl rfl rfl ?_
        refine v_get (n := 44) C dX0_plot_41 rfl fl_X0_9_X0 wl_c18 rfl ?_
        refine v_iload_n (n := 45) C dX0_plot_44 rfl rfl rfl ?_
        refine v_iload (n := 47) C dX0_plot_45 rfl rfl ?_
        refine v_iast (n := 48) (es' := (wl D b sc (va_up (va_up ar 19 (upd (fillN (-1) (ar 19) 12) (Int32.toNatClampNeg x) h)) 20 (fillN (-1) (ar 20) 12)) hn mh G)) C dX0_plot_47 rfl (show (wl D b sc (va_up (va_up ar 19 (fillN (-1) (ar 19) 12)) 20 (fillN (-1) (ar 20) 12)) hn mh G)[19]? = some (.inl (D.1 13, 12, .inl (fillN (-1) (ar 19) 12))) from wl_c19) (vp_b (Int32.not_lt.mp p_5) (Int32.not_le.mp p_7) (by decide)) rfl ?_
        refine v_iconst (n := 49) (v := 0) C dX0_plot_48 rfl (by decide) ?_
        refine v_istore (n := 51) (lv' := [(5, .int 0), (0, .ref (b + 18)), (1, .ref (b + qs)), (2, .ref (b + (u + 40))), (3, .int x), (4, .int h)]) C dX0_plot_49 rfl (Nat.le_of_ble_eq_true rfl) rfl ?_
        refine v_iload_n (n := 52) C dX0_plot_51 rfl rfl rfl ?_
        refine v_istore (n := 54) (lv' := [(6, .int x), (5, .int 0), (0, .ref (b + 18)), (1, .ref (b + qs)), (2, .ref (b + (u + 40))), (3, .int x), (4, .int h)]) C dX0_plot_52 rfl (Nat.le_of_ble_eq_true rfl) rfl ?_
        refine v_iconst (n := 55) (v := 0) C dX0_plot_54 rfl (by decide) ?_
        refine v_istore (n := 57) (lv' := [(7, .int 0), (6, .int x), (5, .int 0), (0, .ref (b + 18)), (1, .ref (b + qs)), (2, .ref (b + (u + 40))), (3, .int x), (4, .int h)]) C dX0_plot_55 rfl (Nat.le_of_ble_eq_true rfl) rfl ?_
        refine v_pick (lv' := [(7, .int 0), (0, .ref (b + 18)), (1, .ref (b + qs)), (2, .ref (b + (u + 40))), (5, .int 0), (6, .int x)]) [0, 3, 4, 5, 2, 1] rfl ?_
        have e_10 : (0 : Int32) = (nI 0) := rfl
        have e_11 : (0 : Int32) = (plN (ar 24) rp wd k dr (upd (fillN (-1) (ar 19) 12) x.toNatClampNeg h, fillN (-1) (ar 20) 12) x 0).2.1 := by first | rfl | (simp only [plN, if_pos g_3, if_neg (Int32.not_lt.mpr g_3), if_pos c_4, if_neg (Int32.not_lt.mpr c_4), if_neg p_5, if_pos (Int32.not_lt.mp p_5), if_neg p_7, if_pos (Int32.not_le.mp p_7), if_neg c_9] <;> rfl) | rfl | (simp only [plN, if_pos g_3, if_neg (Int32.not_lt.mpr g_3), if_pos c_4, if_neg (Int32.not_lt.mpr c_4), if_neg p_5, if_pos (Int32.not_lt.mp p_5), if_neg p_7, if_pos (Int32.not_le.mp p_7), if_neg c_9]; done) | (simp [plN, g_3, c_4, p_5, p_7, c_9]; done)
        have e_12 : (x : Int32) = (plN (ar 24) rp wd k dr (upd (fillN (-1) (ar 19) 12) x.toNatClampNeg h, fillN (-1) (ar 20) 12) x 0).2.2 := by first | rfl | (simp only [plN, if_pos g_3, if_neg (Int32.not_lt.mpr g_3), if_pos c_4, if_neg (Int32.not_lt.mpr c_4), if_neg p_5, if_pos (Int32.not_lt.mp p_5), if_neg p_7, if_pos (Int32.not_le.mp p_7), if_neg c_9] <;> rfl) | rfl | (simp only [plN, if_pos g_3, if_neg (Int32.not_lt.mpr g_3), if_pos c_4, if_neg (Int32.not_lt.mpr c_4), if_neg p_5, if_pos (Int32.not_lt.mp p_5), if_neg p_7, if_pos (Int32.not_le.mp p_7), if_neg c_9]; done) | (simp [plN, g_3, c_4, p_5, p_7, c_9]; done)
        have w_13 : (wl D b sc (va_up (va_up ar 19 (upd (fillN (-1) (ar 19) 12) (Int32.toNatClampNeg x) h)) 20 (fillN (-1) (ar 20) 12)) hn mh G) = (wl D b sc (va_up (va_up ar 19 ((plN (ar 24) rp wd k dr (upd (fillN (-1) (ar 19) 12) x.toNatClampNeg h, fillN (-1) (ar 20) 12) x 0).1).1) 20 ((plN (ar 24) rp wd k dr (upd (fillN (-1) (ar 19) 12) x.toNatClampNeg h, fillN (-1) (ar 20) 12) x 0).1).2) hn mh G) := by first | rfl | (simp only [plN, if_pos g_3, if_neg (Int32.not_lt.mpr g_3), if_pos c_4, if_neg (Int32.not_lt.mpr c_4), if_neg p_5, if_pos (Int32.not_lt.mp p_5), if_neg p_7, if_pos (Int32.not_le.mp p_7), if_neg c_9] <;> rfl) | rfl | (simp only [plN, if_pos g_3, if_neg (Int32.not_lt.mpr g_3), if_pos c_4, if_neg (Int32.not_lt.mpr c_4), if_neg p_5, if_pos (Int32.not_lt.mp p_5), if_neg p_7, if_pos (Int32.not_le.mp p_7), if_neg c_9]; done) | (simp [plN, g_3, c_4, p_5, p_7, c_9]; done)
        refine v_cong (es' := (wl D b sc (va_up (va_up ar 19 ((plN (ar 24) rp wd k dr (upd (fillN (-1) (ar 19) 12) x.toNatClampNeg h, fillN (-1) (ar 20) 12) x 0).1).1) 20 ((plN (ar 24) rp wd k dr (upd (fillN (-1) (ar 19) 12) x.toNatClampNeg h, fillN (-1) (ar 20) 12) x 0).1).2) hn mh G)) (lv' := [(7, .int (nI 0)), (0, .ref (b + 18)), (1, .ref (b + qs)), (2, .ref (b + (u + 40))), (5, .int (plN (ar 24) rp wd k dr (upd (fillN (-1) (ar 19) 12) x.toNatClampNeg h, fillN (-1) (ar 20) 12) x 0).2.1), (6, .int (plN (ar 24) rp wd k dr (upd (fillN (-1) (ar 19) 12) x.toNatClampNeg h, fillN (-1) (ar 20) 12) x 0).2.2)]) w_13 (cg3 (fun (z0 : Int32) (z1 : Int32) (z2 : Int32) => ([(7, .int z0), (0, .ref (b + 18)), (1, .ref (b + qs)), (2, .ref (b + (u + 40))), (5, .int z1), (6, .int z2)] : List (Nat × Value))) e_10 e_11 e_12) ?_
        refine loop_dn (P := fun i_57 => V p l e { frames := 4, cells := 0, slots := 0, locals := 97 } s m args below meth c D b 8 (MQ below (cQ D b 0 (fun r es' => r = none ∧ wl D b sc (va_up (va_up ar 19 (plF (ar 24) rp wd k dr (ar 19, ar 20) x h).1) 20 (plF (ar 24) rp wd k dr (ar 19, ar 20) x h).2) hn mh G = es')) args s 0 0 (fun q => b ≤ q)) 0 0 (wl D b sc (va_up (va_up ar 19 ((plN (ar 24) rp wd k dr (upd (fillN (-1) (ar 19) 12) x.toNatClampNeg h, fillN (-1) (ar 20) 12) x i_57).1).1) 20 ((plN (ar 24) rp wd k dr (upd (fillN (-1) (ar 19) 12) x.toNatClampNeg h, fillN (-1) (ar 20) 12) x i_57).1).2) hn mh G) [(7, .int (nI i_57)), (0, .ref (b + 18)), (1, .ref (b + qs)), (2, .ref (b + (u + 40))), (5, .int (plN (ar 24) rp wd k dr (upd (fillN (-1) (ar 19) 12) x.toNatClampNeg h, fillN (-1) (ar 20) 12) x i_57).2.1), (6, .int (plN (ar 24) rp wd k dr (upd (fillN (-1) (ar 19) 12) x.toNatClampNeg h, fillN (-1) (ar 20) 12) x i_57).2.2)] [] 57) 12 ?_ (fun i_57 hi_57 ih_57 => ?_)
        · skip
          have g_14 : (12 : Int32) ≤ nI 12 := nI_g12
          refine v_iload (n := 59) C dX0_plot_57 rfl rfl ?_
          refine v_bipush (n := 61) (v := 12) C dX0_plot_59 rfl (by decide) ?_
          refine v_icmp_ge (t := 101) (n := 64) C dX0_plot_61 (by decide) rfl (fun c_15 => ?_) (fun c_15 => ?_)
          · skip
            exact v_vret C dX0_plot_101 rfl ⟨rfl, by rw [plF, if_neg p_5, if_neg p_7]⟩
          · first | exact absurd c_15 g_3 | exact absurd g_3 c_15 | exact absurd c_15 (Int32.not_le.mpr g_3) | exact absurd c_15 (Int32.not_lt.mpr g_3) | exact absurd (Int32.not_le.mp g_3) c_15 | exact absurd (Int32.not_lt.mp g_3) c_15 | exact absurd (Int32.not_le.mp g_3) (Int32.not_lt.mpr c_15) | exact absurd (Int32.not_lt.mp g_3) (Int32.not_le.mpr c_15) | exact absurd (Int32.not_lt.mp c_15) (Int32.not_le.mpr (Int32.not_le.mp g_3))
        · skip
          have g_16 : ¬ (12 : Int32) ≤ nI i_57 := nI_n12 hi_57 (by decide)
          refine v_iload (n := 59) C dX0_plot_57 rfl rfl ?_
          refine v_bipush (n := 61) (v := 12) C dX0_plot_59 rfl (by decide) ?_
          refine v_icmp_ge (t := 101) (n := 64) C dX0_plot_61 (by decide) rfl (fun c_17 => ?_) (fun c_17 => ?_)
          · first | exact absurd c_17 g_16 | exact absurd g_16 c_17 | exact absurd c_17 (Int32.not_le.mpr g_16) | exact absurd c_17 (Int32.not_lt.mpr g_16) | exact absurd (Int32.not_le.mp g_16) c_17 | exact absurd (Int32.not_lt.mp g_16) c_17 | exact absurd (Int32.not_le.mp g_16) (Int32.not_lt.mpr c_17) | exact absurd (Int32.not_lt.mp g_16) (Int32.not_le.mpr c_17) | exact absurd (Int32.not_lt.mp c_17) (Int32.not_le.mpr (Int32.not_le.mp g_16))
          · skip
            refine v_iload (n := 66) C dX0_plot_64 rfl rfl ?_
            refine v_iconst (n := 67) (v := -1) C dX0_plot_66 rfl (by decide) ?_
            refine v_icmp_eq (t := 101) (n := 70) C dX0_plot_67 (by decide) rfl (fun c_18 => ?_) (fun c_18 => ?_)
            · skip
              exact v_vret C dX0_plot_101 rfl ⟨rfl, by rw [plF, if_neg p_5, if_neg p_7, plN_end hi_57 c_18]⟩
            · skip
              refine v_iload (n := 72) C dX0_plot_70 rfl rfl ?_
              refine v_iconst (n := 73) (v := 1) C dX0_plot_72 rfl (by decide) ?_
              refine v_iload (n := 75) C dX0_plot_73 rfl rfl ?_
              refine v_ishl (n := 76) C dX0_plot_75 rfl ?_
              refine v_ior (n := 77) C dX0_plot_76 rfl ?_
              refine v_istore (n := 79) (lv' := [(5, .int ((plN (ar 24) rp wd k dr (upd (fillN (-1) (ar 19) 12) x.toNatClampNeg h, fillN (-1) (ar 20) 12) x i_57).2.1 ||| (1 <<< ((plN (ar 24) rp wd k dr (upd (fillN (-1) (ar 19) 12) x.toNatClampNeg h, fillN (-1) (ar 20) 12) x i_57).2.2 &&& 31)))), (7, .int (nI i_57)), (0, .ref (b + 18)), (1, .ref (b + qs)), (2, .ref (b + (u + 40))), (6, .int (plN (ar 24) rp wd k dr (upd (fillN (-1) (ar 19) 12) x.toNatClampNeg h, fillN (-1) (ar 20) 12) x i_57).2.2)]) C dX0_plot_77 rfl (Nat.le_of_ble_eq_true rfl) rfl ?_
              refine v_aload_n (n := 80) C dX0_plot_79 rfl rfl rfl ?_
              refine v_aload_n (n := 81) C dX0_plot_80 rfl rfl rfl ?_
              refine v_aload_n (n := 82) C dX0_plot_81 rfl rfl rfl ?_
              refine v_iload (n := 84) C dX0_plot_82 rfl rfl ?_
              refine v_go (n := 87) C (vRun_V (As := [.ref (b + qs), .ref (b + (u + 40)), .int (plN (ar 24) rp wd k dr (upd (fillN (-1) (ar 19) 12) x.toNatClampNeg h, fillN (-1) (ar 20) 12) x i_57).2.2]) (rest := []) C wl_c18 rfl lk_X0_22 im_X0_sailOnFrom se_X0_sailOnFrom dX0_plot_84 (c_sailOnFrom l D b sc ar hn mh G ((plN (ar 24) rp wd k dr (upd (fillN (-1) (ar 19) 12) x.toNatClampNeg h, fillN (-1) (ar 20) 12) x i_57).1) qs rp wd hs u k dr ce sa hk hg (plN (ar 24) rp wd k dr (upd (fillN (-1) (ar 19) 12) x.toNatClampNeg h, fillN (-1) (ar 20) 12) x i_57).2.2) wm_X0_sailOnFrom rfl rfl ⟨Nat.le_of_ble_eq_true rfl, Nat.le_of_ble_eq_true rfl⟩ ⟨Nat.le_of_ble_eq_true rfl, Nat.le_of_ble_eq_true rfl⟩ (Nat.le_of_ble_eq_true rfl)) rfl ?_
              rintro _ _ ⟨rfl, rfl⟩ -
              refine v_aload_n (n := 88) C dX0_plot_87 rfl rfl rfl ?_
              refine v_iload (n := 90) C dX0_plot_88 rfl rfl ?_
              refine v_go (n := 93) C (vRun_V (As := [.int ((plN (ar 24) rp wd k dr (upd (fillN (-1) (ar 19) 12) x.toNatClampNeg h, fillN (-1) (ar 20) 12) x i_57).2.1 ||| (1 <<< ((plN (ar 24) rp wd k dr (upd (fillN (-1) (ar 19) 12) x.toNatClampNeg h, fillN (-1) (ar 20) 12) x i_57).2.2 &&& 31)))]) (rest := []) C wl_c18 rfl lk_X0_26 im_X0_soonestOpen se_X0_soonestOpen dX0_plot_90 (c_soonestOpen l D b sc (va_up (va_up ar 19 (soF (ar 24) rp wd k dr (plN (ar 24) rp wd k dr (upd (fillN (-1) (ar 19) 12) x.toNatClampNeg h, fillN (-1) (ar 20) 12) x i_57).2.2 ((plN (ar 24) rp wd k dr (upd (fillN (-1) (ar 19) 12) x.toNatClampNeg h, fillN (-1) (ar 20) 12) x i_57).1)).1) 20 (soF (ar 24) rp wd k dr (plN (ar 24) rp wd k dr (upd (fillN (-1) (ar 19) 12) x.toNatClampNeg h, fillN (-1) (ar 20) 12) x i_57).2.2 ((plN (ar 24) rp wd k dr (upd (fillN (-1) (ar 19) 12) x.toNatClampNeg h, fillN (-1) (ar 20) 12) x i_57).1)).2) hn mh G ((plN (ar 24) rp wd k dr (upd (fillN (-1) (ar 19) 12) x.toNatClampNeg h, fillN (-1) (ar 20) 12) x i_57).2.1 ||| (1 <<< ((plN (ar 24) rp wd k dr (upd (fillN (-1) (ar 19) 12) x.toNatClampNeg h, fillN (-1) (ar 20) 12) x i_57).2.2 &&& 31)))) wm_X0_soonestOpen rfl rfl ⟨Nat.le_of_ble_eq_true rfl, Nat.le_of_ble_eq_true rfl⟩ ⟨Nat.le_of_ble_eq_true rfl, Nat.le_of_ble_eq_true rfl⟩ (Nat.le_of_ble_eq_true rfl)) rfl ?_
              rintro _ _ ⟨rfl, rfl⟩ -
              refine v_istore (n := 95) (lv' := [(6, .int (spN (soF (ar 24) rp wd k dr (plN (ar 24) rp wd k dr (upd (fillN (-1) (ar 19) 12) x.toNatClampNeg h, fillN (-1) (ar 20) 12) x i_57).2.2 ((plN (ar 24) rp wd k dr (upd (fillN (-1) (ar 19) 12) x.toNatClampNeg h, fillN (-1) (ar 20) 12) x i_57).1)).1 ((plN (ar 24) rp wd k dr (upd (fillN (-1) (ar 19) 12) x.toNatClampNeg h, fillN (-1) (ar 20) 12) x i_57).2.1 ||| (1 <<< ((plN (ar 24) rp wd k dr (upd (fillN (-1) (ar 19) 12) x.toNatClampNeg h, fillN (-1) (ar 20) 12) x i_57).2.2 &&& 31))) 12)), (5, .int ((plN (ar 24) rp wd k dr (upd (fillN (-1) (ar 19) 12) x.toNatClampNeg h, fillN (-1) (ar 20) 12) x i_57).2.1 ||| (1 <<< ((plN (ar 24) rp wd k dr (upd (fillN (-1) (ar 19) 12) x.toNatClampNeg h, fillN (-1) (ar 20) 12) x i_57).2.2 &&& 31)))), (7, .int (nI i_57)), (0, .ref (b + 18)), (1, .ref (b + qs)), (2, .ref (b + (u + 40)))]) C dX0_plot_93 rfl (Nat.le_of_ble_eq_true rfl) rfl ?_
              refine v_iinc (n := 98) (v := ((nI i_57) + 1)) (lv' := [(7, .int ((nI i_57) + 1)), (6, .int (spN (soF (ar 24) rp wd k dr (plN (ar 24) rp wd k dr (upd (fillN (-1) (ar 19) 12) x.toNatClampNeg h, fillN (-1) (ar 20) 12) x i_57).2.2 ((plN (ar 24) rp wd k dr (upd (fillN (-1) (ar 19) 12) x.toNatClampNeg h, fillN (-1) (ar 20) 12) x i_57).1)).1 ((plN (ar 24) rp wd k dr (upd (fillN (-1) (ar 19) 12) x.toNatClampNeg h, fillN (-1) (ar 20) 12) x i_57).2.1 ||| (1 <<< ((plN (ar 24) rp wd k dr (upd (fillN (-1) (ar 19) 12) x.toNatClampNeg h, fillN (-1) (ar 20) 12) x i_57).2.2 &&& 31))) 12)), (5, .int ((plN (ar 24) rp wd k dr (upd (fillN (-1) (ar 19) 12) x.toNatClampNeg h, fillN (-1) (ar 20) 12) x i_57).2.1 ||| (1 <<< ((plN (ar 24) rp wd k dr (upd (fillN (-1) (ar 19) 12) x.toNatClampNeg h, fillN (-1) (ar 20) 12) x i_57).2.2 &&& 31)))), (0, .ref (b + 18)), (1, .ref (b + qs)), (2, .ref (b + (u + 40)))]) C dX0_plot_95 rfl rfl rfl (Nat.le_of_ble_eq_true rfl) rfl ?_
              refine v_goto (t := 57) C dX0_plot_98 (by decide) ?_
              refine v_pick (lv' := [(7, .int ((nI i_57) + 1)), (0, .ref (b + 18)), (1, .ref (b + qs)), (2, .ref (b + (u + 40))), (5, .int ((plN (ar 24) rp wd k dr (upd (fillN (-1) (ar 19) 12) x.toNatClampNeg h, fillN (-1) (ar 20) 12) x i_57).2.1 ||| (1 <<< ((plN (ar 24) rp wd k dr (upd (fillN (-1) (ar 19) 12) x.toNatClampNeg h, fillN (-1) (ar 20) 12) x i_57).2.2 &&& 31)))), (6, .int (spN (soF (ar 24) rp wd k dr (plN (ar 24) rp wd k dr (upd (fillN (-1) (ar 19) 12) x.toNatClampNeg h, fillN (-1) (ar 20) 12) x i_57).2.2 ((plN (ar 24) rp wd k dr (upd (fillN (-1) (ar 19) 12) x.toNatClampNeg h, fillN (-1) (ar 20) 12) x i_57).1)).1 ((plN (ar 24) rp wd k dr (upd (fillN (-1) (ar 19) 12) x.toNatClampNeg h, fillN (-1) (ar 20) 12) x i_57).2.1 ||| (1 <<< ((plN (ar 24) rp wd k dr (upd (fillN (-1) (ar 19) 12) x.toNatClampNeg h, fillN (-1) (ar 20) 12) x i_57).2.2 &&& 31))) 12))]) [0, 3, 4, 5, 2, 1] rfl ?_
              have e_19 : ((nI i_57) + 1) = (nI (i_57 + 1)) := nI_1 _
              have e_20 : (((plN (ar 24) rp wd k dr (upd (fillN (-1) (ar 19) 12) x.toNatClampNeg h, fillN (-1) (ar 20) 12) x i_57).2.1 ||| (1 <<< ((plN (ar 24) rp wd k dr (upd (fillN (-1) (ar 19) 12) x.toNatClampNeg h, fillN (-1) (ar 20) 12) x i_57).2.2 &&& 31))) : Int32) = (plN (ar 24) rp wd k dr (upd (fillN (-1) (ar 19) 12) x.toNatClampNeg h, fillN (-1) (ar 20) 12) x (i_57 + 1)).2.1 := by first | rfl | (simp only [plN, if_pos g_3, if_neg (Int32.not_lt.mpr g_3), if_pos c_4, if_neg (Int32.not_lt.mpr c_4), if_neg p_5, if_pos (Int32.not_lt.mp p_5), if_neg p_7, if_pos (Int32.not_le.mp p_7), if_neg c_9, if_neg g_16, if_pos (Int32.not_le.mp g_16), if_neg c_17, if_pos (Int32.not_le.mp c_17), if_neg c_18] <;> rfl) | rfl | (simp only [plN, if_pos g_3, if_neg (Int32.not_lt.mpr g_3), if_pos c_4, if_neg (Int32.not_lt.mpr c_4), if_neg p_5, if_pos (Int32.not_lt.mp p_5), if_neg p_7, if_pos (Int32.not_le.mp p_7), if_neg c_9, if_neg g_16, if_pos (Int32.not_le.mp g_16), if_neg c_17, if_pos (Int32.not_le.mp c_17), if_neg c_18]; done) | (simp [plN, g_3, c_4, p_5, p_7, c_9, g_16, c_17, c_18]; done)
              have e_21 : ((spN (soF (ar 24) rp wd k dr (plN (ar 24) rp wd k dr (upd (fillN (-1) (ar 19) 12) x.toNatClampNeg h, fillN (-1) (ar 20) 12) x i_57).2.2 ((plN (ar 24) rp wd k dr (upd (fillN (-1) (ar 19) 12) x.toNatClampNeg h, fillN (-1) (ar 20) 12) x i_57).1)).1 ((plN (ar 24) rp wd k dr (upd (fillN (-1) (ar 19) 12) x.toNatClampNeg h, fillN (-1) (ar 20) 12) x i_57).2.1 ||| (1 <<< ((plN (ar 24) rp wd k dr (upd (fillN (-1) (ar 19) 12) x.toNatClampNeg h, fillN (-1) (ar 20) 12) x i_57).2.2 &&& 31))) 12) : Int32) = (plN (ar 24) rp wd k dr (upd (fillN (-1) (ar 19) 12) x.toNatClampNeg h, fillN (-1) (ar 20) 12) x (i_57 + 1)).2.2 := by first | rfl | (simp only [plN, if_pos g_3, if_neg (Int32.not_lt.mpr g_3), if_pos c_4, if_neg (Int32.not_lt.mpr c_4), if_neg p_5, if_pos (Int32.not_lt.mp p_5), if_neg p_7, if_pos (Int32.not_le.mp p_7), if_neg c_9, if_neg g_16, if_pos (Int32.not_le.mp g_16), if_neg c_17, if_pos (Int32.not_le.mp c_17), if_neg c_18] <;> rfl) | rfl | (simp only [plN, if_pos g_3, if_neg (Int32.not_lt.mpr g_3), if_pos c_4, if_neg (Int32.not_lt.mpr c_4), if_neg p_5, if_pos (Int32.not_lt.mp p_5), if_neg p_7, if_pos (Int32.not_le.mp p_7), if_neg c_9, if_neg g_16, if_pos (Int32.not_le.mp g_16), if_neg c_17, if_pos (Int32.not_le.mp c_17), if_neg c_18]; done) | (simp [plN, g_3, c_4, p_5, p_7, c_9, g_16, c_17, c_18]; done)
              have w_22 : (wl D b sc (va_up (va_up ar 19 (soF (ar 24) rp wd k dr (plN (ar 24) rp wd k dr (upd (fillN (-1) (ar 19) 12) x.toNatClampNeg h, fillN (-1) (ar 20) 12) x i_57).2.2 ((plN (ar 24) rp wd k dr (upd (fillN (-1) (ar 19) 12) x.toNatClampNeg h, fillN (-1) (ar 20) 12) x i_57).1)).1) 20 (soF (ar 24) rp wd k dr (plN (ar 24) rp wd k dr (upd (fillN (-1) (ar 19) 12) x.toNatClampNeg h, fillN (-1) (ar 20) 12) x i_57).2.2 ((plN (ar 24) rp wd k dr (upd (fillN (-1) (ar 19) 12) x.toNatClampNeg h, fillN (-1) (ar 20) 12) x i_57).1)).2) hn mh G) = (wl D b sc (va_up (va_up ar 19 ((plN (ar 24) rp wd k dr (upd (fillN (-1) (ar 19) 12) x.toNatClampNeg h, fillN (-1) (ar 20) 12) x (i_57 + 1)).1).1) 20 ((plN (ar 24) rp wd k dr (upd (fillN (-1) (ar 19) 12) x.toNatClampNeg h, fillN (-1) (ar 20) 12) x (i_57 + 1)).1).2) hn mh G) := by first | rfl | (simp only [plN, if_pos g_3, if_neg (Int32.not_lt.mpr g_3), if_pos c_4, if_neg (Int32.not_lt.mpr c_4), if_neg p_5, if_pos (Int32.not_lt.mp p_5), if_neg p_7, if_pos (Int32.not_le.mp p_7), if_neg c_9, if_neg g_16, if_pos (Int32.not_le.mp g_16), if_neg c_17, if_pos (Int32.not_le.mp c_17), if_neg c_18] <;> rfl) | rfl | (simp only [plN, if_pos g_3, if_neg (Int32.not_lt.mpr g_3), if_pos c_4, if_neg (Int32.not_lt.mpr c_4), if_neg p_5, if_pos (Int32.not_lt.mp p_5), if_neg p_7, if_pos (Int32.not_le.mp p_7), if_neg c_9, if_neg g_16, if_pos (Int32.not_le.mp g_16), if_neg c_17, if_pos (Int32.not_le.mp c_17), if_neg c_18]; done) | (simp [plN, g_3, c_4, p_5, p_7, c_9, g_16, c_17, c_18]; done)
              refine v_cong (es' := (wl D b sc (va_up (va_up ar 19 ((plN (ar 24) rp wd k dr (upd (fillN (-1) (ar 19) 12) x.toNatClampNeg h, fillN (-1) (ar 20) 12) x (i_57 + 1)).1).1) 20 ((plN (ar 24) rp wd k dr (upd (fillN (-1) (ar 19) 12) x.toNatClampNeg h, fillN (-1) (ar 20) 12) x (i_57 + 1)).1).2) hn mh G)) (lv' := [(7, .int (nI (i_57 + 1))), (0, .ref (b + 18)), (1, .ref (b + qs)), (2, .ref (b + (u + 40))), (5, .int (plN (ar 24) rp wd k dr (upd (fillN (-1) (ar 19) 12) x.toNatClampNeg h, fillN (-1) (ar 20) 12) x (i_57 + 1)).2.1), (6, .int (plN (ar 24) rp wd k dr (upd (fillN (-1) (ar 19) 12) x.toNatClampNeg h, fillN (-1) (ar 20) 12) x (i_57 + 1)).2.2)]) w_22 (cg3 (fun (z0 : Int32) (z1 : Int32) (z2 : Int32) => ([(7, .int z0), (0, .ref (b + 18)), (1, .ref (b + qs)), (2, .ref (b + (u + 40))), (5, .int z1), (6, .int z2)] : List (Nat × Value))) e_19 e_20 e_21) ?_
              exact ih_57
      · exact absurd c_9 (by decide)
    · first | exact absurd c_4 g_3 | exact absurd g_3 c_4 | exact absurd c_4 (Int32.not_le.mpr g_3) | exact absurd c_4 (Int32.not_lt.mpr g_3) | exact absurd (Int32.not_le.mp g_3) c_4 | exact absurd (Int32.not_lt.mp g_3) c_4 | exact absurd (Int32.not_le.mp g_3) (Int32.not_lt.mpr c_4) | exact absurd (Int32.not_lt.mp g_3) (Int32.not_le.mpr c_4) | exact absurd (Int32.not_lt.mp c_4) (Int32.not_le.mpr (Int32.not_le.mp g_3))
  · skip
    have g_23 : ¬ (12 : Int32) ≤ nI i_3 := nI_n12 hi_3 (by decide)
    refine v_iload (n := 5) C dX0_plot_3 rfl rfl ?_
    refine v_bipush (n := 7) (v := 12) C dX0_plot_5 rfl (by decide) ?_
    refine v_icmp_ge (t := 32) (n := 10) C dX0_plot_7 (by decide) rfl (fun c_24 => ?_) (fun c_24 => ?_)
    · first | exact absurd c_24 g_23 | exact absurd g_23 c_24 | exact absurd c_24 (Int32.not_le.mpr g_23) | exact absurd c_24 (Int32.not_lt.mpr g_23) | exact absurd (Int32.not_le.mp g_23) c_24 | exact absurd (Int32.not_lt.mp g_23) c_24 | exact absurd (Int32.not_le.mp g_23) (Int32.not_lt.mpr c_24) | exact absurd (Int32.not_lt.mp g_23) (Int32.not_le.mpr c_24) | exact absurd (Int32.not_lt.mp c_24) (Int32.not_le.mpr (Int32.not_le.mp g_23))
    · skip
      refine v_aload_n (n := 11) C dX0_plot_10 rfl rfl rfl ?_
      refine v_get (n := 14) C dX0_plot_11 rfl fl_X0_9_X0 wl_c18 rfl ?_
      refine v_iload (n := 16) C dX0_plot_14 rfl rfl ?_
      refine v_iconst (n := 17) (v := -1) C dX0_plot_16 rfl (by decide) ?_
      refine v_iast (n := 18) (es' := (wl D b sc (va_up (va_up ar 19 (upd (fillN (-1) (ar 19) i_3) i_3 (-1))) 20 (fillN (-1) (ar 20) i_3)) hn mh G)) C dX0_plot_17 rfl (show (wl D b sc (va_up (va_up ar 19 (fillN (-1) (ar 19) i_3)) 20 (fillN (-1) (ar 20) i_3)) hn mh G)[19]? = some (.inl (D.1 13, 12, .inl (fillN (-1) (ar 19) i_3))) from wl_c19) (nI_vp hi_3 (by decide) (by decide)) (by rw [nI_clamp (show i_3 < 2 ^ 31 by omega)]; exact rfl) ?_
      refine v_aload_n (n := 19) C dX0_plot_18 rfl rfl rfl ?_
      refine v_get (n := 22) C dX0_plot_19 rfl fl_X0_15_X0 wl_c18 rfl ?_
      refine v_iload (n := 24) C dX0_plot_22 rfl rfl ?_
      refine v_iconst (n := 25) (v := -1) C dX0_plot_24 rfl (by decide) ?_
      refine v_iast (n := 26) (es' := (wl D b sc (va_up (va_up ar 19 (upd (fillN (-1) (ar 19) i_3) i_3 (-1))) 20 (upd (fillN (-1) (ar 20) i_3) i_3 (-1))) hn mh G)) C dX0_plot_25 rfl (show (wl D b sc (va_up (va_up ar 19 (upd (fillN (-1) (ar 19) i_3) i_3 (-1))) 20 (fillN (-1) (ar 20) i_3)) hn mh G)[20]? = some (.inl (D.1 13, 12, .inl (fillN (-1) (ar 20) i_3))) from wl_c20) (nI_vp hi_3 (by decide) (by decide)) (by rw [nI_clamp (show i_3 < 2 ^ 31 by omega)]; exact rfl) ?_
      refine v_iinc (n := 29) (v := ((nI i_3) + 1)) (lv' := [(5, .int ((nI i_3) + 1)), (0, .ref (b + 18)), (1, .ref (b + qs)), (2, .ref (b + (u + 40))), (3, .int x), (4, .int h)]) C dX0_plot_26 rfl rfl rfl (Nat.le_of_ble_eq_true rfl) rfl ?_
      refine v_goto (t := 3) C dX0_plot_29 (by decide) ?_
      refine v_pick (lv' := [(5, .int ((nI i_3) + 1)), (0, .ref (b + 18)), (1, .ref (b + qs)), (2, .ref (b + (u + 40))), (3, .int x), (4, .int h)]) [0, 1, 2, 3, 4, 5] rfl ?_
      have e_25 : ((nI i_3) + 1) = (nI (i_3 + 1)) := nI_1 _
      have w_26 : (wl D b sc (va_up (va_up ar 19 (upd (fillN (-1) (ar 19) i_3) i_3 (-1))) 20 (upd (fillN (-1) (ar 20) i_3) i_3 (-1))) hn mh G) = (wl D b sc (va_up (va_up ar 19 (fillN (-1) (ar 19) (i_3 + 1))) 20 (fillN (-1) (ar 20) (i_3 + 1))) hn mh G) := by first | rfl | (simp only [fillN, if_neg g_23, if_pos (Int32.not_le.mp g_23), if_neg c_24, if_pos (Int32.not_le.mp c_24)]; done) | (simp [fillN, g_23, c_24]; done)
      refine v_cong (es' := (wl D b sc (va_up (va_up ar 19 (fillN (-1) (ar 19) (i_3 + 1))) 20 (fillN (-1) (ar 20) (i_3 + 1))) hn mh G)) (lv' := [(5, .int (nI (i_3 + 1))), (0, .ref (b + 18)), (1, .ref (b + qs)), (2, .ref (b + (u + 40))), (3, .int x), (4, .int h)]) w_26 (cg1 (fun (z0 : Int32) => ([(5, .int z0), (0, .ref (b + 18)), (1, .ref (b + qs)), (2, .ref (b + (u + 40))), (3, .int x), (4, .int h)] : List (Nat × Value))) e_25) ?_
      exact ih_3
end
