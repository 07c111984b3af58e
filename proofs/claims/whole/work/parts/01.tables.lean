/-- the rows of new T[n][m] stand in the rest of the library: the whole of it is read from here on -/
abbrev gb_innerC : ClassId → Nat → Value → Cell := Jvm.Free.Multi.innerC
-- ===== PART A: goes FIRST, ahead of the names: the tables' words, and 'selects' of the private methods out of them =====
/-- a private method of a class that the tables say can be made, by its rows of tables_1 -/
def lw_okq (q : MethodName × Nat) : Prop := (q.1.cls ≠ "java/lang/invoke/MethodHandle" ∧ q.1.cls ≠ "java/lang/invoke/VarHandle") ∧ Cond.instantiable q.1.cls q.2 ∈ tables_1 ∧ Cond.privateMethod q.1 ∈ tables_1 ∧ Cond.instanceMethod q.1 ∈ tables_1
theorem lw_p0 : lw_okq (⟨"GaleBeach$Law", "readConditions", "(LGaleBeach$Scroll;)Z"⟩, 8) := ⟨⟨by decide +kernel, by decide +kernel⟩, List.mem_of_getElem? (i := 326) (by decide +kernel), List.mem_of_getElem? (i := 420) (by decide +kernel), List.mem_of_getElem? (i := 421) (by decide +kernel)⟩
theorem lw_p1 : lw_okq (⟨"GaleBeach$Law", "readCondition", "(LGaleBeach$Scroll;I)Z"⟩, 8) := ⟨⟨by decide +kernel, by decide +kernel⟩, List.mem_of_getElem? (i := 326) (by decide +kernel), List.mem_of_getElem? (i := 432) (by decide +kernel), List.mem_of_getElem? (i := 433) (by decide +kernel)⟩
theorem lw_p2 : lw_okq (⟨"GaleBeach$Law", "readOutcome", "(LGaleBeach$Scroll;)Z"⟩, 8) := ⟨⟨by decide +kernel, by decide +kernel⟩, List.mem_of_getElem? (i := 326) (by decide +kernel), List.mem_of_getElem? (i := 446) (by decide +kernel), List.mem_of_getElem? (i := 447) (by decide +kernel)⟩
theorem lw_p3 : lw_okq (⟨"GaleBeach$Beach", "readItem", "(LGaleBeach$Scroll;)Z"⟩, 14) := ⟨⟨by decide +kernel, by decide +kernel⟩, List.mem_of_getElem? (i := 217) (by decide +kernel), List.mem_of_getElem? (i := 459) (by decide +kernel), List.mem_of_getElem? (i := 460) (by decide +kernel)⟩
theorem lw_p4 : lw_okq (⟨"GaleBeach$Beach", "readNumbers", "(LGaleBeach$Scroll;I)Z"⟩, 14) := ⟨⟨by decide +kernel, by decide +kernel⟩, List.mem_of_getElem? (i := 217) (by decide +kernel), List.mem_of_getElem? (i := 464) (by decide +kernel), List.mem_of_getElem? (i := 465) (by decide +kernel)⟩
theorem lw_p5 : lw_okq (⟨"GaleBeach$Beach", "addCells", "()Z"⟩, 14) := ⟨⟨by decide +kernel, by decide +kernel⟩, List.mem_of_getElem? (i := 217) (by decide +kernel), List.mem_of_getElem? (i := 470) (by decide +kernel), List.mem_of_getElem? (i := 471) (by decide +kernel)⟩
theorem lw_p6 : lw_okq (⟨"GaleBeach$Beach", "addTide", "()Z"⟩, 14) := ⟨⟨by decide +kernel, by decide +kernel⟩, List.mem_of_getElem? (i := 217) (by decide +kernel), List.mem_of_getElem? (i := 475) (by decide +kernel), List.mem_of_getElem? (i := 476) (by decide +kernel)⟩
theorem lw_p7 : lw_okq (⟨"GaleBeach$Beach", "addWind", "()Z"⟩, 14) := ⟨⟨by decide +kernel, by decide +kernel⟩, List.mem_of_getElem? (i := 217) (by decide +kernel), List.mem_of_getElem? (i := 483) (by decide +kernel), List.mem_of_getElem? (i := 484) (by decide +kernel)⟩
theorem lw_p8 : lw_okq (⟨"GaleBeach$Weather", "makeRoom", "(I)V"⟩, 8) := ⟨⟨by decide +kernel, by decide +kernel⟩, List.mem_of_getElem? (i := 223) (by decide +kernel), List.mem_of_getElem? (i := 494) (by decide +kernel), List.mem_of_getElem? (i := 495) (by decide +kernel)⟩
theorem lw_p9 : lw_okq (⟨"GaleBeach$Beach", "addKind", "()Z"⟩, 14) := ⟨⟨by decide +kernel, by decide +kernel⟩, List.mem_of_getElem? (i := 217) (by decide +kernel), List.mem_of_getElem? (i := 498) (by decide +kernel), List.mem_of_getElem? (i := 499) (by decide +kernel)⟩
theorem lw_p10 : lw_okq (⟨"GaleBeach$Beach", "addLoss", "()Z"⟩, 14) := ⟨⟨by decide +kernel, by decide +kernel⟩, List.mem_of_getElem? (i := 217) (by decide +kernel), List.mem_of_getElem? (i := 505) (by decide +kernel), List.mem_of_getElem? (i := 506) (by decide +kernel)⟩
theorem lw_p11 : lw_okq (⟨"GaleBeach", "layLaw", "()I"⟩, 10) := ⟨⟨by decide +kernel, by decide +kernel⟩, List.mem_of_getElem? (i := 16) (by decide +kernel), List.mem_of_getElem? (i := 513) (by decide +kernel), List.mem_of_getElem? (i := 514) (by decide +kernel)⟩
theorem lw_p12 : lw_okq (⟨"GaleBeach", "layBeach", "()I"⟩, 10) := ⟨⟨by decide +kernel, by decide +kernel⟩, List.mem_of_getElem? (i := 16) (by decide +kernel), List.mem_of_getElem? (i := 517) (by decide +kernel), List.mem_of_getElem? (i := 518) (by decide +kernel)⟩
theorem lw_p13 : lw_okq (⟨"GaleBeach", "isLoss", "(I)Z"⟩, 10) := ⟨⟨by decide +kernel, by decide +kernel⟩, List.mem_of_getElem? (i := 16) (by decide +kernel), List.mem_of_getElem? (i := 542) (by decide +kernel), List.mem_of_getElem? (i := 543) (by decide +kernel)⟩
theorem lw_p14 : lw_okq (⟨"GaleBeach", "isCell", "(I)Z"⟩, 10) := ⟨⟨by decide +kernel, by decide +kernel⟩, List.mem_of_getElem? (i := 16) (by decide +kernel), List.mem_of_getElem? (i := 564) (by decide +kernel), List.mem_of_getElem? (i := 565) (by decide +kernel)⟩
theorem lw_p15 : lw_okq (⟨"GaleBeach", "isKind", "(I)Z"⟩, 10) := ⟨⟨by decide +kernel, by decide +kernel⟩, List.mem_of_getElem? (i := 16) (by decide +kernel), List.mem_of_getElem? (i := 572) (by decide +kernel), List.mem_of_getElem? (i := 573) (by decide +kernel)⟩
def lw_privs_1 : List (MethodName × Nat) := [(⟨"GaleBeach$Law", "readConditions", "(LGaleBeach$Scroll;)Z"⟩, 8), (⟨"GaleBeach$Law", "readCondition", "(LGaleBeach$Scroll;I)Z"⟩, 8), (⟨"GaleBeach$Law", "readOutcome", "(LGaleBeach$Scroll;)Z"⟩, 8), (⟨"GaleBeach$Beach", "readItem", "(LGaleBeach$Scroll;)Z"⟩, 14), (⟨"GaleBeach$Beach", "readNumbers", "(LGaleBeach$Scroll;I)Z"⟩, 14), (⟨"GaleBeach$Beach", "addCells", "()Z"⟩, 14), (⟨"GaleBeach$Beach", "addTide", "()Z"⟩, 14), (⟨"GaleBeach$Beach", "addWind", "()Z"⟩, 14), (⟨"GaleBeach$Weather", "makeRoom", "(I)V"⟩, 8), (⟨"GaleBeach$Beach", "addKind", "()Z"⟩, 14), (⟨"GaleBeach$Beach", "addLoss", "()Z"⟩, 14), (⟨"GaleBeach", "layLaw", "()I"⟩, 10), (⟨"GaleBeach", "layBeach", "()I"⟩, 10), (⟨"GaleBeach", "isLoss", "(I)Z"⟩, 10), (⟨"GaleBeach", "isCell", "(I)Z"⟩, 10), (⟨"GaleBeach", "isKind", "(I)Z"⟩, 10)]
theorem lw_r1 : ∀ q ∈ lw_privs_1, lw_okq q := List.forall_mem_cons.mpr ⟨lw_p0, List.forall_mem_cons.mpr ⟨lw_p1, List.forall_mem_cons.mpr ⟨lw_p2, List.forall_mem_cons.mpr ⟨lw_p3, List.forall_mem_cons.mpr ⟨lw_p4, List.forall_mem_cons.mpr ⟨lw_p5, List.forall_mem_cons.mpr ⟨lw_p6, List.forall_mem_cons.mpr ⟨lw_p7, List.forall_mem_cons.mpr ⟨lw_p8, List.forall_mem_cons.mpr ⟨lw_p9, List.forall_mem_cons.mpr ⟨lw_p10, List.forall_mem_cons.mpr ⟨lw_p11, List.forall_mem_cons.mpr ⟨lw_p12, List.forall_mem_cons.mpr ⟨lw_p13, List.forall_mem_cons.mpr ⟨lw_p14, List.forall_mem_cons.mpr ⟨lw_p15, fun _ h => absurd h List.not_mem_nil⟩⟩⟩⟩⟩⟩⟩⟩⟩⟩⟩⟩⟩⟩⟩⟩
theorem lw_p16 : lw_okq (⟨"GaleBeach", "lossesBehind", "(I)I"⟩, 10) := ⟨⟨by decide +kernel, by decide +kernel⟩, List.mem_of_getElem? (i := 16) (by decide +kernel), List.mem_of_getElem? (i := 584) (by decide +kernel), List.mem_of_getElem? (i := 585) (by decide +kernel)⟩
theorem lw_p17 : lw_okq (⟨"GaleBeach$Matching", "lowestFor", "(II)I"⟩, 2) := ⟨⟨by decide +kernel, by decide +kernel⟩, List.mem_of_getElem? (i := 152) (by decide +kernel), List.mem_of_getElem? (i := 602) (by decide +kernel), List.mem_of_getElem? (i := 603) (by decide +kernel)⟩
theorem lw_p18 : lw_okq (⟨"GaleBeach", "weighLosses", "(I)V"⟩, 10) := ⟨⟨by decide +kernel, by decide +kernel⟩, List.mem_of_getElem? (i := 16) (by decide +kernel), List.mem_of_getElem? (i := 659) (by decide +kernel), List.mem_of_getElem? (i := 660) (by decide +kernel)⟩
theorem lw_p19 : lw_okq (⟨"GaleBeach$Outlook", "sumFrom", "(III)J"⟩, 5) := ⟨⟨by decide +kernel, by decide +kernel⟩, List.mem_of_getElem? (i := 166) (by decide +kernel), List.mem_of_getElem? (i := 694) (by decide +kernel), List.mem_of_getElem? (i := 695) (by decide +kernel)⟩
theorem lw_p20 : lw_okq (⟨"GaleBeach$Stuffs", "leastCost", "(I)I"⟩, 4) := ⟨⟨by decide +kernel, by decide +kernel⟩, List.mem_of_getElem? (i := 195) (by decide +kernel), List.mem_of_getElem? (i := 801) (by decide +kernel), List.mem_of_getElem? (i := 802) (by decide +kernel)⟩
theorem lw_p21 : lw_okq (⟨"GaleBeach$Stuffs", "costThrough", "(II)I"⟩, 4) := ⟨⟨by decide +kernel, by decide +kernel⟩, List.mem_of_getElem? (i := 195) (by decide +kernel), List.mem_of_getElem? (i := 806) (by decide +kernel), List.mem_of_getElem? (i := 807) (by decide +kernel)⟩
theorem lw_p22 : lw_okq (⟨"GaleBeachModel", "ruleItem", "()V"⟩, 36) := ⟨⟨by decide +kernel, by decide +kernel⟩, List.mem_of_getElem? (i := 848) (by decide +kernel), List.mem_of_getElem? (i := 979) (by decide +kernel), List.mem_of_getElem? (i := 980) (by decide +kernel)⟩
theorem lw_p23 : lw_okq (⟨"GaleBeachModel", "next", "()I"⟩, 36) := ⟨⟨by decide +kernel, by decide +kernel⟩, List.mem_of_getElem? (i := 848) (by decide +kernel), List.mem_of_getElem? (i := 983) (by decide +kernel), List.mem_of_getElem? (i := 984) (by decide +kernel)⟩
theorem lw_p24 : lw_okq (⟨"GaleBeachModel", "value", "(II)I"⟩, 36) := ⟨⟨by decide +kernel, by decide +kernel⟩, List.mem_of_getElem? (i := 848) (by decide +kernel), List.mem_of_getElem? (i := 989) (by decide +kernel), List.mem_of_getElem? (i := 990) (by decide +kernel)⟩
theorem lw_p25 : lw_okq (⟨"GaleBeachModel", "more", "(II)I"⟩, 36) := ⟨⟨by decide +kernel, by decide +kernel⟩, List.mem_of_getElem? (i := 848) (by decide +kernel), List.mem_of_getElem? (i := 994) (by decide +kernel), List.mem_of_getElem? (i := 995) (by decide +kernel)⟩
theorem lw_p26 : lw_okq (⟨"GaleBeachModel", "ends", "()V"⟩, 36) := ⟨⟨by decide +kernel, by decide +kernel⟩, List.mem_of_getElem? (i := 848) (by decide +kernel), List.mem_of_getElem? (i := 998) (by decide +kernel), List.mem_of_getElem? (i := 999) (by decide +kernel)⟩
theorem lw_p27 : lw_okq (⟨"GaleBeachModel", "item", "()V"⟩, 36) := ⟨⟨by decide +kernel, by decide +kernel⟩, List.mem_of_getElem? (i := 848) (by decide +kernel), List.mem_of_getElem? (i := 1002) (by decide +kernel), List.mem_of_getElem? (i := 1003) (by decide +kernel)⟩
theorem lw_p28 : lw_okq (⟨"GaleBeachModel", "kindItem", "()V"⟩, 36) := ⟨⟨by decide +kernel, by decide +kernel⟩, List.mem_of_getElem? (i := 848) (by decide +kernel), List.mem_of_getElem? (i := 1006) (by decide +kernel), List.mem_of_getElem? (i := 1007) (by decide +kernel)⟩
theorem lw_p29 : lw_okq (⟨"GaleBeachModel", "lossItem", "()V"⟩, 36) := ⟨⟨by decide +kernel, by decide +kernel⟩, List.mem_of_getElem? (i := 848) (by decide +kernel), List.mem_of_getElem? (i := 1010) (by decide +kernel), List.mem_of_getElem? (i := 1011) (by decide +kernel)⟩
theorem lw_p30 : lw_okq (⟨"GaleBeachModel", "laysWorlds", "(I)V"⟩, 36) := ⟨⟨by decide +kernel, by decide +kernel⟩, List.mem_of_getElem? (i := 848) (by decide +kernel), List.mem_of_getElem? (i := 1019) (by decide +kernel), List.mem_of_getElem? (i := 1020) (by decide +kernel)⟩
theorem lw_p31 : lw_okq (⟨"GaleBeachModel", "drifts", "(IIII)I"⟩, 36) := ⟨⟨by decide +kernel, by decide +kernel⟩, List.mem_of_getElem? (i := 848) (by decide +kernel), List.mem_of_getElem? (i := 1023) (by decide +kernel), List.mem_of_getElem? (i := 1024) (by decide +kernel)⟩
def lw_privs_2 : List (MethodName × Nat) := [(⟨"GaleBeach", "lossesBehind", "(I)I"⟩, 10), (⟨"GaleBeach$Matching", "lowestFor", "(II)I"⟩, 2), (⟨"GaleBeach", "weighLosses", "(I)V"⟩, 10), (⟨"GaleBeach$Outlook", "sumFrom", "(III)J"⟩, 5), (⟨"GaleBeach$Stuffs", "leastCost", "(I)I"⟩, 4), (⟨"GaleBeach$Stuffs", "costThrough", "(II)I"⟩, 4), (⟨"GaleBeachModel", "ruleItem", "()V"⟩, 36), (⟨"GaleBeachModel", "next", "()I"⟩, 36), (⟨"GaleBeachModel", "value", "(II)I"⟩, 36), (⟨"GaleBeachModel", "more", "(II)I"⟩, 36), (⟨"GaleBeachModel", "ends", "()V"⟩, 36), (⟨"GaleBeachModel", "item", "()V"⟩, 36), (⟨"GaleBeachModel", "kindItem", "()V"⟩, 36), (⟨"GaleBeachModel", "lossItem", "()V"⟩, 36), (⟨"GaleBeachModel", "laysWorlds", "(I)V"⟩, 36), (⟨"GaleBeachModel", "drifts", "(IIII)I"⟩, 36)]
theorem lw_r2 : ∀ q ∈ lw_privs_2, lw_okq q := List.forall_mem_cons.mpr ⟨lw_p16, List.forall_mem_cons.mpr ⟨lw_p17, List.forall_mem_cons.mpr ⟨lw_p18, List.forall_mem_cons.mpr ⟨lw_p19, List.forall_mem_cons.mpr ⟨lw_p20, List.forall_mem_cons.mpr ⟨lw_p21, List.forall_mem_cons.mpr ⟨lw_p22, List.forall_mem_cons.mpr ⟨lw_p23, List.forall_mem_cons.mpr ⟨lw_p24, List.forall_mem_cons.mpr ⟨lw_p25, List.forall_mem_cons.mpr ⟨lw_p26, List.forall_mem_cons.mpr ⟨lw_p27, List.forall_mem_cons.mpr ⟨lw_p28, List.forall_mem_cons.mpr ⟨lw_p29, List.forall_mem_cons.mpr ⟨lw_p30, List.forall_mem_cons.mpr ⟨lw_p31, fun _ h => absurd h List.not_mem_nil⟩⟩⟩⟩⟩⟩⟩⟩⟩⟩⟩⟩⟩⟩⟩⟩
theorem lw_p32 : lw_okq (⟨"GaleBeachModel", "blows", "(II)I"⟩, 36) := ⟨⟨by decide +kernel, by decide +kernel⟩, List.mem_of_getElem? (i := 848) (by decide +kernel), List.mem_of_getElem? (i := 1027) (by decide +kernel), List.mem_of_getElem? (i := 1028) (by decide +kernel)⟩
theorem lw_p33 : lw_okq (⟨"GaleBeachModel", "isLoss", "(I)Z"⟩, 36) := ⟨⟨by decide +kernel, by decide +kernel⟩, List.mem_of_getElem? (i := 848) (by decide +kernel), List.mem_of_getElem? (i := 1045) (by decide +kernel), List.mem_of_getElem? (i := 1046) (by decide +kernel)⟩
theorem lw_p34 : lw_okq (⟨"GaleBeachModel", "counts", "(IIIIIZ)I"⟩, 36) := ⟨⟨by decide +kernel, by decide +kernel⟩, List.mem_of_getElem? (i := 848) (by decide +kernel), List.mem_of_getElem? (i := 1050) (by decide +kernel), List.mem_of_getElem? (i := 1051) (by decide +kernel)⟩
theorem lw_p35 : lw_okq (⟨"GaleBeachModel", "isGainsaid", "(II)Z"⟩, 36) := ⟨⟨by decide +kernel, by decide +kernel⟩, List.mem_of_getElem? (i := 848) (by decide +kernel), List.mem_of_getElem? (i := 1054) (by decide +kernel), List.mem_of_getElem? (i := 1055) (by decide +kernel)⟩
theorem lw_p36 : lw_okq (⟨"GaleBeachModel", "isNot", "(III)Z"⟩, 36) := ⟨⟨by decide +kernel, by decide +kernel⟩, List.mem_of_getElem? (i := 848) (by decide +kernel), List.mem_of_getElem? (i := 1058) (by decide +kernel), List.mem_of_getElem? (i := 1059) (by decide +kernel)⟩
theorem lw_p37 : lw_okq (⟨"GaleBeachModel", "isOf", "(III)Z"⟩, 36) := ⟨⟨by decide +kernel, by decide +kernel⟩, List.mem_of_getElem? (i := 848) (by decide +kernel), List.mem_of_getElem? (i := 1062) (by decide +kernel), List.mem_of_getElem? (i := 1063) (by decide +kernel)⟩
theorem lw_p38 : lw_okq (⟨"GaleBeachModel", "sees", "(II)Z"⟩, 36) := ⟨⟨by decide +kernel, by decide +kernel⟩, List.mem_of_getElem? (i := 848) (by decide +kernel), List.mem_of_getElem? (i := 1066) (by decide +kernel), List.mem_of_getElem? (i := 1067) (by decide +kernel)⟩
theorem lw_p39 : lw_okq (⟨"GaleBeachModel", "isCell", "(I)Z"⟩, 36) := ⟨⟨by decide +kernel, by decide +kernel⟩, List.mem_of_getElem? (i := 848) (by decide +kernel), List.mem_of_getElem? (i := 1074) (by decide +kernel), List.mem_of_getElem? (i := 1075) (by decide +kernel)⟩
theorem lw_p40 : lw_okq (⟨"GaleBeachModel", "isKind", "(I)Z"⟩, 36) := ⟨⟨by decide +kernel, by decide +kernel⟩, List.mem_of_getElem? (i := 848) (by decide +kernel), List.mem_of_getElem? (i := 1082) (by decide +kernel), List.mem_of_getElem? (i := 1083) (by decide +kernel)⟩
theorem lw_p41 : lw_okq (⟨"GaleBeachModel", "fromOf", "(I)I"⟩, 36) := ⟨⟨by decide +kernel, by decide +kernel⟩, List.mem_of_getElem? (i := 848) (by decide +kernel), List.mem_of_getElem? (i := 1090) (by decide +kernel), List.mem_of_getElem? (i := 1091) (by decide +kernel)⟩
theorem lw_p42 : lw_okq (⟨"GaleBeachModel", "parts", "()Z"⟩, 36) := ⟨⟨by decide +kernel, by decide +kernel⟩, List.mem_of_getElem? (i := 848) (by decide +kernel), List.mem_of_getElem? (i := 1098) (by decide +kernel), List.mem_of_getElem? (i := 1099) (by decide +kernel)⟩
theorem lw_p43 : lw_okq (⟨"GaleBeachModel", "isThere", "(III)Z"⟩, 36) := ⟨⟨by decide +kernel, by decide +kernel⟩, List.mem_of_getElem? (i := 848) (by decide +kernel), List.mem_of_getElem? (i := 1111) (by decide +kernel), List.mem_of_getElem? (i := 1112) (by decide +kernel)⟩
theorem lw_p44 : lw_okq (⟨"GaleBeachModel", "leftOf", "(I)I"⟩, 36) := ⟨⟨by decide +kernel, by decide +kernel⟩, List.mem_of_getElem? (i := 848) (by decide +kernel), List.mem_of_getElem? (i := 1123) (by decide +kernel), List.mem_of_getElem? (i := 1124) (by decide +kernel)⟩
theorem lw_p45 : lw_okq (⟨"GaleBeachModel", "hopeOf", "(IIII)J"⟩, 36) := ⟨⟨by decide +kernel, by decide +kernel⟩, List.mem_of_getElem? (i := 848) (by decide +kernel), List.mem_of_getElem? (i := 1134) (by decide +kernel), List.mem_of_getElem? (i := 1135) (by decide +kernel)⟩
theorem lw_p46 : lw_okq (⟨"GaleBeachModel", "greatest", "()I"⟩, 36) := ⟨⟨by decide +kernel, by decide +kernel⟩, List.mem_of_getElem? (i := 848) (by decide +kernel), List.mem_of_getElem? (i := 1158) (by decide +kernel), List.mem_of_getElem? (i := 1159) (by decide +kernel)⟩
theorem lw_p47 : lw_okq (⟨"GaleBeachModel", "lowest", "(JJ)V"⟩, 36) := ⟨⟨by decide +kernel, by decide +kernel⟩, List.mem_of_getElem? (i := 848) (by decide +kernel), List.mem_of_getElem? (i := 1162) (by decide +kernel), List.mem_of_getElem? (i := 1163) (by decide +kernel)⟩
def lw_privs_3 : List (MethodName × Nat) := [(⟨"GaleBeachModel", "blows", "(II)I"⟩, 36), (⟨"GaleBeachModel", "isLoss", "(I)Z"⟩, 36), (⟨"GaleBeachModel", "counts", "(IIIIIZ)I"⟩, 36), (⟨"GaleBeachModel", "isGainsaid", "(II)Z"⟩, 36), (⟨"GaleBeachModel", "isNot", "(III)Z"⟩, 36), (⟨"GaleBeachModel", "isOf", "(III)Z"⟩, 36), (⟨"GaleBeachModel", "sees", "(II)Z"⟩, 36), (⟨"GaleBeachModel", "isCell", "(I)Z"⟩, 36), (⟨"GaleBeachModel", "isKind", "(I)Z"⟩, 36), (⟨"GaleBeachModel", "fromOf", "(I)I"⟩, 36), (⟨"GaleBeachModel", "parts", "()Z"⟩, 36), (⟨"GaleBeachModel", "isThere", "(III)Z"⟩, 36), (⟨"GaleBeachModel", "leftOf", "(I)I"⟩, 36), (⟨"GaleBeachModel", "hopeOf", "(IIII)J"⟩, 36), (⟨"GaleBeachModel", "greatest", "()I"⟩, 36), (⟨"GaleBeachModel", "lowest", "(JJ)V"⟩, 36)]
theorem lw_r3 : ∀ q ∈ lw_privs_3, lw_okq q := List.forall_mem_cons.mpr ⟨lw_p32, List.forall_mem_cons.mpr ⟨lw_p33, List.forall_mem_cons.mpr ⟨lw_p34, List.forall_mem_cons.mpr ⟨lw_p35, List.forall_mem_cons.mpr ⟨lw_p36, List.forall_mem_cons.mpr ⟨lw_p37, List.forall_mem_cons.mpr ⟨lw_p38, List.forall_mem_cons.mpr ⟨lw_p39, List.forall_mem_cons.mpr ⟨lw_p40, List.forall_mem_cons.mpr ⟨lw_p41, List.forall_mem_cons.mpr ⟨lw_p42, List.forall_mem_cons.mpr ⟨lw_p43, List.forall_mem_cons.mpr ⟨lw_p44, List.forall_mem_cons.mpr ⟨lw_p45, List.forall_mem_cons.mpr ⟨lw_p46, List.forall_mem_cons.mpr ⟨lw_p47, fun _ h => absurd h List.not_mem_nil⟩⟩⟩⟩⟩⟩⟩⟩⟩⟩⟩⟩⟩⟩⟩⟩
theorem lw_p48 : lw_okq (⟨"GaleBeachModel", "odds", "(II)J"⟩, 36) := ⟨⟨by decide +kernel, by decide +kernel⟩, List.mem_of_getElem? (i := 848) (by decide +kernel), List.mem_of_getElem? (i := 1173) (by decide +kernel), List.mem_of_getElem? (i := 1174) (by decide +kernel)⟩
theorem lw_p49 : lw_okq (⟨"GaleBeachModel", "holds", "(IIII)Z"⟩, 36) := ⟨⟨by decide +kernel, by decide +kernel⟩, List.mem_of_getElem? (i := 848) (by decide +kernel), List.mem_of_getElem? (i := 1195) (by decide +kernel), List.mem_of_getElem? (i := 1196) (by decide +kernel)⟩
theorem lw_p50 : lw_okq (⟨"GaleBeachModel", "byTest", "(II)I"⟩, 36) := ⟨⟨by decide +kernel, by decide +kernel⟩, List.mem_of_getElem? (i := 848) (by decide +kernel), List.mem_of_getElem? (i := 1222) (by decide +kernel), List.mem_of_getElem? (i := 1223) (by decide +kernel)⟩
theorem lw_p51 : lw_okq (⟨"GaleBeachModel", "shownOf", "(III)I"⟩, 36) := ⟨⟨by decide +kernel, by decide +kernel⟩, List.mem_of_getElem? (i := 848) (by decide +kernel), List.mem_of_getElem? (i := 1226) (by decide +kernel), List.mem_of_getElem? (i := 1227) (by decide +kernel)⟩
theorem lw_p52 : lw_okq (⟨"GaleBeachModel", "copies", "(II)V"⟩, 36) := ⟨⟨by decide +kernel, by decide +kernel⟩, List.mem_of_getElem? (i := 848) (by decide +kernel), List.mem_of_getElem? (i := 1238) (by decide +kernel), List.mem_of_getElem? (i := 1239) (by decide +kernel)⟩
def lw_privs_4 : List (MethodName × Nat) := [(⟨"GaleBeachModel", "odds", "(II)J"⟩, 36), (⟨"GaleBeachModel", "holds", "(IIII)Z"⟩, 36), (⟨"GaleBeachModel", "byTest", "(II)I"⟩, 36), (⟨"GaleBeachModel", "shownOf", "(III)I"⟩, 36), (⟨"GaleBeachModel", "copies", "(II)V"⟩, 36)]
theorem lw_r4 : ∀ q ∈ lw_privs_4, lw_okq q := List.forall_mem_cons.mpr ⟨lw_p48, List.forall_mem_cons.mpr ⟨lw_p49, List.forall_mem_cons.mpr ⟨lw_p50, List.forall_mem_cons.mpr ⟨lw_p51, List.forall_mem_cons.mpr ⟨lw_p52, fun _ h => absurd h List.not_mem_nil⟩⟩⟩⟩⟩
def lw_privs : List (MethodName × Nat) := lw_privs_1 ++ (lw_privs_2 ++ (lw_privs_3 ++ (lw_privs_4)))
def lw_tbl : List Cond := k2_sels lw_privs ++ tables_1
theorem lw_privs_ok : ∀ q ∈ lw_privs, lw_okq q := by
  show ∀ q ∈ lw_privs_1 ++ (lw_privs_2 ++ (lw_privs_3 ++ (lw_privs_4))), lw_okq q
  exact List.forall_mem_append.mpr ⟨lw_r1, List.forall_mem_append.mpr ⟨lw_r2, List.forall_mem_append.mpr ⟨lw_r3, lw_r4⟩⟩⟩
def RX0 : String := "GaleBeach$Beach"
def TX0 : u_T := fun k => match k with
  | 0 => ("GaleBeach$Beach", "told", "[I", true)
  | 1 => ("GaleBeach$Beach", "cells", "I", false)
  | 2 => ("GaleBeach$Beach", "weather", "LGaleBeach$Weather;", true)
  | 3 => ("GaleBeach$Beach", "kinds", "I", false)
  | 4 => ("GaleBeach$Beach", "kindLow", "[I", true)
  | 5 => ("GaleBeach$Beach", "kindHigh", "[I", true)
  | 6 => ("GaleBeach$Beach", "kindEyes", "[I", true)
  | 7 => ("GaleBeach$Beach", "kindWorth", "[I", true)
  | 8 => ("GaleBeach$Beach", "losses", "I", false)
  | 9 => ("GaleBeach$Beach", "lossKind", "[I", true)
  | 10 => ("GaleBeach$Beach", "lossX", "[I", true)
  | 11 => ("GaleBeach$Beach", "lossY", "[I", true)
  | 12 => ("GaleBeach$Beach", "lossFirst", "[I", true)
  | _ => ("GaleBeach$Beach", "lossLast", "[I", true)
def tyX0 : Nat → FieldType := fun k => match k with
  | 0 => .array .int
  | 1 => .int
  | 2 => .object "GaleBeach$Weather"
  | 3 => .int
  | 4 => .array .int
  | 5 => .array .int
  | 6 => .array .int
  | 7 => .array .int
  | 8 => .int
  | 9 => .array .int
  | 10 => .array .int
  | 11 => .array .int
  | 12 => .array .int
  | _ => .array .int
theorem nmX0 : ∀ a, a < 14 → ∀ b, b < 14 → a ≠ b → (TX0 a).2.1 ≠ (TX0 b).2.1 := by decide +kernel
theorem tyX0_ok : ∀ k, k < 14 → parseFieldDescriptor (TX0 k).2.2.1 = some (tyX0 k) := by decide +kernel
theorem inX0 : ∀ w ∈ u_ws RX0 TX0 14, w ∈ lw_tbl := by
  intro w hw
  have h : (u_ws RX0 TX0 14).map some = ([349, 351, 353, 355, 357, 359, 361, 363, 365, 367, 369, 371, 373, 375] : List Nat).map (fun i => lw_tbl[i]?) := by decide +kernel
  have h1 : some w ∈ (u_ws RX0 TX0 14).map some := List.mem_map.mpr ⟨w, hw, rfl⟩
  rw [h] at h1
  obtain ⟨i, -, hi⟩ := List.mem_map.mp h1
  exact List.mem_of_getElem? hi
def RX1 : String := "GaleBeach$Landings"
def TX1 : u_T := fun k => match k with
  | 0 => ("GaleBeach$Landings", "cell", "I", false)
  | 1 => ("GaleBeach$Landings", "hour", "I", false)
  | 2 => ("GaleBeach$Landings", "known", "[Z", true)
  | 3 => ("GaleBeach$Landings", "cells", "[[I", true)
  | _ => ("GaleBeach$Landings", "hours", "[[I", true)
def tyX1 : Nat → FieldType := fun k => match k with
  | 0 => .int
  | 1 => .int
  | 2 => .array .boolean
  | 3 => .array (.array .int)
  | _ => .array (.array .int)
theorem nmX1 : ∀ a, a < 5 → ∀ b, b < 5 → a ≠ b → (TX1 a).2.1 ≠ (TX1 b).2.1 := by decide +kernel
theorem tyX1_ok : ∀ k, k < 5 → parseFieldDescriptor (TX1 k).2.2.1 = some (tyX1 k) := by decide +kernel
theorem inX1 : ∀ w ∈ u_ws RX1 TX1 5, w ∈ lw_tbl := by
  intro w hw
  have h : (u_ws RX1 TX1 5).map some = ([118, 120, 122, 124, 126] : List Nat).map (fun i => lw_tbl[i]?) := by decide +kernel
  have h1 : some w ∈ (u_ws RX1 TX1 5).map some := List.mem_map.mpr ⟨w, hw, rfl⟩
  rw [h] at h1
  obtain ⟨i, -, hi⟩ := List.mem_map.mp h1
  exact List.mem_of_getElem? hi
def RX2 : String := "GaleBeach$Law"
def TX2 : u_T := fun k => match k with
  | 0 => ("GaleBeach$Law", "rules", "I", false)
  | 1 => ("GaleBeach$Law", "conditions", "[I", true)
  | 2 => ("GaleBeach$Law", "subject", "[[I", true)
  | 3 => ("GaleBeach$Law", "relation", "[[I", true)
  | 4 => ("GaleBeach$Law", "bound", "[[I", true)
  | 5 => ("GaleBeach$Law", "owner", "[I", true)
  | 6 => ("GaleBeach$Law", "days", "[I", true)
  | _ => ("GaleBeach$Law", "hundredths", "[I", true)
def tyX2 : Nat → FieldType := fun k => match k with
  | 0 => .int
  | 1 => .array .int
  | 2 => .array (.array .int)
  | 3 => .array (.array .int)
  | 4 => .array (.array .int)
  | 5 => .array .int
  | 6 => .array .int
  | _ => .array .int
theorem nmX2 : ∀ a, a < 8 → ∀ b, b < 8 → a ≠ b → (TX2 a).2.1 ≠ (TX2 b).2.1 := by decide +kernel
theorem tyX2_ok : ∀ k, k < 8 → parseFieldDescriptor (TX2 k).2.2.1 = some (tyX2 k) := by decide +kernel
theorem inX2 : ∀ w ∈ u_ws RX2 TX2 8, w ∈ lw_tbl := by
  intro w hw
  have h : (u_ws RX2 TX2 8).map some = ([397, 399, 401, 403, 405, 407, 409, 411] : List Nat).map (fun i => lw_tbl[i]?) := by decide +kernel
  have h1 : some w ∈ (u_ws RX2 TX2 8).map some := List.mem_map.mpr ⟨w, hw, rfl⟩
  rw [h] at h1
  obtain ⟨i, -, hi⟩ := List.mem_map.mp h1
  exact List.mem_of_getElem? hi
def RX3 : String := "GaleBeach$Matching"
def TX3 : u_T := fun k => match k with
  | 0 => ("GaleBeach$Matching", "choices", "[I", true)
  | _ => ("GaleBeach$Matching", "canGoOn", "[Z", true)
def tyX3 : Nat → FieldType := fun k => match k with
  | 0 => .array .int
  | _ => .array .boolean
theorem nmX3 : ∀ a, a < 2 → ∀ b, b < 2 → a ≠ b → (TX3 a).2.1 ≠ (TX3 b).2.1 := by decide +kernel
theorem tyX3_ok : ∀ k, k < 2 → parseFieldDescriptor (TX3 k).2.2.1 = some (tyX3 k) := by decide +kernel
theorem inX3 : ∀ w ∈ u_ws RX3 TX3 2, w ∈ lw_tbl := by
  intro w hw
  have h : (u_ws RX3 TX3 2).map some = ([213, 215] : List Nat).map (fun i => lw_tbl[i]?) := by decide +kernel
  have h1 : some w ∈ (u_ws RX3 TX3 2).map some := List.mem_map.mpr ⟨w, hw, rfl⟩
  rw [h] at h1
  obtain ⟨i, -, hi⟩ := List.mem_map.mp h1
  exact List.mem_of_getElem? hi
def RX4 : String := "GaleBeach$Outlook"
def TX4 : u_T := fun k => match k with
  | 0 => ("GaleBeach$Outlook", "clearUntil", "[[I", true)
  | 1 => ("GaleBeach$Outlook", "remaining", "[I", true)
  | 2 => ("GaleBeach$Outlook", "lying", "[[I", true)
  | 3 => ("GaleBeach$Outlook", "stretch", "[J", true)
  | _ => ("GaleBeach$Outlook", "joined", "[[J", true)
def tyX4 : Nat → FieldType := fun k => match k with
  | 0 => .array (.array .int)
  | 1 => .array .int
  | 2 => .array (.array .int)
  | 3 => .array .long
  | _ => .array (.array .long)
theorem nmX4 : ∀ a, a < 5 → ∀ b, b < 5 → a ≠ b → (TX4 a).2.1 ≠ (TX4 b).2.1 := by decide +kernel
theorem tyX4_ok : ∀ k, k < 5 → parseFieldDescriptor (TX4 k).2.2.1 = some (tyX4 k) := by decide +kernel
theorem inX4 : ∀ w ∈ u_ws RX4 TX4 5, w ∈ lw_tbl := by
  intro w hw
  have h : (u_ws RX4 TX4 5).map some = ([235, 237, 239, 241, 243] : List Nat).map (fun i => lw_tbl[i]?) := by decide +kernel
  have h1 : some w ∈ (u_ws RX4 TX4 5).map some := List.mem_map.mpr ⟨w, hw, rfl⟩
  rw [h] at h1
  obtain ⟨i, -, hi⟩ := List.mem_map.mp h1
  exact List.mem_of_getElem? hi
def RX5 : String := "GaleBeach$Scroll"
def TX5 : u_T := fun k => match k with
  | 0 => ("GaleBeach$Scroll", "bytes", "[B", true)
  | 1 => ("GaleBeach$Scroll", "length", "I", false)
  | 2 => ("GaleBeach$Scroll", "place", "I", false)
  | _ => ("GaleBeach$Scroll", "value", "I", false)
def tyX5 : Nat → FieldType := fun k => match k with
  | 0 => .array .byte
  | 1 => .int
  | 2 => .int
  | _ => .int
theorem nmX5 : ∀ a, a < 4 → ∀ b, b < 4 → a ≠ b → (TX5 a).2.1 ≠ (TX5 b).2.1 := by decide +kernel
theorem tyX5_ok : ∀ k, k < 4 → parseFieldDescriptor (TX5 k).2.2.1 = some (tyX5 k) := by decide +kernel
theorem inX5 : ∀ w ∈ u_ws RX5 TX5 4, w ∈ lw_tbl := by
  intro w hw
  have h : (u_ws RX5 TX5 4).map some = ([91, 93, 95, 97] : List Nat).map (fun i => lw_tbl[i]?) := by decide +kernel
  have h1 : some w ∈ (u_ws RX5 TX5 4).map some := List.mem_map.mpr ⟨w, hw, rfl⟩
  rw [h] at h1
  obtain ⟨i, -, hi⟩ := List.mem_map.mp h1
  exact List.mem_of_getElem? hi
def RX6 : String := "GaleBeach$Shore"
def TX6 : u_T := fun k => match k with
  | 0 => ("GaleBeach$Shore", "finds", "I", false)
  | 1 => ("GaleBeach$Shore", "findKind", "[I", true)
  | 2 => ("GaleBeach$Shore", "findCell", "[I", true)
  | 3 => ("GaleBeach$Shore", "findHour", "[I", true)
  | 4 => ("GaleBeach$Shore", "reports", "I", false)
  | 5 => ("GaleBeach$Shore", "reportCell", "[I", true)
  | 6 => ("GaleBeach$Shore", "reportHour", "[I", true)
  | 7 => ("GaleBeach$Shore", "reportEyes", "[I", true)
  | 8 => ("GaleBeach$Shore", "reportKind", "[I", true)
  | 9 => ("GaleBeach$Shore", "reportSaw", "[Z", true)
  | 10 => ("GaleBeach$Shore", "numbers", "I", false)
  | 11 => ("GaleBeach$Shore", "numberFound", "[I", true)
  | 12 => ("GaleBeach$Shore", "kept", "I", false)
  | 13 => ("GaleBeach$Shore", "keptFinds", "[I", true)
  | 14 => ("GaleBeach$Shore", "keptReports", "[I", true)
  | _ => ("GaleBeach$Shore", "keptNumbers", "[I", true)
def tyX6 : Nat → FieldType := fun k => match k with
  | 0 => .int
  | 1 => .array .int
  | 2 => .array .int
  | 3 => .array .int
  | 4 => .int
  | 5 => .array .int
  | 6 => .array .int
  | 7 => .array .int
  | 8 => .array .int
  | 9 => .array .boolean
  | 10 => .int
  | 11 => .array .int
  | 12 => .int
  | 13 => .array .int
  | 14 => .array .int
  | _ => .array .int
theorem nmX6 : ∀ a, a < 16 → ∀ b, b < 16 → a ≠ b → (TX6 a).2.1 ≠ (TX6 b).2.1 := by decide +kernel
theorem tyX6_ok : ∀ k, k < 16 → parseFieldDescriptor (TX6 k).2.2.1 = some (tyX6 k) := by decide +kernel
theorem inX6 : ∀ w ∈ u_ws RX6 TX6 16, w ∈ lw_tbl := by
  intro w hw
  have h : (u_ws RX6 TX6 16).map some = ([171, 173, 175, 177, 179, 181, 183, 185, 187, 189, 191, 193, 195, 197, 199, 201] : List Nat).map (fun i => lw_tbl[i]?) := by decide +kernel
  have h1 : some w ∈ (u_ws RX6 TX6 16).map some := List.mem_map.mpr ⟨w, hw, rfl⟩
  rw [h] at h1
  obtain ⟨i, -, hi⟩ := List.mem_map.mp h1
  exact List.mem_of_getElem? hi
def RX7 : String := "GaleBeach$Stuffs"
def TX7 : u_T := fun k => match k with
  | 0 => ("GaleBeach$Stuffs", "shows", "[[I", true)
  | 1 => ("GaleBeach$Stuffs", "alike", "[[I", true)
  | 2 => ("GaleBeach$Stuffs", "costs", "[I", true)
  | _ => ("GaleBeach$Stuffs", "least", "[I", true)
def tyX7 : Nat → FieldType := fun k => match k with
  | 0 => .array (.array .int)
  | 1 => .array (.array .int)
  | 2 => .array .int
  | _ => .array .int
theorem nmX7 : ∀ a, a < 4 → ∀ b, b < 4 → a ≠ b → (TX7 a).2.1 ≠ (TX7 b).2.1 := by decide +kernel
theorem tyX7_ok : ∀ k, k < 4 → parseFieldDescriptor (TX7 k).2.2.1 = some (tyX7 k) := by decide +kernel
theorem inX7 : ∀ w ∈ u_ws RX7 TX7 4, w ∈ lw_tbl := by
  intro w hw
  have h : (u_ws RX7 TX7 4).map some = ([260, 262, 264, 266] : List Nat).map (fun i => lw_tbl[i]?) := by decide +kernel
  have h1 : some w ∈ (u_ws RX7 TX7 4).map some := List.mem_map.mpr ⟨w, hw, rfl⟩
  rw [h] at h1
  obtain ⟨i, -, hi⟩ := List.mem_map.mp h1
  exact List.mem_of_getElem? hi
def RX8 : String := "GaleBeach$Weather"
def TX8 : u_T := fun k => match k with
  | 0 => ("GaleBeach$Weather", "tides", "I", false)
  | 1 => ("GaleBeach$Weather", "tideX", "[I", true)
  | 2 => ("GaleBeach$Weather", "tideY", "[I", true)
  | 3 => ("GaleBeach$Weather", "windsTold", "I", false)
  | 4 => ("GaleBeach$Weather", "winds", "I", false)
  | 5 => ("GaleBeach$Weather", "windHour", "[I", true)
  | 6 => ("GaleBeach$Weather", "windX", "[I", true)
  | _ => ("GaleBeach$Weather", "windY", "[I", true)
def tyX8 : Nat → FieldType := fun k => match k with
  | 0 => .int
  | 1 => .array .int
  | 2 => .array .int
  | 3 => .int
  | 4 => .int
  | 5 => .array .int
  | 6 => .array .int
  | _ => .array .int
theorem nmX8 : ∀ a, a < 8 → ∀ b, b < 8 → a ≠ b → (TX8 a).2.1 ≠ (TX8 b).2.1 := by decide +kernel
theorem tyX8_ok : ∀ k, k < 8 → parseFieldDescriptor (TX8 k).2.2.1 = some (tyX8 k) := by decide +kernel
theorem inX8 : ∀ w ∈ u_ws RX8 TX8 8, w ∈ lw_tbl := by
  intro w hw
  have h : (u_ws RX8 TX8 8).map some = ([298, 300, 302, 304, 306, 308, 310, 312] : List Nat).map (fun i => lw_tbl[i]?) := by decide +kernel
  have h1 : some w ∈ (u_ws RX8 TX8 8).map some := List.mem_map.mpr ⟨w, hw, rfl⟩
  rw [h] at h1
  obtain ⟨i, -, hi⟩ := List.mem_map.mp h1
  exact List.mem_of_getElem? hi
def RX9 : String := "GaleBeach"
def TX9 : u_T := fun k => match k with
  | 0 => ("GaleBeach", "scroll", "LGaleBeach$Scroll;", true)
  | 1 => ("GaleBeach", "landings", "LGaleBeach$Landings;", true)
  | 2 => ("GaleBeach", "shore", "LGaleBeach$Shore;", true)
  | 3 => ("GaleBeach", "matching", "LGaleBeach$Matching;", true)
  | 4 => ("GaleBeach", "outlook", "LGaleBeach$Outlook;", true)
  | 5 => ("GaleBeach", "stuffs", "LGaleBeach$Stuffs;", true)
  | 6 => ("GaleBeach", "beach", "LGaleBeach$Beach;", false)
  | 7 => ("GaleBeach", "spareBeach", "LGaleBeach$Beach;", false)
  | 8 => ("GaleBeach", "laidLaw", "LGaleBeach$Law;", false)
  | _ => ("GaleBeach", "spareLaw", "LGaleBeach$Law;", false)
def tyX9 : Nat → FieldType := fun k => match k with
  | 0 => .object "GaleBeach$Scroll"
  | 1 => .object "GaleBeach$Landings"
  | 2 => .object "GaleBeach$Shore"
  | 3 => .object "GaleBeach$Matching"
  | 4 => .object "GaleBeach$Outlook"
  | 5 => .object "GaleBeach$Stuffs"
  | 6 => .object "GaleBeach$Beach"
  | 7 => .object "GaleBeach$Beach"
  | 8 => .object "GaleBeach$Law"
  | _ => .object "GaleBeach$Law"
theorem nmX9 : ∀ a, a < 10 → ∀ b, b < 10 → a ≠ b → (TX9 a).2.1 ≠ (TX9 b).2.1 := by decide +kernel
theorem tyX9_ok : ∀ k, k < 10 → parseFieldDescriptor (TX9 k).2.2.1 = some (tyX9 k) := by decide +kernel
theorem inX9 : ∀ w ∈ u_ws RX9 TX9 10, w ∈ lw_tbl := by
  intro w hw
  have h : (u_ws RX9 TX9 10).map some = ([424, 426, 428, 430, 432, 434, 436, 438, 440, 442] : List Nat).map (fun i => lw_tbl[i]?) := by decide +kernel
  have h1 : some w ∈ (u_ws RX9 TX9 10).map some := List.mem_map.mpr ⟨w, hw, rfl⟩
  rw [h] at h1
  obtain ⟨i, -, hi⟩ := List.mem_map.mp h1
  exact List.mem_of_getElem? hi
def RX10 : String := "GaleBeachModel"
def TX10 : u_T := fun k => match k with
  | 0 => ("GaleBeachModel", "length", "I", false)
  | 1 => ("GaleBeachModel", "text", "[B", true)
  | 2 => ("GaleBeachModel", "at", "I", false)
  | 3 => ("GaleBeachModel", "cells", "[I", true)
  | 4 => ("GaleBeachModel", "tides", "[I", true)
  | 5 => ("GaleBeachModel", "tide", "[I", true)
  | 6 => ("GaleBeachModel", "winds", "[I", true)
  | 7 => ("GaleBeachModel", "wind", "[I", true)
  | 8 => ("GaleBeachModel", "kinds", "[I", true)
  | 9 => ("GaleBeachModel", "kind", "[I", true)
  | 10 => ("GaleBeachModel", "losses", "[I", true)
  | 11 => ("GaleBeachModel", "loss", "[I", true)
  | 12 => ("GaleBeachModel", "rules", "[I", true)
  | 13 => ("GaleBeachModel", "rule", "[I", true)
  | 14 => ("GaleBeachModel", "worldMany", "[I", true)
  | 15 => ("GaleBeachModel", "worldCell", "[I", true)
  | 16 => ("GaleBeachModel", "worldHour", "[I", true)
  | 17 => ("GaleBeachModel", "driftHour", "I", false)
  | 18 => ("GaleBeachModel", "kept", "I", false)
  | 19 => ("GaleBeachModel", "finds", "[I", true)
  | 20 => ("GaleBeachModel", "find", "[I", true)
  | 21 => ("GaleBeachModel", "reports", "[I", true)
  | 22 => ("GaleBeachModel", "report", "[I", true)
  | 23 => ("GaleBeachModel", "numbers", "[I", true)
  | 24 => ("GaleBeachModel", "number", "[I", true)
  | 25 => ("GaleBeachModel", "shows", "[I", true)
  | 26 => ("GaleBeachModel", "costs", "[I", true)
  | 27 => ("GaleBeachModel", "of", "[I", true)
  | 28 => ("GaleBeachModel", "walk", "[I", true)
  | 29 => ("GaleBeachModel", "best", "[I", true)
  | 30 => ("GaleBeachModel", "partCost", "[I", true)
  | 31 => ("GaleBeachModel", "partTest", "[I", true)
  | 32 => ("GaleBeachModel", "above", "J", false)
  | 33 => ("GaleBeachModel", "below", "J", false)
  | 34 => ("GaleBeachModel", "good", "Z", false)
  | _ => ("GaleBeachModel", "hopes", "[J", true)
def tyX10 : Nat → FieldType := fun k => match k with
  | 0 => .int
  | 1 => .array .byte
  | 2 => .int
  | 3 => .array .int
  | 4 => .array .int
  | 5 => .array .int
  | 6 => .array .int
  | 7 => .array .int
  | 8 => .array .int
  | 9 => .array .int
  | 10 => .array .int
  | 11 => .array .int
  | 12 => .array .int
  | 13 => .array .int
  | 14 => .array .int
  | 15 => .array .int
  | 16 => .array .int
  | 17 => .int
  | 18 => .int
  | 19 => .array .int
  | 20 => .array .int
  | 21 => .array .int
  | 22 => .array .int
  | 23 => .array .int
  | 24 => .array .int
  | 25 => .array .int
  | 26 => .array .int
  | 27 => .array .int
  | 28 => .array .int
  | 29 => .array .int
  | 30 => .array .int
  | 31 => .array .int
  | 32 => .long
  | 33 => .long
  | 34 => .boolean
  | _ => .array .long
theorem nmX10 : ∀ a, a < 36 → ∀ b, b < 36 → a ≠ b → (TX10 a).2.1 ≠ (TX10 b).2.1 := by decide +kernel
theorem tyX10_ok : ∀ k, k < 36 → parseFieldDescriptor (TX10 k).2.2.1 = some (tyX10 k) := by decide +kernel
theorem inX10 : ∀ w ∈ u_ws RX10 TX10 36, w ∈ lw_tbl := by
  intro w hw
  have h : (u_ws RX10 TX10 36).map some = ([942, 944, 946, 948, 950, 952, 954, 956, 958, 960, 962, 964, 966, 968, 970, 972, 974, 976, 978, 980, 982, 984, 986, 988, 990, 992, 994, 996, 998, 1000, 1002, 1004, 1006, 1008, 1010, 1012] : List Nat).map (fun i => lw_tbl[i]?) := by decide +kernel
  have h1 : some w ∈ (u_ws RX10 TX10 36).map some := List.mem_map.mpr ⟨w, hw, rfl⟩
  rw [h] at h1
  obtain ⟨i, -, hi⟩ := List.mem_map.mp h1
  exact List.mem_of_getElem? hi
abbrev gb_cls : List vw_C := [(RX0, TX0, 14), (RX1, TX1, 5), (RX2, TX2, 8), (RX3, TX3, 2), (RX4, TX4, 5), (RX5, TX5, 4), (RX6, TX6, 16), (RX7, TX7, 4), (RX8, TX8, 8), (RX9, TX9, 10), (RX10, TX10, 36)]
def gb_ty (c : Nat) : Nat → FieldType := match c with
  | 0 => tyX0
  | 1 => tyX1
  | 2 => tyX2
  | 3 => tyX3
  | 4 => tyX4
  | 5 => tyX5
  | 6 => tyX6
  | 7 => tyX7
  | 8 => tyX8
  | 9 => tyX9
  | _ => tyX10
/-- the kind of a field: 0 int, 1 long, 2 reference, 3 boolean, 4 else -/
def gb_kt : FieldType → Nat
  | .int => 0
  | .long => 1
  | .object _ => 2
  | .array _ => 2
  | .boolean => 3
  | _ => 4
def gb_kds : List (List Nat) := [[2, 0, 2, 0, 2, 2, 2, 2, 0, 2, 2, 2, 2, 2], [0, 0, 2, 2, 2], [0, 2, 2, 2, 2, 2, 2, 2], [2, 2], [2, 2, 2, 2, 2], [2, 0, 0, 0], [0, 2, 2, 2, 0, 2, 2, 2, 2, 2, 0, 2, 0, 2, 2, 2], [2, 2, 2, 2], [0, 2, 2, 0, 0, 2, 2, 2], [2, 2, 2, 2, 2, 2, 2, 2, 2, 2], [0, 2, 0, 2, 2, 2, 2, 2, 2, 2, 2, 2, 2, 2, 2, 2, 2, 0, 0, 2, 2, 2, 2, 2, 2, 2, 2, 2, 2, 2, 2, 2, 1, 1, 3, 2]]
def gb_kd (c k : Nat) : Nat := (gb_kds.getD c []).getD k 9
def gb_own (o : Nat) : String := (["GaleBeach$Beach", "GaleBeach$Landings", "GaleBeach$Law", "GaleBeach$Matching", "GaleBeach$Outlook", "GaleBeach$Scroll", "GaleBeach$Shore", "GaleBeach$Stuffs", "GaleBeach$Weather", "GaleBeach", "GaleBeachModel", "java/lang/Integer", "java/lang/Math", "java/util/Arrays", "GaleBeachLaw"] : List String).getD o ""
