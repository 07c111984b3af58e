section
/-- the rows of new T[n][m] stand in the rest of the library: the whole of it is read from here on -/
abbrev gb_innerC : ClassId → Nat → Value → Cell := Jvm.Free.Multi.innerC
-- ===== PART A: goes FIRST, ahead of the names: the tables' words, and 'selects' of the private methods out of them =====
/-- a private method of a class that the tables say can be made, by its rows of tables_1 -/
def lw_okq (q : MethodName × Nat) : Prop := (q.1.cls ≠ "java/lang/invoke/MethodHandle" ∧ q.1.cls ≠ "java/lang/invoke/VarHandle") ∧ Cond.instantiable q.1.cls q.2 ∈ tables_1 ∧ Cond.privateMethod q.1 ∈ tables_1 ∧ Cond.instanceMethod q.1 ∈ tables_1
theorem lw_p0 : lw_okq (⟨"GaleBeach$Law", "readConditions", "(LGaleBeach$Scroll;)Z"⟩, 8) := ⟨⟨by decide +kernel, by decide +kernel⟩, List.mem_of_getElem? (i := 326) (by decide +kernel), List.mem_of_getElem? (i := 420) (by decide +kernel), List.mem_of_getElem? (i := 421) (by decide +kernel)⟩
theorem lw_p1 : lw_okq (⟨"GaleBeach$Law", "readCondition", "(LGaleBeach$Scroll;I)Z"⟩, 8) := ⟨⟨by decide +kernel, by decide +kernel⟩, List.mem_of_getElem? (i := 326) (by decide +kernel), List.mem_of_getElem? (i := 432) (by decide +kernel), List.mem_of_getElem? (i := 433) (by decide +kernel)⟩
theorem lw_p2 : lw_okq (⟨"GaleBeach$Law", "readOutcome", "(LGaleBeach$Scroll;)Z"⟩, 8) := ⟨⟨by decide +kernel, by decide +kernel⟩, List.mem_of_getElem? (i := 326) (by decide +kernel), List.mem_of_getElem? (i := 446) (by decide +kernel), List.mem_of_getElem? (i := 447) (by decide +kernel)⟩
theorem lw_p3 : lw_okq (⟨"GaleBeach$Beach", "readItem", "(LGaleBeach$Scroll;)Z"⟩, 14) := ⟨⟨by decide +kernel, by decide +kernel⟩, List.mem_of_getElem? (i := 217) (by decide +kernel), List.mem_of_getElem? (i := 459) (by decide +kernel), List.mem_of_getElem? (i := 460) (by decide +kernel)⟩
theorem lw_p4 : lw_okq (⟨"GaleBeach$Beach", "readNumbers", "(LGaleBeach$Scroll;I)Z"⟩, 14) := ⟨⟨by decide +kernel, by decide +kernel⟩, List.mem_of_getElem? (i := 217) (by decide +kernel), List.mem_of_getElem? (i := 464) (by decide +kernel), List.mem_of_getElem? (i := 465) (by decide +kernel)⟩
theorem lw_p5 : lw_okq (⟨"GaleBeach$Beach", "addCells", "()Z"⟩, 14) := ⟨⟨by decide +kernel, by decide +kernel⟩, List.mem_of_getElem? (i := 217) (by decide +kernel), List.mem_of_getElem? (i := 470) (by decide +kernel), List.mem_of_getElem? (i := 471) (by decide +kernel)⟩
theorem lw_p6 : lw_okq (⟨"GaleBeach$Beach", "addTide", "()Z"⟩, 14) := ⟨⟨by decide +kernel, by decide +kernel⟩, List.mem_of_getElem? (i := 217) (by decide +kernel), List.mem_of_getElem? (i := 475) (by decide +kernel), List.mem_of_getElem? (i := 476) (by decide +kernel)⟩
theorem lw_p7 : lw_okq (⟨"GaleBeach$Beach", "addWind", "()Z"⟩, 14) := ⟨⟨by decide +kernel, by decide +kernel⟩, List.mem_of_getElem? (i := 217) (by decide +kernel), List.mem_of_getElem? (i := 483) (by decide +kernel), List.mem_of_getElem? (i := 484) (by decide +kernel)⟩
theorem lw_p8 : lw_okq (⟨"GaleBeach$Weather", "makeRoom", "(I)V"⟩, 8) := ⟨⟨by decide +kernel, by decide +kernel⟩, List.mem_of_getElem? (i := 223) (by decide +kernel), List.mem_of_getElem? (i := 494) (by decide +kernel), List.mem_of_getElem? (i := 495) (by decide +kernel)⟩
theorem lw_p9 : lw_okq (⟨"GaleBeach$Beach", "addKind", "()Z"⟩, 14) := ⟨⟨by decide +kernel, by decide +kernel⟩, List.mem_of_getElem? (i := 217) (by decide +kernel), List.mem_of_getElem? (i := 498) (by decide +kernel), List.mem_of_getElem? (i := 499) (by decide +kernel)⟩
theorem lw_p10 : lw_okq (⟨"GaleBeach$Beach", "addLoss", "()Z"⟩, 14) := ⟨⟨by decide +kernel, by decide +kernel⟩, List.mem_of_getElem? (i := 217) (by decide +kernel), List.mem_of_getElem? (i := 505) (by decide +kernel), List.mem_of_getElem? (i := 506) (by decide +kernel)⟩
theorem lw_p11 : lw_okq (⟨"GaleBeach", "layLaw", "()I"⟩, 10) := ⟨⟨by decide +kernel, by decide +kernel⟩, List.mem_of_getElem? (i := 16) (by decide +kernel), List.mem_of_getElem? (i := 513) (by decide +kernel), List.mem_of_getElem? (i := 514) (by decide +kernel)⟩
theorem lw_p12 : lw_okq (⟨"GaleBeach", "layBeach", "()I"⟩, 10) := ⟨⟨by decide +kernel, by decide +kernel⟩, List.mem_of_getElem? (i := 16) (by decide +kernel), List.mem_of_getElem? (i := 517) (by decide +kernel), List.mem_of_getElem? (i := 518) (by decide +kernel)⟩
theorem lw_p13 : lw_okq (⟨"GaleBeach", "isLoss", "(I)Z"⟩, 10) := ⟨⟨by decide +kernel, by decide +kernel⟩, List.mem_of_getElem? (i := 16) (by decide +kernel), List.mem_of_getElem? (i := 542) (by decide +kernel), List.mem_of_getElem? (i := 543) (by decide +kernel)⟩
theorem lw_p14 : lw_okq (⟨"GaleBeach", "isCell", "(I)Z"⟩, 10) := ⟨⟨by decide +kernel, by decide +kernel⟩, List.mem_of_getElem? (i := 16) (by decide +kernel), List.mem_of_getElem? (i := 564) (by decide +kernel), List.mem_of_getElem? (i := 565) (by decide +kernel)⟩
theorem lw_p15 : lw_okq (⟨"GaleBeach", "isKind", "(I)Z"⟩, 10) := ⟨⟨by decide +kernel, by decide +kernel⟩, List.mem_of_getElem? (i := 16) (by decide +kernel), List.mem_of_getElem? (i := 572) (by decide +kernel), List.mem_of_getElem? (i := 573) (by decide +kernel)⟩
def lw_privs_1 : List (MethodName × Nat) := [(⟨"GaleBeach$Law", "readConditions", "(LGaleBeach$Scroll;)Z"⟩, 8), (⟨"GaleBeach$Law", "readCondition", "(LGaleBeach$Scroll;I)Z"⟩, 8), (⟨"GaleBeach$Law", "readOutcome", "(LGaleBeach$Scroll;)Z"⟩, 8), (⟨"GaleBeach$Beach", "readItem", "(LGaleBeach$Scroll;)Z"⟩, 14), (⟨"GaleBeach$Beach", "readNumbers", "(LGaleBeach$Scroll;I)Z"⟩, 14), (⟨"GaleBeach$Beach", "addCells", "()Z"⟩, 14), (⟨"GaleBeach$Beach", "addTide", "()Z"⟩, 14), (⟨"GaleBeach$Beach", "addWind", "()Z"⟩, 14), (⟨"GaleBeach$Weather", "makeRoom", "(I)V"⟩, 8), (⟨"GaleBeach$Beach", "addKind", "()Z"⟩, 14), (⟨"GaleBeach$Beach", "addLoss", "()Z"⟩, 14), (⟨"GaleBeach", "layLaw", "()I"⟩, 10), (⟨"GaleBeach", "layBeach", "()I"⟩, 10), (⟨"GaleBeach", "isLoss", "(I)Z"⟩, 10), (⟨"GaleBeach", "isCell", "(I)Z"⟩, 10), (⟨"GaleBeach", "isKind", "(I)Z"⟩, 10)]
theorem lw_r1 : ∀ q ∈ lw_privs_1, lw_okq q := List.forall_mem_cons.mpr ⟨lw_p0, List.forall_mem_cons.mpr ⟨lw_p1, List.forall_mem_cons.mpr ⟨lw_p2, List.forall_mem_cons.mpr ⟨lw_p3, List.forall_mem_cons.mpr ⟨lw_p4, List.forall_mem_cons.mpr ⟨lw_p5, List.forall_mem_cons.mpr ⟨lw_p6, List.forall_mem_cons.mpr ⟨lw_p7, List.forall_mem_cons.mpr ⟨lw_p8, List.forall_mem_cons.mpr ⟨lw_p9, List.forall_mem_cons.mpr ⟨lw_p10, List.forall_mem_cons.mpr ⟨lw_p11, List.forall_mem_cons.mpr ⟨lw_p12, List.forall_mem_cons.mpr ⟨lw_p13, List.forall_mem_cons.mpr ⟨lw_p14, List.forall_mem_cons.mpr ⟨lw_p15, fun _ h => absurd h List.not_mem_nil⟩⟩⟩⟩⟩⟩⟩⟩⟩⟩⟩⟩⟩⟩⟩⟩
theorem lw_p16 : lw_okq (⟨"GaleBeach", "lossesBehind", "(I)I"⟩, 10) := ⟨⟨by decide +kernel, by decide +kernel⟩, List.mem_of_getElem? (i := 16) (by decide +kernel), List.mem_of_getElem? (i := 584) (by decide +kernel), List.mem_of_getElem? (i := 585) (by decide +kernel)⟩
theorem lw_p17 : lw_okq (⟨"GaleBeach$Matching", "lowestFor", "(II)I"⟩, 2) := ⟨⟨by decide +kernel, by decide +kernel⟩, List.mem_of_getElem? (i := 152) (by decide +kernel), List.mem_of_getElem? (i := 602) (by decide +kernel), List.mem_of_getElem? (i := 603) (by decide +kernel)⟩
theorem lw_p18 : lw_okq (⟨"GaleBeach", "weighLosses", "(I)V"⟩, 10) := ⟨⟨by decide +kernel, by decide +kernel⟩, List.mem_of_getElem? (i := 16) (by decide +kernel), List.mem_of_getElem? (i := 659) (by decide +kernel), List.mem_of_getElem? (i := 660) (by decide +kernel)⟩
theorem lw_p19 : lw_okq (⟨"GaleBeach$Outlook", "sumFrom", "(III)J"⟩, 5) := ⟨⟨by decide +kernel, by decide +kernel⟩, List.mem_of_getElem? (i := 166) (by decide +kernel), List.mem_of_getElem? (i := 694) (by decide +kernel), List.mem_of_getElem? (i := 695) (by decide +kernel)⟩
theorem lw_p20 : lw_okq (⟨"GaleBeach$Stuffs", "leastCost", "(I)I"⟩, 4) := ⟨⟨by decide +kernel, by decide +kernel⟩, List.mem_of_getElem? (i := 195) (by decide +kernel), List.mem_of_getElem? (i := 801) (by decide +kernel), List.mem_of_getElem? (i := 802) (by decide +kernel)⟩
theorem lw_p21 : lw_okq (⟨"GaleBeach$Stuffs", "costThrough", "(II)I"⟩, 4) := ⟨⟨by decide +kernel, by decide +kernel⟩, List.mem_of_getElem? (i := 195) (by decide +kernel), List.mem_of_getElem? (i := 806) (by decide +kernel), List.mem_of_getElem? (i := 807) (by decide +kernel)⟩
theorem lw_p22 : lw_okq (⟨"GaleBeachModel", "ruleItem", "()V"⟩, 36) := ⟨⟨by decide +kernel, by decide +kernel⟩, List.mem_of_getElem? (i := 848) (by decide +kernel), List.mem_of_getElem? (i := 979) (by decide +kernel), List.mem_of_getElem? (i := 980) (by decide +kernel)⟩
theorem lw_p23 : lw_okq (⟨"GaleBeachModel", "next", "()I"⟩, 36) := ⟨⟨by decide +kernel, by decide +kernel⟩, List.mem_of_getElem? (i := 848) (by decide +kernel), List.mem_of_getElem? (i := 983) (by decide +kernel), List.mem_of_getElem? (i := 984) (by decide +kernel)⟩
theorem lw_p24 : lw_okq (⟨"GaleBeachModel", "value", "(II)I"⟩, 36) := ⟨⟨by decide +kernel, by decide +kernel⟩, List.mem_of_getElem? (i := 848) (by decide +kernel), List.mem_of_getElem? (i := 989) (by decide +kernel), List.mem_of_getElem? (i := 990) (by decide +kernel)⟩
theorem lw_p25 : lw_okq (⟨"GaleBeachModel", "more", "(II)I"⟩, 36) := ⟨⟨by decide +kernel, by decide +kernel⟩, List.mem_of_getElem? (i := 848) (by decide +kernel), List.mem_of_getElem? (i := 994) (by decide +kernel), List.mem_of_getElem? (i := 995) (by decide +kernel)⟩
theorem lw_p26 : lw_okq (⟨"GaleBeachModel", "ends", "()V"⟩, 36) := ⟨⟨by decide +kernel, by decide +kernel⟩, List.mem_of_getElem? (i := 848) (by decide +kernel), List.mem_of_getElem? (i := 998) (by decide +kernel), List.mem_of_getElem? (i := 999) (by decide +kernel)⟩
theorem lw_p27 : lw_okq (⟨"GaleBeachModel", "item", "()V"⟩, 36) := ⟨⟨by decide +kernel, by decide +kernel⟩, List.mem_of_getElem? (i := 848) (by decide +kernel), List.mem_of_getElem? (i := 1002) (by decide +kernel), List.mem_of_getElem? (i := 1003) (by decide +kernel)⟩
theorem lw_p28 : lw_okq (⟨"GaleBeachModel", "kindItem", "()V"⟩, 36) := ⟨⟨by decide +kernel, by decide +kernel⟩, List.mem_of_getElem? (i := 848) (by decide +kernel), List.mem_of_getElem? (i := 1006) (by decide +kernel), List.mem_of_getElem? (i := 1007) (by decide +kernel)⟩
theorem lw_p29 : lw_okq (⟨"GaleBeachModel", "lossItem", "()V"⟩, 36) := ⟨⟨by decide +kernel, by decide +kernel⟩, List.mem_of_getElem? (i := 848) (by decide +kernel), List.mem_of_getElem? (i := 1010) (by decide +kernel), List.mem_of_getElem? (i := 1011) (by decide +kernel)⟩
theorem lw_p30 : lw_okq (⟨"GaleBeachModel", "laysWorlds", "(I)V"⟩, 36) := ⟨⟨by decide +kernel, by decide +kernel⟩, List.mem_of_getElem? (i := 848) (by decide +kernel), List.mem_of_getElem? (i := 1019) (by decide +kernel), List.mem_of_getElem? (i := 1020) (by decide +kernel)⟩
theorem lw_p31 : lw_okq (⟨"GaleBeachModel", "drifts", "(IIII)I"⟩, 36) := ⟨⟨by decide +kernel, by decide +kernel⟩, List.mem_of_getElem? (i := 848) (by decide +kernel), List.mem_of_getElem? (i := 1023) (by decide +kernel), List.mem_of_getElem? (i := 1024) (by decide +kernel)⟩
def lw_privs_2 : List (MethodName × Nat) := [(⟨"GaleBeach", "lossesBehind", "(I)I"⟩, 10), (⟨"GaleBeach$Matching", "lowestFor", "(II)I"⟩, 2), (⟨"GaleBeach", "weighLosses", "(I)V"⟩, 10), (⟨"GaleBeach$Outlook", "sumFrom", "(III)J"⟩, 5), (⟨"GaleBeach$Stuffs", "leastCost", "(I)I"⟩, 4), (⟨"GaleBeach$Stuffs", "costThrough", "(II)I"⟩, 4), (⟨"GaleBeachModel", "ruleItem", "()V"⟩, 36), (⟨"GaleBeachModel", "next", "()I"⟩, 36), (⟨"GaleBeachModel", "value", "(II)I"⟩, 36), (⟨"GaleBeachModel", "more", "(II)I"⟩, 36), (⟨"GaleBeachModel", "ends", "()V"⟩, 36), (⟨"GaleBeachModel", "item", "()V"⟩, 36), (⟨"GaleBeachModel", "kindItem", "()V"⟩, 36), (⟨"GaleBeachModel", "lossItem", "()V"⟩, 36), (⟨"GaleBeachModel", "laysWorlds", "(I)V"⟩, 36), (⟨"GaleBeachModel", "drifts", "(IIII)I"⟩, 36)]
theorem lw_r2 : ∀ q ∈ lw_privs_2, lw_okq q := List.forall_mem_cons.mpr ⟨lw_p16, List.forall_mem_cons.mpr ⟨lw_p17, List.forall_mem_cons.mpr ⟨lw_p18, List.forall_mem_cons.mpr ⟨lw_p19, List.forall_mem_cons.mpr ⟨lw_p20, List.forall_mem_cons.mpr ⟨lw_p21, List.forall_mem_cons.mpr ⟨lw_p22, List.forall_mem_cons.mpr ⟨lw_p23, List.forall_mem_cons.mpr ⟨lw_p24, List.forall_mem_cons.mpr ⟨lw_p25, List.forall_mem_cons.mpr ⟨lw_p26, List.forall_mem_cons.mpr ⟨lw_p27, List.forall_mem_cons.mpr ⟨lw_p28, List.forall_mem_cons.mpr ⟨lw_p29, List.forall_mem_cons.mpr ⟨lw_p30, List.forall_mem_cons.mpr ⟨lw_p31, fun _ h => absurd h List.not_mem_nil⟩⟩⟩⟩⟩⟩⟩⟩⟩⟩⟩⟩⟩⟩⟩⟩
theorem lw_p32 : lw_okq (⟨"GaleBeachModel", "blows", "(II)I"⟩, 36) := ⟨⟨by decide +kernel, by decide +kernel⟩, List.mem_of_getElem? (i := 848) (by decide +kernel), List.mem_of_getElem? (i := 1027) (by decide +kernel), List.mem_of_getElem? (i := 1028) (by decide +kernel)⟩
theorem lw_p33 : lw_okq (⟨"GaleBeachModel", "isLoss", "(I)Z"⟩, 36) := ⟨⟨by decide +kernel, by decide +kernel⟩, List.mem_of_getElem? (i := 848) (by decide +kernel), List.mem_of_getElem? (i := 1045) (by decide +kernel), List.mem_of_getElem? (i := 1046) (by decide +kernel)⟩
theorem lw_p34 : lw_okq (⟨"GaleBeachModel", "counts", "(IIIIIZ)I"⟩, 36) := ⟨⟨by decide +kernel, by decide +kernel⟩, List.mem_of_getElem? (i := 848) (by decide +kernel), List.mem_of_getElem? (i := 1050) (by decide +kernel), List.mem_of_getElem? (i := 1051) (by decide +kernel)⟩
theorem lw_p35 : lw_okq (⟨"GaleBeachModel", "isGainsaid", "(II)Z"⟩, 36) := ⟨⟨by decide +kernel, by decide +kernel⟩, List.mem_of_getElem? (i := 848) (by decide +kernel), List.mem_of_getElem? (i := 1054) (by decide +kernel), List.mem_of_getElem? (i := 1055) (by decide +kernel)⟩
theorem lw_p36 : lw_okq (⟨"GaleBeachModel", "isNot", "(III)Z"⟩, 36) := ⟨⟨by decide +kernel, by decide +kernel⟩, List.mem_of_getElem? (i := 848) (by decide +kernel), List.mem_of_getElem? (i := 1058) (by decide +kernel), List.mem_of_getElem? (i := 1059) (by decide +kernel)⟩
theorem lw_p37 : lw_okq (⟨"GaleBeachModel", "isOf", "(III)Z"⟩, 36) := ⟨⟨by decide +kernel, by decide +kernel⟩, List.mem_of_getElem? (i := 848) (by decide +kernel), List.mem_of_getElem? (i := 1062) (by decide +kernel), List.mem_of_getElem? (i := 1063) (by decide +kernel)⟩
theorem lw_p38 : lw_okq (⟨"GaleBeachModel", "sees", "(II)Z"⟩, 36) := ⟨⟨by decide +kernel, by decide +kernel⟩, List.mem_of_getElem? (i := 848) (by decide +kernel), List.mem_of_getElem? (i := 1066) (by decide +kernel), List.mem_of_getElem? (i := 1067) (by decide +kernel)⟩
theorem lw_p39 : lw_okq (⟨"GaleBeachModel", "isCell", "(I)Z"⟩, 36) := ⟨⟨by decide +kernel, by decide +kernel⟩, List.mem_of_getElem? (i := 848) (by decide +kernel), List.mem_of_getElem? (i := 1074) (by decide +kernel), List.mem_of_getElem? (i := 1075) (by decide +kernel)⟩
theorem lw_p40 : lw_okq (⟨"GaleBeachModel", "isKind", "(I)Z"⟩, 36) := ⟨⟨by decide +kernel, by decide +kernel⟩, List.mem_of_getElem? (i := 848) (by decide +kernel), List.mem_of_getElem? (i := 1082) (by decide +kernel), List.mem_of_getElem? (i := 1083) (by decide +kernel)⟩
theorem lw_p41 : lw_okq (⟨"GaleBeachModel", "fromOf", "(I)I"⟩, 36) := ⟨⟨by decide +kernel, by decide +kernel⟩, List.mem_of_getElem? (i := 848) (by decide +kernel), List.mem_of_getElem? (i := 1090) (by decide +kernel), List.mem_of_getElem? (i := 1091) (by decide +kernel)⟩
theorem lw_p42 : lw_okq (⟨"GaleBeachModel", "parts", "()Z"⟩, 36) := ⟨⟨by decide +kernel, by decide +kernel⟩, List.mem_of_getElem? (i := 848) (by decide +kernel), List.mem_of_getElem? (i := 1098) (by decide +kernel), List.mem_of_getElem? (i := 1099) (by decide +kernel)⟩
theorem lw_p43 : lw_okq (⟨"GaleBeachModel", "isThere", "(III)Z"⟩, 36) := ⟨⟨by decide +kernel, by decide +kernel⟩, List.mem_of_getElem? (i := 848) (by decide +kernel), List.mem_of_getElem? (i := 1111) (by decide +kernel), List.mem_of_getElem? (i := 1112) (by decide +kernel)⟩
theorem lw_p44 : lw_okq (⟨"GaleBeachModel", "leftOf", "(I)I"⟩, 36) := ⟨⟨by decide +kernel, by decide +kernel⟩, List.mem_of_getElem? (i := 848) (by decide +kernel), List.mem_of_getElem? (i := 1123) (by decide +kernel), List.mem_of_getElem? (i := 1124) (by decide +kernel)⟩
theorem lw_p45 : lw_okq (⟨"GaleBeachModel", "hopeOf", "(IIII)J"⟩, 36) := ⟨⟨by decide +kernel, by decide +kernel⟩, List.mem_of_getElem? (i := 848) (by decide +kernel), List.mem_of_getElem? (i := 1134) (by decide +kernel), List.mem_of_getElem? (i := 1135) (by decide +kernel)⟩
theorem lw_p46 : lw_okq (⟨"GaleBeachModel", "greatest", "()I"⟩, 36) := ⟨⟨by decide +kernel, by decide +kernel⟩, List.mem_of_getElem? (i := 848) (by decide +kernel), List.mem_of_getElem? (i := 1158) (by decide +kernel), List.mem_of_getElem? (i := 1159) (by decide +kernel)⟩
theorem lw_p47 : lw_okq (⟨"GaleBeachModel", "lowest", "(JJ)V"⟩, 36) := ⟨⟨by decide +kernel, by decide +kernel⟩, List.mem_of_getElem? (i := 848) (by decide +kernel), List.mem_of_getElem? (i := 1162) (by decide +kernel), List.mem_of_getElem? (i := 1163) (by decide +kernel)⟩
def lw_privs_3 : List (MethodName × Nat) := [(⟨"GaleBeachModel", "blows", "(II)I"⟩, 36), (⟨"GaleBeachModel", "isLoss", "(I)Z"⟩, 36), (⟨"GaleBeachModel", "counts", "(IIIIIZ)I"⟩, 36), (⟨"GaleBeachModel", "isGainsaid", "(II)Z"⟩, 36), (⟨"GaleBeachModel", "isNot", "(III)Z"⟩, 36), (⟨"GaleBeachModel", "isOf", "(III)Z"⟩, 36), (⟨"GaleBeachModel", "sees", "(II)Z"⟩, 36), (⟨"GaleBeachModel", "isCell", "(I)Z"⟩, 36), (⟨"GaleBeachModel", "isKind", "(I)Z"⟩, 36), (⟨"GaleBeachModel", "fromOf", "(I)I"⟩, 36), (⟨"GaleBeachModel", "parts", "()Z"⟩, 36), (⟨"GaleBeachModel", "isThere", "(III)Z"⟩, 36), (⟨"GaleBeachModel", "leftOf", "(I)I"⟩, 36), (⟨"GaleBeachModel", "hopeOf", "(IIII)J"⟩, 36), (⟨"GaleBeachModel", "greatest", "()I"⟩, 36), (⟨"GaleBeachModel", "lowest", "(JJ)V"⟩, 36)]
theorem lw_r3 : ∀ q ∈ lw_privs_3, lw_okq q := List.forall_mem_cons.mpr ⟨lw_p32, List.forall_mem_cons.mpr ⟨lw_p33, List.forall_mem_cons.mpr ⟨lw_p34, List.forall_mem_cons.mpr ⟨lw_p35, List.forall_mem_cons.mpr ⟨lw_p36, List.forall_mem_cons.mpr ⟨lw_p37, List.forall_mem_cons.mpr ⟨lw_p38, List.forall_mem_cons.mpr ⟨lw_p39, List.forall_mem_cons.mpr ⟨lw_p40, List.forall_mem_cons.mpr ⟨lw_p41, List.forall_mem_cons.mpr ⟨lw_p42, List.forall_mem_cons.mpr ⟨lw_p43, List.forall_mem_cons.mpr ⟨lw_p44, List.forall_mem_cons.mpr ⟨lw_p45, List.forall_mem_cons.mpr ⟨lw_p46, List.forall_mem_cons.mpr ⟨lw_p47, fun _ h => absurd h List.not_mem_nil⟩⟩⟩⟩⟩⟩⟩⟩⟩⟩⟩⟩⟩⟩⟩⟩
theorem lw_p48 : lw_okq (⟨"GaleBeachModel", "odds", "(II)J"⟩, 36) := ⟨⟨by decide +kernel, by decide +kernel⟩, List.mem_of_getElem? (i := 848) (by decide +kernel), List.mem_of_getElem? (i := 1173) (by decide +kernel), List.mem_of_getElem? (i := 1174) (by decide +kernel)⟩
theorem lw_p49 : lw_okq (⟨"GaleBeachModel", "holds", "(IIII)Z"⟩, 36) := ⟨⟨by decide +kernel, by decide +kernel⟩, List.mem_of_getElem? (i := 848) (by decide +kernel), List.mem_of_getElem? (i := 1195) (by decide +kernel), List.mem_of_getElem? (i := 1196) (by decide +kernel)⟩
theorem lw_p50 : lw_okq (⟨"GaleBeachModel", "byTest", "(II)I"⟩, 36) := ⟨⟨by decide +kernel, by decide +kernel⟩, List.mem_of_getElem? (i := 848) (by decide +kernel), List.mem_of_getElem? (i := 1222) (by decide +kernel), List.mem_of_getElem? (i := 1223) (by decide +kernel)⟩
theorem lw_p51 : lw_okq (⟨"GaleBeachModel", "shownOf", "(III)I"⟩, 36) := ⟨⟨by decide +kernel, by decide +kernel⟩, List.mem_of_getElem? (i := 848) (by decide +kernel), List.mem_of_getElem? (i := 1226) (by decide +kernel), List.mem_of_getElem? (i := 1227) (by decide +kernel)⟩
theorem lw_p52 : lw_okq (⟨"GaleBeachModel", "copies", "(II)V"⟩, 36) := ⟨⟨by decide +kernel, by decide +kernel⟩, List.mem_of_getElem? (i := 848) (by decide +kernel), List.mem_of_getElem? (i := 1238) (by decide +kernel), List.mem_of_getElem? (i := 1239) (by decide +kernel)⟩
def lw_privs_4 : List (MethodName × Nat) := [(⟨"GaleBeachModel", "odds", "(II)J"⟩, 36), (⟨"GaleBeachModel", "holds", "(IIII)Z"⟩, 36), (⟨"GaleBeachModel", "byTest", "(II)I"⟩, 36), (⟨"GaleBeachModel", "shownOf", "(III)I"⟩, 36), (⟨"GaleBeachModel", "copies", "(II)V"⟩, 36)]
theorem lw_r4 : ∀ q ∈ lw_privs_4, lw_okq q := List.forall_mem_cons.mpr ⟨lw_p48, List.forall_mem_cons.mpr ⟨lw_p49, List.forall_mem_cons.mpr ⟨lw_p50, List.forall_mem_cons.mpr ⟨lw_p51, List.forall_mem_cons.mpr ⟨lw_p52, fun _ h => absurd h List.not_mem_nil⟩⟩⟩⟩⟩
def lw_privs : List (MethodName × Nat) := lw_privs_1 ++ (lw_privs_2 ++ (lw_privs_3 ++ (lw_privs_4)))
def lw_tbl : List Cond := k2_sels lw_privs ++ tables_1
theorem lw_privs_ok : ∀ q ∈ lw_privs, lw_okq q := by
  show ∀ q ∈ lw_privs_1 ++ (lw_privs_2 ++ (lw_privs_3 ++ (lw_privs_4))), lw_okq q
  exact List.forall_mem_append.mpr ⟨lw_r1, List.forall_mem_append.mpr ⟨lw_r2, List.forall_mem_append.mpr ⟨lw_r3, lw_r4⟩⟩⟩
def RX0 : String := "GaleBeach$Beach"
def TX0 : u_T := fun k => match k with
  | 0 => ("GaleBeach$Beach", "told", "[I", true)
  | 1 => ("GaleBeach$Beach", "cells", "I", false)
  | 2 => ("GaleBeach$Beach", "weather", "LGaleBeach$Weather;", true)
  | 3 => ("GaleBeach$Beach", "kinds", "I", false)
  | 4 => ("GaleBeach$Beach", "kindLow", "[I", true)
  | 5 => ("GaleBeach$Beach", "kindHigh", "[I", true)
  | 6 => ("GaleBeach$Beach", "kindEyes", "[I", true)
  | 7 => ("GaleBeach$Beach", "kindWorth", "[I", true)
  | 8 => ("GaleBeach$Beach", "losses", "I", false)
  | 9 => ("GaleBeach$Beach", "lossKind", "[I", true)
  | 10 => ("GaleBeach$Beach", "lossX", "[I", true)
  | 11 => ("GaleBeach$Beach", "lossY", "[I", true)
  | 12 => ("GaleBeach$Beach", "lossFirst", "[I", true)
  | _ => ("GaleBeach$Beach", "lossLast", "[I", true)
def tyX0 : Nat → FieldType := fun k => match k with
  | 0 => .array .int
  | 1 => .int
  | 2 => .object "GaleBeach$Weather"
  | 3 => .int
  | 4 => .array .int
  | 5 => .array .int
  | 6 => .array .int
  | 7 => .array .int
  | 8 => .int
  | 9 => .array .int
  | 10 => .array .int
  | 11 => .array .int
  | 12 => .array .int
  | _ => .array .int
theorem nmX0 : ∀ a, a < 14 → ∀ b, b < 14 → a ≠ b → (TX0 a).2.1 ≠ (TX0 b).2.1 := by decide +kernel
theorem tyX0_ok : ∀ k, k < 14 → parseFieldDescriptor (TX0 k).2.2.1 = some (tyX0 k) := by decide +kernel
theorem inX0 : ∀ w ∈ u_ws RX0 TX0 14, w ∈ lw_tbl := by
  intro w hw
  have h : (u_ws RX0 TX0 14).map some = ([349, 351, 353, 355, 357, 359, 361, 363, 365, 367, 369, 371, 373, 375] : List Nat).map (fun i => lw_tbl[i]?) := by decide +kernel
  have h1 : some w ∈ (u_ws RX0 TX0 14).map some := List.mem_map.mpr ⟨w, hw, rfl⟩
  rw [h] at h1
  obtain ⟨i, -, hi⟩ := List.mem_map.mp h1
  exact List.mem_of_getElem? hi
def RX1 : String := "GaleBeach$Landings"
def TX1 : u_T := fun k => match k with
  | 0 => ("GaleBeach$Landings", "cell", "I", false)
  | 1 => ("GaleBeach$Landings", "hour", "I", false)
  | 2 => ("GaleBeach$Landings", "known", "[Z", true)
  | 3 => ("GaleBeach$Landings", "cells", "[[I", true)
  | _ => ("GaleBeach$Landings", "hours", "[[I", true)
def tyX1 : Nat → FieldType := fun k => match k with
  | 0 => .int
  | 1 => .int
  | 2 => .array .boolean
  | 3 => .array (.array .int)
  | _ => .array (.array .int)
theorem nmX1 : ∀ a, a < 5 → ∀ b, b < 5 → a ≠ b → (TX1 a).2.1 ≠ (TX1 b).2.1 := by decide +kernel
theorem tyX1_ok : ∀ k, k < 5 → parseFieldDescriptor (TX1 k).2.2.1 = some (tyX1 k) := by decide +kernel
theorem inX1 : ∀ w ∈ u_ws RX1 TX1 5, w ∈ lw_tbl := by
  intro w hw
  have h : (u_ws RX1 TX1 5).map some = ([118, 120, 122, 124, 126] : List Nat).map (fun i => lw_tbl[i]?) := by decide +kernel
  have h1 : some w ∈ (u_ws RX1 TX1 5).map some := List.mem_map.mpr ⟨w, hw, rfl⟩
  rw [h] at h1
  obtain ⟨i, -, hi⟩ := List.mem_map.mp h1
  exact List.mem_of_getElem? hi
def RX2 : String := "GaleBeach$Law"
def TX2 : u_T := fun k => match k with
  | 0 => ("GaleBeach$Law", "rules", "I", false)
  | 1 => ("GaleBeach$Law", "conditions", "[I", true)
  | 2 => ("GaleBeach$Law", "subject", "[[I", true)
  | 3 => ("GaleBeach$Law", "relation", "[[I", true)
  | 4 => ("GaleBeach$Law", "bound", "[[I", true)
  | 5 => ("GaleBeach$Law", "owner", "[I", true)
  | 6 => ("GaleBeach$Law", "days", "[I", true)
  | _ => ("GaleBeach$Law", "hundredths", "[I", true)
def tyX2 : Nat → FieldType := fun k => match k with
  | 0 => .int
  | 1 => .array .int
  | 2 => .array (.array .int)
  | 3 => .array (.array .int)
  | 4 => .array (.array .int)
  | 5 => .array .int
  | 6 => .array .int
  | _ => .array .int
theorem nmX2 : ∀ a, a < 8 → ∀ b, b < 8 → a ≠ b → (TX2 a).2.1 ≠ (TX2 b).2.1 := by decide +kernel
theorem tyX2_ok : ∀ k, k < 8 → parseFieldDescriptor (TX2 k).2.2.1 = some (tyX2 k) := by decide +kernel
theorem inX2 : ∀ w ∈ u_ws RX2 TX2 8, w ∈ lw_tbl := by
  intro w hw
  have h : (u_ws RX2 TX2 8).map some = ([397, 399, 401, 403, 405, 407, 409, 411] : List Nat).map (fun i => lw_tbl[i]?) := by decide +kernel
  have h1 : some w ∈ (u_ws RX2 TX2 8).map some := List.mem_map.mpr ⟨w, hw, rfl⟩
  rw [h] at h1
  obtain ⟨i, -, hi⟩ := List.mem_map.mp h1
  exact List.mem_of_getElem? hi
def RX3 : String := "GaleBeach$Matching"
def TX3 : u_T := fun k => match k with
  | 0 => ("GaleBeach$Matching", "choices", "[I", true)
  | _ => ("GaleBeach$Matching", "canGoOn", "[Z", true)
def tyX3 : Nat → FieldType := fun k => match k with
  | 0 => .array .int
  | _ => .array .boolean
theorem nmX3 : ∀ a, a < 2 → ∀ b, b < 2 → a ≠ b → (TX3 a).2.1 ≠ (TX3 b).2.1 := by decide +kernel
theorem tyX3_ok : ∀ k, k < 2 → parseFieldDescriptor (TX3 k).2.2.1 = some (tyX3 k) := by decide +kernel
theorem inX3 : ∀ w ∈ u_ws RX3 TX3 2, w ∈ lw_tbl := by
  intro w hw
  have h : (u_ws RX3 TX3 2).map some = ([213, 215] : List Nat).map (fun i => lw_tbl[i]?) := by decide +kernel
  have h1 : some w ∈ (u_ws RX3 TX3 2).map some := List.mem_map.mpr ⟨w, hw, rfl⟩
  rw [h] at h1
  obtain ⟨i, -, hi⟩ := List.mem_map.mp h1
  exact List.mem_of_getElem? hi
def RX4 : String := "GaleBeach$Outlook"
def TX4 : u_T := fun k => match k with
  | 0 => ("GaleBeach$Outlook", "clearUntil", "[[I", true)
  | 1 => ("GaleBeach$Outlook", "remaining", "[I", true)
  | 2 => ("GaleBeach$Outlook", "lying", "[[I", true)
  | 3 => ("GaleBeach$Outlook", "stretch", "[J", true)
  | _ => ("GaleBeach$Outlook", "joined", "[[J", true)
def tyX4 : Nat → FieldType := fun k => match k with
  | 0 => .array (.array .int)
  | 1 => .array .int
  | 2 => .array (.array .int)
  | 3 => .array .long
  | _ => .array (.array .long)
theorem nmX4 : ∀ a, a < 5 → ∀ b, b < 5 → a ≠ b → (TX4 a).2.1 ≠ (TX4 b).2.1 := by decide +kernel
theorem tyX4_ok : ∀ k, k < 5 → parseFieldDescriptor (TX4 k).2.2.1 = some (tyX4 k) := by decide +kernel
theorem inX4 : ∀ w ∈ u_ws RX4 TX4 5, w ∈ lw_tbl := by
  intro w hw
  have h : (u_ws RX4 TX4 5).map some = ([235, 237, 239, 241, 243] : List Nat).map (fun i => lw_tbl[i]?) := by decide +kernel
  have h1 : some w ∈ (u_ws RX4 TX4 5).map some := List.mem_map.mpr ⟨w, hw, rfl⟩
  rw [h] at h1
  obtain ⟨i, -, hi⟩ := List.mem_map.mp h1
  exact List.mem_of_getElem? hi
def RX5 : String := "GaleBeach$Scroll"
def TX5 : u_T := fun k => match k with
  | 0 => ("GaleBeach$Scroll", "bytes", "[B", true)
  | 1 => ("GaleBeach$Scroll", "length", "I", false)
  | 2 => ("GaleBeach$Scroll", "place", "I", false)
  | _ => ("GaleBeach$Scroll", "value", "I", false)
def tyX5 : Nat → FieldType := fun k => match k with
  | 0 => .array .byte
  | 1 => .int
  | 2 => .int
  | _ => .int
theorem nmX5 : ∀ a, a < 4 → ∀ b, b < 4 → a ≠ b → (TX5 a).2.1 ≠ (TX5 b).2.1 := by decide +kernel
theorem tyX5_ok : ∀ k, k < 4 → parseFieldDescriptor (TX5 k).2.2.1 = some (tyX5 k) := by decide +kernel
theorem inX5 : ∀ w ∈ u_ws RX5 TX5 4, w ∈ lw_tbl := by
  intro w hw
  have h : (u_ws RX5 TX5 4).map some = ([91, 93, 95, 97] : List Nat).map (fun i => lw_tbl[i]?) := by decide +kernel
  have h1 : some w ∈ (u_ws RX5 TX5 4).map some := List.mem_map.mpr ⟨w, hw, rfl⟩
  rw [h] at h1
  obtain ⟨i, -, hi⟩ := List.mem_map.mp h1
  exact List.mem_of_getElem? hi
def RX6 : String := "GaleBeach$Shore"
def TX6 : u_T := fun k => match k with
  | 0 => ("GaleBeach$Shore", "finds", "I", false)
  | 1 => ("GaleBeach$Shore", "findKind", "[I", true)
  | 2 => ("GaleBeach$Shore", "findCell", "[I", true)
  | 3 => ("GaleBeach$Shore", "findHour", "[I", true)
  | 4 => ("GaleBeach$Shore", "reports", "I", false)
  | 5 => ("GaleBeach$Shore", "reportCell", "[I", true)
  | 6 => ("GaleBeach$Shore", "reportHour", "[I", true)
  | 7 => ("GaleBeach$Shore", "reportEyes", "[I", true)
  | 8 => ("GaleBeach$Shore", "reportKind", "[I", true)
  | 9 => ("GaleBeach$Shore", "reportSaw", "[Z", true)
  | 10 => ("GaleBeach$Shore", "numbers", "I", false)
  | 11 => ("GaleBeach$Shore", "numberFound", "[I", true)
  | 12 => ("GaleBeach$Shore", "kept", "I", false)
  | 13 => ("GaleBeach$Shore", "keptFinds", "[I", true)
  | 14 => ("GaleBeach$Shore", "keptReports", "[I", true)
  | _ => ("GaleBeach$Shore", "keptNumbers", "[I", true)
def tyX6 : Nat → FieldType := fun k => match k with
  | 0 => .int
  | 1 => .array .int
  | 2 => .array .int
  | 3 => .array .int
  | 4 => .int
  | 5 => .array .int
  | 6 => .array .int
  | 7 => .array .int
  | 8 => .array .int
  | 9 => .array .boolean
  | 10 => .int
  | 11 => .array .int
  | 12 => .int
  | 13 => .array .int
  | 14 => .array .int
  | _ => .array .int
theorem nmX6 : ∀ a, a < 16 → ∀ b, b < 16 → a ≠ b → (TX6 a).2.1 ≠ (TX6 b).2.1 := by decide +kernel
theorem tyX6_ok : ∀ k, k < 16 → parseFieldDescriptor (TX6 k).2.2.1 = some (tyX6 k) := by decide +kernel
theorem inX6 : ∀ w ∈ u_ws RX6 TX6 16, w ∈ lw_tbl := by
  intro w hw
  have h : (u_ws RX6 TX6 16).map some = ([171, 173, 175, 177, 179, 181, 183, 185, 187, 189, 191, 193, 195, 197, 199, 201] : List Nat).map (fun i => lw_tbl[i]?) := by decide +kernel
  have h1 : some w ∈ (u_ws RX6 TX6 16).map some := List.mem_map.mpr ⟨w, hw, rfl⟩
  rw [h] at h1
  obtain ⟨i, -, hi⟩ := List.mem_map.mp h1
  exact List.mem_of_getElem? hi
def RX7 : String := "GaleBeach$Stuffs"
def TX7 : u_T := fun k => match k with
  | 0 => ("GaleBeach$Stuffs", "shows", "[[I", true)
  | 1 => ("GaleBeach$Stuffs", "alike", "[[I", true)
  | 2 => ("GaleBeach$Stuffs", "costs", "[I", true)
  | _ => ("GaleBeach$Stuffs", "least", "[I", true)
def tyX7 : Nat → FieldType := fun k => match k with
  | 0 => .array (.array .int)
  | 1 => .array (.array .int)
  | 2 => .array .int
  | _ => .array .int
theorem nmX7 : ∀ a, a < 4 → ∀ b, b < 4 → a ≠ b → (TX7 a).2.1 ≠ (TX7 b).2.1 := by decide +kernel
theorem tyX7_ok : ∀ k, k < 4 → parseFieldDescriptor (TX7 k).2.2.1 = some (tyX7 k) := by decide +kernel
theorem inX7 : ∀ w ∈ u_ws RX7 TX7 4, w ∈ lw_tbl := by
  intro w hw
  have h : (u_ws RX7 TX7 4).map some = ([260, 262, 264, 266] : List Nat).map (fun i => lw_tbl[i]?) := by decide +kernel
  have h1 : some w ∈ (u_ws RX7 TX7 4).map some := List.mem_map.mpr ⟨w, hw, rfl⟩
  rw [h] at h1
  obtain ⟨i, -, hi⟩ := List.mem_map.mp h1
  exact List.mem_of_getElem? hi
def RX8 : String := "GaleBeach$Weather"
def TX8 : u_T := fun k => match k with
  | 0 => ("GaleBeach$Weather", "tides", "I", false)
  | 1 => ("GaleBeach$Weather", "tideX", "[I", true)
  | 2 => ("GaleBeach$Weather", "tideY", "[I", true)
  | 3 => ("GaleBeach$Weather", "windsTold", "I", false)
  | 4 => ("GaleBeach$Weather", "winds", "I", false)
  | 5 => ("GaleBeach$Weather", "windHour", "[I", true)
  | 6 => ("GaleBeach$Weather", "windX", "[I", true)
  | _ => ("GaleBeach$Weather", "windY", "[I", true)
def tyX8 : Nat → FieldType := fun k => match k with
  | 0 => .int
  | 1 => .array .int
  | 2 => .array .int
  | 3 => .int
  | 4 => .int
  | 5 => .array .int
  | 6 => .array .int
  | _ => .array .int
theorem nmX8 : ∀ a, a < 8 → ∀ b, b < 8 → a ≠ b → (TX8 a).2.1 ≠ (TX8 b).2.1 := by decide +kernel
theorem tyX8_ok : ∀ k, k < 8 → parseFieldDescriptor (TX8 k).2.2.1 = some (tyX8 k) := by decide +kernel
theorem inX8 : ∀ w ∈ u_ws RX8 TX8 8, w ∈ lw_tbl := by
  intro w hw
  have h : (u_ws RX8 TX8 8).map some = ([298, 300, 302, 304, 306, 308, 310, 312] : List Nat).map (fun i => lw_tbl[i]?) := by decide +kernel
  have h1 : some w ∈ (u_ws RX8 TX8 8).map some := List.mem_map.mpr ⟨w, hw, rfl⟩
  rw [h] at h1
  obtain ⟨i, -, hi⟩ := List.mem_map.mp h1
  exact List.mem_of_getElem? hi
def RX9 : String := "GaleBeach"
def TX9 : u_T := fun k => match k with
  | 0 => ("GaleBeach", "scroll", "LGaleBeach$Scroll;", true)
  | 1 => ("GaleBeach", "landings", "LGaleBeach$Landings;", true)
  | 2 => ("GaleBeach", "shore", "LGaleBeach$Shore;", true)
  | 3 => ("GaleBeach", "matching", "LGaleBeach$Matching;", true)
  | 4 => ("GaleBeach", "outlook", "LGaleBeach$Outlook;", true)
  | 5 => ("GaleBeach", "stuffs", "LGaleBeach$Stuffs;", true)
  | 6 => ("GaleBeach", "beach", "LGaleBeach$Beach;", false)
  | 7 => ("GaleBeach", "spareBeach", "LGaleBeach$Beach;", false)
  | 8 => ("GaleBeach", "laidLaw", "LGaleBeach$Law;", false)
  | _ => ("GaleBeach", "spareLaw", "LGaleBeach$Law;", false)
def tyX9 : Nat → FieldType := fun k => match k with
  | 0 => .object "GaleBeach$Scroll"
  | 1 => .object "GaleBeach$Landings"
  | 2 => .object "GaleBeach$Shore"
  | 3 => .object "GaleBeach$Matching"
  | 4 => .object "GaleBeach$Outlook"
  | 5 => .object "GaleBeach$Stuffs"
  | 6 => .object "GaleBeach$Beach"
  | 7 => .object "GaleBeach$Beach"
  | 8 => .object "GaleBeach$Law"
  | _ => .object "GaleBeach$Law"
theorem nmX9 : ∀ a, a < 10 → ∀ b, b < 10 → a ≠ b → (TX9 a).2.1 ≠ (TX9 b).2.1 := by decide +kernel
theorem tyX9_ok : ∀ k, k < 10 → parseFieldDescriptor (TX9 k).2.2.1 = some (tyX9 k) := by decide +kernel
theorem inX9 : ∀ w ∈ u_ws RX9 TX9 10, w ∈ lw_tbl := by
  intro w hw
  have h : (u_ws RX9 TX9 10).map some = ([424, 426, 428, 430, 432, 434, 436, 438, 440, 442] : List Nat).map (fun i => lw_tbl[i]?) := by decide +kernel
  have h1 : some w ∈ (u_ws RX9 TX9 10).map some := List.mem_map.mpr ⟨w, hw, rfl⟩
  rw [h] at h1
  obtain ⟨i, -, hi⟩ := List.mem_map.mp h1
  exact List.mem_of_getElem? hi
def RX10 : String := "GaleBeachModel"
def TX10 : u_T := fun k => match k with
  | 0 => ("GaleBeachModel", "length", "I", false)
  | 1 => ("GaleBeachModel", "text", "[B", true)
  | 2 => ("GaleBeachModel", "at", "I", false)
  | 3 => ("GaleBeachModel", "cells", "[I", true)
  | 4 => ("GaleBeachModel", "tides", "[I", true)
  | 5 => ("GaleBeachModel", "tide", "[I", true)
  | 6 => ("GaleBeachModel", "winds", "[I", true)
  | 7 => ("GaleBeachModel", "wind", "[I", true)
  | 8 => ("GaleBeachModel", "kinds", "[I", true)
  | 9 => ("GaleBeachModel", "kind", "[I", true)
  | 10 => ("GaleBeachModel", "losses", "[I", true)
  | 11 => ("GaleBeachModel", "loss", "[I", true)
  | 12 => ("GaleBeachModel", "rules", "[I", true)
  | 13 => ("GaleBeachModel", "rule", "[I", true)
  | 14 => ("GaleBeachModel", "worldMany", "[I", true)
  | 15 => ("GaleBeachModel", "worldCell", "[I", true)
  | 16 => ("GaleBeachModel", "worldHour", "[I", true)
  | 17 => ("GaleBeachModel", "driftHour", "I", false)
  | 18 => ("GaleBeachModel", "kept", "I", false)
  | 19 => ("GaleBeachModel", "finds", "[I", true)
  | 20 => ("GaleBeachModel", "find", "[I", true)
  | 21 => ("GaleBeachModel", "reports", "[I", true)
  | 22 => ("GaleBeachModel", "report", "[I", true)
  | 23 => ("GaleBeachModel", "numbers", "[I", true)
  | 24 => ("GaleBeachModel", "number", "[I", true)
  | 25 => ("GaleBeachModel", "shows", "[I", true)
  | 26 => ("GaleBeachModel", "costs", "[I", true)
  | 27 => ("GaleBeachModel", "of", "[I", true)
  | 28 => ("GaleBeachModel", "walk", "[I", true)
  | 29 => ("GaleBeachModel", "best", "[I", true)
  | 30 => ("GaleBeachModel", "partCost", "[I", true)
  | 31 => ("GaleBeachModel", "partTest", "[I", true)
  | 32 => ("GaleBeachModel", "above", "J", false)
  | 33 => ("GaleBeachModel", "below", "J", false)
  | 34 => ("GaleBeachModel", "good", "Z", false)
  | _ => ("GaleBeachModel", "hopes", "[J", true)
def tyX10 : Nat → FieldType := fun k => match k with
  | 0 => .int
  | 1 => .array .byte
  | 2 => .int
  | 3 => .array .int
  | 4 => .array .int
  | 5 => .array .int
  | 6 => .array .int
  | 7 => .array .int
  | 8 => .array .int
  | 9 => .array .int
  | 10 => .array .int
  | 11 => .array .int
  | 12 => .array .int
  | 13 => .array .int
  | 14 => .array .int
  | 15 => .array .int
  | 16 => .array .int
  | 17 => .int
  | 18 => .int
  | 19 => .array .int
  | 20 => .array .int
  | 21 => .array .int
  | 22 => .array .int
  | 23 => .array .int
  | 24 => .array .int
  | 25 => .array .int
  | 26 => .array .int
  | 27 => .array .int
  | 28 => .array .int
  | 29 => .array .int
  | 30 => .array .int
  | 31 => .array .int
  | 32 => .long
  | 33 => .long
  | 34 => .boolean
  | _ => .array .long
theorem nmX10 : ∀ a, a < 36 → ∀ b, b < 36 → a ≠ b → (TX10 a).2.1 ≠ (TX10 b).2.1 := by decide +kernel
theorem tyX10_ok : ∀ k, k < 36 → parseFieldDescriptor (TX10 k).2.2.1 = some (tyX10 k) := by decide +kernel
theorem inX10 : ∀ w ∈ u_ws RX10 TX10 36, w ∈ lw_tbl := by
  intro w hw
  have h : (u_ws RX10 TX10 36).map some = ([942, 944, 946, 948, 950, 952, 954, 956, 958, 960, 962, 964, 966, 968, 970, 972, 974, 976, 978, 980, 982, 984, 986, 988, 990, 992, 994, 996, 998, 1000, 1002, 1004, 1006, 1008, 1010, 1012] : List Nat).map (fun i => lw_tbl[i]?) := by decide +kernel
  have h1 : some w ∈ (u_ws RX10 TX10 36).map some := List.mem_map.mpr ⟨w, hw, rfl⟩
  rw [h] at h1
  obtain ⟨i, -, hi⟩ := List.mem_map.mp h1
  exact List.mem_of_getElem? hi
abbrev gb_cls : List vw_C := [(RX0, TX0, 14), (RX1, TX1, 5), (RX2, TX2, 8), (RX3, TX3, 2), (RX4, TX4, 5), (RX5, TX5, 4), (RX6, TX6, 16), (RX7, TX7, 4), (RX8, TX8, 8), (RX9, TX9, 10), (RX10, TX10, 36)]
def gb_ty (c : Nat) : Nat → FieldType := match c with
  | 0 => tyX0
  | 1 => tyX1
  | 2 => tyX2
  | 3 => tyX3
  | 4 => tyX4
  | 5 => tyX5
  | 6 => tyX6
  | 7 => tyX7
  | 8 => tyX8
  | 9 => tyX9
  | _ => tyX10
/-- the kind of a field: 0 int, 1 long, 2 reference, 3 boolean, 4 else -/
def gb_kt : FieldType → Nat
  | .int => 0
  | .long => 1
  | .object _ => 2
  | .array _ => 2
  | .boolean => 3
  | _ => 4
def gb_kds : List (List Nat) := [[2, 0, 2, 0, 2, 2, 2, 2, 0, 2, 2, 2, 2, 2], [0, 0, 2, 2, 2], [0, 2, 2, 2, 2, 2, 2, 2], [2, 2], [2, 2, 2, 2, 2], [2, 0, 0, 0], [0, 2, 2, 2, 0, 2, 2, 2, 2, 2, 0, 2, 0, 2, 2, 2], [2, 2, 2, 2], [0, 2, 2, 0, 0, 2, 2, 2], [2, 2, 2, 2, 2, 2, 2, 2, 2, 2], [0, 2, 0, 2, 2, 2, 2, 2, 2, 2, 2, 2, 2, 2, 2, 2, 2, 0, 0, 2, 2, 2, 2, 2, 2, 2, 2, 2, 2, 2, 2, 2, 1, 1, 3, 2]]
def gb_kd (c k : Nat) : Nat := (gb_kds.getD c []).getD k 9
def gb_own (o : Nat) : String := (["GaleBeach$Beach", "GaleBeach$Landings", "GaleBeach$Law", "GaleBeach$Matching", "GaleBeach$Outlook", "GaleBeach$Scroll", "GaleBeach$Shore", "GaleBeach$Stuffs", "GaleBeach$Weather", "GaleBeach", "GaleBeachModel", "java/lang/Integer", "java/lang/Math", "java/util/Arrays", "GaleBeachLaw"] : List String).getD o ""
end
section
def bk_GL_law_1012 : List Instr := .sipush 1 :: .areturn :: []
def bk_GL_law_1010 : List Instr := .iinc 3 6 :: .goto 10 :: bk_GL_law_1012
def bk_GL_law_993 : List Instr := .aload 1 :: .aload 0 :: .iload 3 :: .sipush 1 :: .iadd :: .iaload :: .invokeinterface 106 2 :: .aload 2 :: .aload 0 :: .iload 3 :: .sipush 1 :: .iadd :: .iaload :: .invokeinterface 184 2 :: .if_icmp .eq 1010 :: .sipush 0 :: .areturn :: bk_GL_law_1010
def bk_GL_law_986 : List Instr := .aload 1 :: .invokeinterface 105 1 :: .aload 2 :: .invokeinterface 183 1 :: .if_icmp .eq 1010 :: .sipush 0 :: .areturn :: bk_GL_law_993
def bk_GL_law_979 : List Instr := .aload 1 :: .invokeinterface 104 1 :: .aload 2 :: .invokeinterface 182 1 :: .if_icmp .eq 1010 :: .sipush 0 :: .areturn :: bk_GL_law_986
def bk_GL_law_942 : List Instr := .aload 1 :: .aload 0 :: .iload 3 :: .sipush 1 :: .iadd :: .iaload :: .aload 0 :: .iload 3 :: .sipush 2 :: .iadd :: .iaload :: .aload 0 :: .iload 3 :: .sipush 3 :: .iadd :: .iaload :: .invokeinterface 103 4 :: .aload 2 :: .aload 0 :: .iload 3 :: .sipush 1 :: .iadd :: .iaload :: .aload 0 :: .iload 3 :: .sipush 2 :: .iadd :: .iaload :: .aload 0 :: .iload 3 :: .sipush 3 :: .iadd :: .iaload :: .invokeinterface 180 4 :: .if_icmp .eq 1010 :: .sipush 0 :: .areturn :: bk_GL_law_979
def bk_GL_law_915 : List Instr := .aload 1 :: .aload 0 :: .iload 3 :: .sipush 1 :: .iadd :: .iaload :: .aload 0 :: .iload 3 :: .sipush 2 :: .iadd :: .iaload :: .invokeinterface 102 3 :: .aload 2 :: .aload 0 :: .iload 3 :: .sipush 1 :: .iadd :: .iaload :: .aload 0 :: .iload 3 :: .sipush 2 :: .iadd :: .iaload :: .invokeinterface 179 3 :: .if_icmp .eq 1010 :: .sipush 0 :: .areturn :: bk_GL_law_942
def bk_GL_law_888 : List Instr := .aload 1 :: .aload 0 :: .iload 3 :: .sipush 1 :: .iadd :: .iaload :: .aload 0 :: .iload 3 :: .sipush 2 :: .iadd :: .iaload :: .invokeinterface 101 3 :: .aload 2 :: .aload 0 :: .iload 3 :: .sipush 1 :: .iadd :: .iaload :: .aload 0 :: .iload 3 :: .sipush 2 :: .iadd :: .iaload :: .invokeinterface 176 3 :: .if_icmp .eq 1010 :: .sipush 0 :: .areturn :: bk_GL_law_915
def bk_GL_law_851 : List Instr := .aload 1 :: .aload 0 :: .iload 3 :: .sipush 1 :: .iadd :: .iaload :: .aload 0 :: .iload 3 :: .sipush 2 :: .iadd :: .iaload :: .aload 0 :: .iload 3 :: .sipush 3 :: .iadd :: .iaload :: .invokeinterface 100 4 :: .aload 2 :: .aload 0 :: .iload 3 :: .sipush 1 :: .iadd :: .iaload :: .aload 0 :: .iload 3 :: .sipush 2 :: .iadd :: .iaload :: .aload 0 :: .iload 3 :: .sipush 3 :: .iadd :: .iaload :: .invokeinterface 175 4 :: .if_icmp .eq 1010 :: .sipush 0 :: .areturn :: bk_GL_law_888
def bk_GL_law_794 : List Instr := .aload 1 :: .aload 0 :: .iload 3 :: .sipush 1 :: .iadd :: .iaload :: .aload 0 :: .iload 3 :: .sipush 2 :: .iadd :: .iaload :: .aload 0 :: .iload 3 :: .sipush 3 :: .iadd :: .iaload :: .aload 0 :: .iload 3 :: .sipush 4 :: .iadd :: .iaload :: .aload 0 :: .iload 3 :: .sipush 5 :: .iadd :: .iaload :: .invokeinterface 99 6 :: .aload 2 :: .aload 0 :: .iload 3 :: .sipush 1 :: .iadd :: .iaload :: .aload 0 :: .iload 3 :: .sipush 2 :: .iadd :: .iaload :: .aload 0 :: .iload 3 :: .sipush 3 :: .iadd :: .iaload :: .aload 0 :: .iload 3 :: .sipush 4 :: .iadd :: .iaload :: .aload 0 :: .iload 3 :: .sipush 5 :: .iadd :: .iaload :: .invokeinterface 173 6 :: .if_icmp .eq 1010 :: .sipush 0 :: .areturn :: bk_GL_law_851
def bk_GL_law_747 : List Instr := .aload 1 :: .aload 0 :: .iload 3 :: .sipush 1 :: .iadd :: .iaload :: .aload 0 :: .iload 3 :: .sipush 2 :: .iadd :: .iaload :: .aload 0 :: .iload 3 :: .sipush 3 :: .iadd :: .iaload :: .aload 0 :: .iload 3 :: .sipush 4 :: .iadd :: .iaload :: .invokeinterface 98 5 :: .aload 2 :: .aload 0 :: .iload 3 :: .sipush 1 :: .iadd :: .iaload :: .aload 0 :: .iload 3 :: .sipush 2 :: .iadd :: .iaload :: .aload 0 :: .iload 3 :: .sipush 3 :: .iadd :: .iaload :: .aload 0 :: .iload 3 :: .sipush 4 :: .iadd :: .iaload :: .invokeinterface 172 5 :: .if_icmp .eq 1010 :: .sipush 0 :: .areturn :: bk_GL_law_794
def bk_GL_law_720 : List Instr := .aload 1 :: .aload 0 :: .iload 3 :: .sipush 1 :: .iadd :: .iaload :: .aload 0 :: .iload 3 :: .sipush 2 :: .iadd :: .iaload :: .invokeinterface 95 3 :: .aload 2 :: .aload 0 :: .iload 3 :: .sipush 1 :: .iadd :: .iaload :: .aload 0 :: .iload 3 :: .sipush 2 :: .iadd :: .iaload :: .invokeinterface 170 3 :: .if_icmp .eq 1010 :: .sipush 0 :: .areturn :: bk_GL_law_747
def bk_GL_law_683 : List Instr := .aload 1 :: .aload 0 :: .iload 3 :: .sipush 1 :: .iadd :: .iaload :: .aload 0 :: .iload 3 :: .sipush 2 :: .iadd :: .iaload :: .aload 0 :: .iload 3 :: .sipush 3 :: .iadd :: .iaload :: .invokeinterface 94 4 :: .aload 2 :: .aload 0 :: .iload 3 :: .sipush 1 :: .iadd :: .iaload :: .aload 0 :: .iload 3 :: .sipush 2 :: .iadd :: .iaload :: .aload 0 :: .iload 3 :: .sipush 3 :: .iadd :: .iaload :: .invokeinterface 169 4 :: .if_icmp .eq 1010 :: .sipush 0 :: .areturn :: bk_GL_law_720
def bk_GL_law_656 : List Instr := .aload 1 :: .aload 0 :: .iload 3 :: .sipush 1 :: .iadd :: .iaload :: .aload 0 :: .iload 3 :: .sipush 2 :: .iadd :: .iaload :: .invokeinterface 90 3 :: .aload 2 :: .aload 0 :: .iload 3 :: .sipush 1 :: .iadd :: .iaload :: .aload 0 :: .iload 3 :: .sipush 2 :: .iadd :: .iaload :: .invokeinterface 165 3 :: .if_icmp .eq 1010 :: .sipush 0 :: .areturn :: bk_GL_law_683
def bk_GL_law_639 : List Instr := .aload 1 :: .aload 0 :: .iload 3 :: .sipush 1 :: .iadd :: .iaload :: .invokeinterface 89 2 :: .aload 2 :: .aload 0 :: .iload 3 :: .sipush 1 :: .iadd :: .iaload :: .invokeinterface 164 2 :: .if_icmp .eq 1010 :: .sipush 0 :: .areturn :: bk_GL_law_656
def bk_GL_law_622 : List Instr := .aload 1 :: .aload 0 :: .iload 3 :: .sipush 1 :: .iadd :: .iaload :: .invokeinterface 88 2 :: .aload 2 :: .aload 0 :: .iload 3 :: .sipush 1 :: .iadd :: .iaload :: .invokeinterface 161 2 :: .if_icmp .eq 1010 :: .sipush 0 :: .areturn :: bk_GL_law_639
def bk_GL_law_564 : List Instr := .aload 1 :: .aload 0 :: .iload 3 :: .sipush 1 :: .iadd :: .iaload :: .aload 0 :: .iload 3 :: .sipush 2 :: .iadd :: .iaload :: .aload 0 :: .iload 3 :: .sipush 3 :: .iadd :: .iaload :: .aload 0 :: .iload 3 :: .sipush 4 :: .iadd :: .iaload :: .aload 0 :: .iload 3 :: .sipush 5 :: .iadd :: .iaload :: .invokeinterface 86 6 :: .aload 2 :: .aload 0 :: .iload 3 :: .sipush 1 :: .iadd :: .iaload :: .aload 0 :: .iload 3 :: .sipush 2 :: .iadd :: .iaload :: .aload 0 :: .iload 3 :: .sipush 3 :: .iadd :: .iaload :: .aload 0 :: .iload 3 :: .sipush 4 :: .iadd :: .iaload :: .aload 0 :: .iload 3 :: .sipush 5 :: .iadd :: .iaload :: .invokeinterface 160 6 :: .lcmp :: .ifCond .eq 1010 :: .sipush 0 :: .areturn :: bk_GL_law_622
def bk_GL_law_516 : List Instr := .aload 1 :: .aload 0 :: .iload 3 :: .sipush 1 :: .iadd :: .iaload :: .aload 0 :: .iload 3 :: .sipush 2 :: .iadd :: .iaload :: .aload 0 :: .iload 3 :: .sipush 3 :: .iadd :: .iaload :: .aload 0 :: .iload 3 :: .sipush 4 :: .iadd :: .iaload :: .invokeinterface 85 5 :: .aload 2 :: .aload 0 :: .iload 3 :: .sipush 1 :: .iadd :: .iaload :: .aload 0 :: .iload 3 :: .sipush 2 :: .iadd :: .iaload :: .aload 0 :: .iload 3 :: .sipush 3 :: .iadd :: .iaload :: .aload 0 :: .iload 3 :: .sipush 4 :: .iadd :: .iaload :: .invokeinterface 159 5 :: .lcmp :: .ifCond .eq 1010 :: .sipush 0 :: .areturn :: bk_GL_law_564
def bk_GL_law_468 : List Instr := .aload 1 :: .aload 0 :: .iload 3 :: .sipush 1 :: .iadd :: .iaload :: .aload 0 :: .iload 3 :: .sipush 2 :: .iadd :: .iaload :: .aload 0 :: .iload 3 :: .sipush 3 :: .iadd :: .iaload :: .aload 0 :: .iload 3 :: .sipush 4 :: .iadd :: .iaload :: .invokeinterface 84 5 :: .aload 2 :: .aload 0 :: .iload 3 :: .sipush 1 :: .iadd :: .iaload :: .aload 0 :: .iload 3 :: .sipush 2 :: .iadd :: .iaload :: .aload 0 :: .iload 3 :: .sipush 3 :: .iadd :: .iaload :: .aload 0 :: .iload 3 :: .sipush 4 :: .iadd :: .iaload :: .invokeinterface 158 5 :: .lcmp :: .ifCond .eq 1010 :: .sipush 0 :: .areturn :: bk_GL_law_516
def bk_GL_law_451 : List Instr := .aload 1 :: .aload 0 :: .iload 3 :: .sipush 1 :: .iadd :: .iaload :: .invokeinterface 83 2 :: .aload 2 :: .aload 0 :: .iload 3 :: .sipush 1 :: .iadd :: .iaload :: .invokeinterface 155 2 :: .if_icmp .eq 1010 :: .sipush 0 :: .areturn :: bk_GL_law_468
def bk_GL_law_434 : List Instr := .aload 1 :: .aload 0 :: .iload 3 :: .sipush 1 :: .iadd :: .iaload :: .invokeinterface 82 2 :: .aload 2 :: .aload 0 :: .iload 3 :: .sipush 1 :: .iadd :: .iaload :: .invokeinterface 152 2 :: .if_icmp .eq 1010 :: .sipush 0 :: .areturn :: bk_GL_law_451
def bk_GL_law_397 : List Instr := .aload 1 :: .aload 0 :: .iload 3 :: .sipush 1 :: .iadd :: .iaload :: .aload 0 :: .iload 3 :: .sipush 2 :: .iadd :: .iaload :: .aload 0 :: .iload 3 :: .sipush 3 :: .iadd :: .iaload :: .invokeinterface 81 4 :: .aload 2 :: .aload 0 :: .iload 3 :: .sipush 1 :: .iadd :: .iaload :: .aload 0 :: .iload 3 :: .sipush 2 :: .iadd :: .iaload :: .aload 0 :: .iload 3 :: .sipush 3 :: .iadd :: .iaload :: .invokeinterface 151 4 :: .if_icmp .eq 1010 :: .sipush 0 :: .areturn :: bk_GL_law_434
def bk_GL_law_393 : List Instr := .invokeinterface 146 6 :: .if_icmp .eq 1010 :: .sipush 0 :: .areturn :: bk_GL_law_397
def bk_GL_law_392 : List Instr := .sipush 0 :: bk_GL_law_393
def bk_GL_law_362 : List Instr := .invokeinterface 80 6 :: .aload 2 :: .aload 0 :: .iload 3 :: .sipush 1 :: .iadd :: .iaload :: .aload 0 :: .iload 3 :: .sipush 2 :: .iadd :: .iaload :: .aload 0 :: .iload 3 :: .sipush 3 :: .iadd :: .iaload :: .aload 0 :: .iload 3 :: .sipush 4 :: .iadd :: .iaload :: .aload 0 :: .iload 3 :: .sipush 5 :: .iadd :: .iaload :: .ifCond .eq 392 :: .sipush 1 :: .goto 393 :: bk_GL_law_392
def bk_GL_law_361 : List Instr := .sipush 0 :: bk_GL_law_362
def bk_GL_law_332 : List Instr := .aload 1 :: .aload 0 :: .iload 3 :: .sipush 1 :: .iadd :: .iaload :: .aload 0 :: .iload 3 :: .sipush 2 :: .iadd :: .iaload :: .aload 0 :: .iload 3 :: .sipush 3 :: .iadd :: .iaload :: .aload 0 :: .iload 3 :: .sipush 4 :: .iadd :: .iaload :: .aload 0 :: .iload 3 :: .sipush 5 :: .iadd :: .iaload :: .ifCond .eq 361 :: .sipush 1 :: .goto 362 :: bk_GL_law_361
def bk_GL_law_315 : List Instr := .aload 1 :: .aload 0 :: .iload 3 :: .sipush 1 :: .iadd :: .iaload :: .invokeinterface 79 2 :: .aload 2 :: .aload 0 :: .iload 3 :: .sipush 1 :: .iadd :: .iaload :: .invokeinterface 145 2 :: .if_icmp .eq 1010 :: .sipush 0 :: .areturn :: bk_GL_law_332
def bk_GL_law_298 : List Instr := .aload 1 :: .aload 0 :: .iload 3 :: .sipush 1 :: .iadd :: .iaload :: .invokeinterface 77 2 :: .aload 2 :: .aload 0 :: .iload 3 :: .sipush 1 :: .iadd :: .iaload :: .invokeinterface 143 2 :: .if_icmp .eq 1010 :: .sipush 0 :: .areturn :: bk_GL_law_315
def bk_GL_law_261 : List Instr := .aload 1 :: .aload 0 :: .iload 3 :: .sipush 1 :: .iadd :: .iaload :: .aload 0 :: .iload 3 :: .sipush 2 :: .iadd :: .iaload :: .aload 0 :: .iload 3 :: .sipush 3 :: .iadd :: .iaload :: .invokeinterface 76 4 :: .aload 2 :: .aload 0 :: .iload 3 :: .sipush 1 :: .iadd :: .iaload :: .aload 0 :: .iload 3 :: .sipush 2 :: .iadd :: .iaload :: .aload 0 :: .iload 3 :: .sipush 3 :: .iadd :: .iaload :: .invokeinterface 141 4 :: .if_icmp .eq 1010 :: .sipush 0 :: .areturn :: bk_GL_law_298
def bk_GL_law_214 : List Instr := .aload 1 :: .aload 0 :: .iload 3 :: .sipush 1 :: .iadd :: .iaload :: .aload 0 :: .iload 3 :: .sipush 2 :: .iadd :: .iaload :: .aload 0 :: .iload 3 :: .sipush 3 :: .iadd :: .iaload :: .aload 0 :: .iload 3 :: .sipush 4 :: .iadd :: .iaload :: .invokeinterface 75 5 :: .aload 2 :: .aload 0 :: .iload 3 :: .sipush 1 :: .iadd :: .iaload :: .aload 0 :: .iload 3 :: .sipush 2 :: .iadd :: .iaload :: .aload 0 :: .iload 3 :: .sipush 3 :: .iadd :: .iaload :: .aload 0 :: .iload 3 :: .sipush 4 :: .iadd :: .iaload :: .invokeinterface 140 5 :: .if_icmp .eq 1010 :: .sipush 0 :: .areturn :: bk_GL_law_261
def bk_GL_law_187 : List Instr := .aload 1 :: .aload 0 :: .iload 3 :: .sipush 1 :: .iadd :: .iaload :: .aload 0 :: .iload 3 :: .sipush 2 :: .iadd :: .iaload :: .invokeinterface 74 3 :: .aload 2 :: .aload 0 :: .iload 3 :: .sipush 1 :: .iadd :: .iaload :: .aload 0 :: .iload 3 :: .sipush 2 :: .iadd :: .iaload :: .invokeinterface 139 3 :: .if_icmp .eq 1010 :: .sipush 0 :: .areturn :: bk_GL_law_214
def bk_GL_law_130 : List Instr := .aload 1 :: .aload 0 :: .iload 3 :: .sipush 1 :: .iadd :: .iaload :: .aload 0 :: .iload 3 :: .sipush 2 :: .iadd :: .iaload :: .aload 0 :: .iload 3 :: .sipush 3 :: .iadd :: .iaload :: .aload 0 :: .iload 3 :: .sipush 4 :: .iadd :: .iaload :: .aload 0 :: .iload 3 :: .sipush 5 :: .iadd :: .iaload :: .invokeinterface 73 6 :: .aload 2 :: .aload 0 :: .iload 3 :: .sipush 1 :: .iadd :: .iaload :: .aload 0 :: .iload 3 :: .sipush 2 :: .iadd :: .iaload :: .aload 0 :: .iload 3 :: .sipush 3 :: .iadd :: .iaload :: .aload 0 :: .iload 3 :: .sipush 4 :: .iadd :: .iaload :: .aload 0 :: .iload 3 :: .sipush 5 :: .iadd :: .iaload :: .invokeinterface 136 6 :: .if_icmp .eq 1010 :: .sipush 0 :: .areturn :: bk_GL_law_187
def bk_GL_law_126 : List Instr := .invokeinterface 129 2 :: .if_icmp .eq 1010 :: .sipush 0 :: .areturn :: bk_GL_law_130
def bk_GL_law_125 : List Instr := .sipush 0 :: bk_GL_law_126
def bk_GL_law_115 : List Instr := .invokeinterface 70 2 :: .aload 2 :: .aload 0 :: .iload 3 :: .sipush 1 :: .iadd :: .iaload :: .ifCond .eq 125 :: .sipush 1 :: .goto 126 :: bk_GL_law_125
def bk_GL_law_114 : List Instr := .sipush 0 :: bk_GL_law_115
def bk_GL_law_105 : List Instr := .aload 1 :: .aload 0 :: .iload 3 :: .sipush 1 :: .iadd :: .iaload :: .ifCond .eq 114 :: .sipush 1 :: .goto 115 :: bk_GL_law_114
def bk_GL_law_101 : List Instr := .invokeinterface 128 2 :: .if_icmp .eq 1010 :: .sipush 0 :: .areturn :: bk_GL_law_105
def bk_GL_law_100 : List Instr := .sipush 0 :: bk_GL_law_101
def bk_GL_law_90 : List Instr := .invokeinterface 69 2 :: .aload 2 :: .aload 0 :: .iload 3 :: .sipush 1 :: .iadd :: .iaload :: .ifCond .eq 100 :: .sipush 1 :: .goto 101 :: bk_GL_law_100
def bk_GL_law_89 : List Instr := .sipush 0 :: bk_GL_law_90
def bk_GL_law_80 : List Instr := .aload 1 :: .aload 0 :: .iload 3 :: .sipush 1 :: .iadd :: .iaload :: .ifCond .eq 89 :: .sipush 1 :: .goto 90 :: bk_GL_law_89
def bk_GL_law_73 : List Instr := .aload 1 :: .invokeinterface 68 1 :: .aload 2 :: .invokeinterface 119 1 :: .if_icmp .eq 1010 :: .sipush 0 :: .areturn :: bk_GL_law_80
def bk_GL_law_22 : List Instr := .aload 1 :: .aload 0 :: .iload 3 :: .sipush 1 :: .iadd :: .iaload :: .aload 0 :: .iload 3 :: .sipush 2 :: .iadd :: .iaload :: .i2l :: .sipush 32 :: .lshl :: .aload 0 :: .iload 3 :: .sipush 3 :: .iadd :: .iaload :: .i2l :: .bipush 4294967295 :: .land :: .lor :: .invokeinterface 67 3 :: .aload 2 :: .aload 0 :: .iload 3 :: .sipush 1 :: .iadd :: .iaload :: .aload 0 :: .iload 3 :: .sipush 2 :: .iadd :: .iaload :: .i2l :: .sipush 32 :: .lshl :: .aload 0 :: .iload 3 :: .sipush 3 :: .iadd :: .iaload :: .i2l :: .bipush 4294967295 :: .land :: .lor :: .invokeinterface 118 3 :: .if_icmp .eq 1010 :: .sipush 0 :: .areturn :: bk_GL_law_73
def bk_GL_law_10 : List Instr := .iload 3 :: .aload 0 :: .arraylength :: .sipush 6 :: .isub :: .if_icmp .gt 1012 :: .aload 0 :: .iload 3 :: .iaload :: .sipush 31 :: .iand :: .tableswitch 1010 0 30 #[22, 73, 80, 105, 130, 187, 214, 261, 298, 315, 332, 397, 434, 451, 468, 516, 564, 622, 639, 656, 683, 720, 747, 794, 851, 888, 915, 942, 979, 986, 993] :: bk_GL_law_22
def bk_GL_law_0 : List Instr := .new 9 :: .dup :: .invokeinterface 66 1 :: .astore 1 :: .new 10 :: .dup :: .invokeinterface 116 1 :: .astore 2 :: .sipush 0 :: .istore 3 :: bk_GL_law_10
def bk_BE_init_0 : List Instr := .aload 0 :: .pop :: .aload 0 :: .sipush 5 :: .newarray .int :: .putfield 0 :: .aload 0 :: .sipush 8 :: .putfield 1 :: .aload 0 :: .new 8 :: .dup :: .invokeinterface 61 1 :: .putfield 2 :: .aload 0 :: .sipush 0 :: .putfield 3 :: .aload 0 :: .sipush 6 :: .newarray .int :: .putfield 4 :: .aload 0 :: .sipush 6 :: .newarray .int :: .putfield 5 :: .aload 0 :: .sipush 6 :: .newarray .int :: .putfield 6 :: .aload 0 :: .sipush 6 :: .newarray .int :: .putfield 7 :: .aload 0 :: .sipush 0 :: .putfield 8 :: .aload 0 :: .sipush 8 :: .newarray .int :: .putfield 9 :: .aload 0 :: .sipush 8 :: .newarray .int :: .putfield 10 :: .aload 0 :: .sipush 8 :: .newarray .int :: .putfield 11 :: .aload 0 :: .sipush 8 :: .newarray .int :: .putfield 12 :: .aload 0 :: .sipush 8 :: .newarray .int :: .putfield 13 :: .return_ :: []
def bk_BE_worldsOf_0 : List Instr := .aload 0 :: .getfield 9 :: .iload 1 :: .iaload :: .istore 2 :: .aload 0 :: .getfield 5 :: .iload 2 :: .iaload :: .aload 0 :: .getfield 4 :: .iload 2 :: .iaload :: .isub :: .sipush 1 :: .iadd :: .aload 0 :: .getfield 13 :: .iload 1 :: .iaload :: .aload 0 :: .getfield 12 :: .iload 1 :: .iaload :: .isub :: .sipush 1 :: .iadd :: .imul :: .ireturn :: []
def bk_BE_readFrom_34 : List Instr := .sipush (-4) :: .ireturn :: []
def bk_BE_readFrom_32 : List Instr := .iinc 2 1 :: .goto 17 :: bk_BE_readFrom_34
def bk_BE_readFrom_17 : List Instr := .iload 2 :: .sipush 400 :: .if_icmp .ge 34 :: .aload 1 :: .invokeinterface 38 1 :: .ifCond .eq 34 :: .aload 1 :: .getfield 322 :: .istore 3 :: .aload 0 :: .aload 1 :: .invokeinterface 4 2 :: .ifCond .ne 32 :: .iload 3 :: .ireturn :: bk_BE_readFrom_32
def bk_BE_readFrom_0 : List Instr := .aload 0 :: .sipush 8 :: .putfield 1 :: .aload 0 :: .getfield 2 :: .invokeinterface 62 1 :: .aload 0 :: .sipush 0 :: .putfield 3 :: .aload 0 :: .sipush 0 :: .putfield 8 :: .aload 1 :: .sipush 0 :: .putfield 322 :: .sipush 0 :: .istore 2 :: bk_BE_readFrom_17
def bk_BE_readItem_63 : List Instr := .sipush 0 :: .areturn :: []
def bk_BE_readItem_62 : List Instr := .areturn :: bk_BE_readItem_63
def bk_BE_readItem_61 : List Instr := .sipush 0 :: bk_BE_readItem_62
def bk_BE_readItem_51 : List Instr := .aload 0 :: .aload 1 :: .sipush 5 :: .invokeinterface 5 3 :: .ifCond .eq 61 :: .aload 0 :: .invokeinterface 10 1 :: .ifCond .eq 61 :: .sipush 1 :: .goto 62 :: bk_BE_readItem_61
def bk_BE_readItem_50 : List Instr := .areturn :: bk_BE_readItem_51
def bk_BE_readItem_49 : List Instr := .sipush 0 :: bk_BE_readItem_50
def bk_BE_readItem_39 : List Instr := .aload 0 :: .aload 1 :: .sipush 4 :: .invokeinterface 5 3 :: .ifCond .eq 49 :: .aload 0 :: .invokeinterface 9 1 :: .ifCond .eq 49 :: .sipush 1 :: .goto 50 :: bk_BE_readItem_49
def bk_BE_readItem_38 : List Instr := .areturn :: bk_BE_readItem_39
def bk_BE_readItem_37 : List Instr := .sipush 0 :: bk_BE_readItem_38
def bk_BE_readItem_27 : List Instr := .aload 0 :: .aload 1 :: .sipush 3 :: .invokeinterface 5 3 :: .ifCond .eq 37 :: .aload 0 :: .invokeinterface 8 1 :: .ifCond .eq 37 :: .sipush 1 :: .goto 38 :: bk_BE_readItem_37
def bk_BE_readItem_26 : List Instr := .areturn :: bk_BE_readItem_27
def bk_BE_readItem_25 : List Instr := .sipush 0 :: bk_BE_readItem_26
def bk_BE_readItem_15 : List Instr := .aload 0 :: .aload 1 :: .sipush 2 :: .invokeinterface 5 3 :: .ifCond .eq 25 :: .aload 0 :: .invokeinterface 7 1 :: .ifCond .eq 25 :: .sipush 1 :: .goto 26 :: bk_BE_readItem_25
def bk_BE_readItem_14 : List Instr := .areturn :: bk_BE_readItem_15
def bk_BE_readItem_13 : List Instr := .sipush 0 :: bk_BE_readItem_14
def bk_BE_readItem_3 : List Instr := .aload 0 :: .aload 1 :: .sipush 1 :: .invokeinterface 5 3 :: .ifCond .eq 13 :: .aload 0 :: .invokeinterface 6 1 :: .ifCond .eq 13 :: .sipush 1 :: .goto 14 :: bk_BE_readItem_13
def bk_BE_readItem_0 : List Instr := .aload 1 :: .invokeinterface 40 1 :: .tableswitch 63 107 119 #[39, 51, 63, 3, 63, 63, 63, 63, 63, 15, 63, 63, 27] :: bk_BE_readItem_3
def bk_BE_readNumbers_37 : List Instr := .sipush 1 :: .areturn :: []
def bk_BE_readNumbers_35 : List Instr := .iinc 3 1 :: .goto 2 :: bk_BE_readNumbers_37
def bk_BE_readNumbers_31 : List Instr := .invokeinterface 41 2 :: .ifCond .ne 35 :: .sipush 0 :: .areturn :: bk_BE_readNumbers_35
def bk_BE_readNumbers_30 : List Instr := .sipush 44 :: bk_BE_readNumbers_31
def bk_BE_readNumbers_16 : List Instr := .aload 0 :: .getfield 0 :: .iload 3 :: .aload 1 :: .getfield 323 :: .iastore :: .aload 1 :: .iload 3 :: .iload 2 :: .sipush 1 :: .isub :: .if_icmp .ne 30 :: .sipush 59 :: .goto 31 :: bk_BE_readNumbers_30
def bk_BE_readNumbers_2 : List Instr := .iload 3 :: .iload 2 :: .if_icmp .ge 37 :: .iload 3 :: .aload 0 :: .getfield 0 :: .arraylength :: .if_icmp .ge 37 :: .aload 1 :: .sipush 1 :: .invokeinterface 42 2 :: .ifCond .ne 16 :: .sipush 0 :: .areturn :: bk_BE_readNumbers_16
def bk_BE_readNumbers_0 : List Instr := .sipush 0 :: .istore 3 :: bk_BE_readNumbers_2
def bk_BE_addCells_10 : List Instr := .aload 0 :: .aload 0 :: .getfield 0 :: .sipush 0 :: .iaload :: .putfield 1 :: .sipush 1 :: .areturn :: []
def bk_BE_addCells_0 : List Instr := .aload 0 :: .getfield 0 :: .sipush 0 :: .iaload :: .sipush 1 :: .sipush 16 :: .invokeinterface 107 3 :: .ifCond .ne 10 :: .sipush 0 :: .areturn :: bk_BE_addCells_10
def bk_BE_addTide_23 : List Instr := .aload 0 :: .getfield 2 :: .aload 0 :: .getfield 0 :: .sipush 0 :: .iaload :: .aload 0 :: .getfield 0 :: .sipush 1 :: .iaload :: .invokeinterface 63 3 :: .sipush 1 :: .areturn :: []
def bk_BE_addTide_21 : List Instr := .sipush 0 :: .areturn :: bk_BE_addTide_23
def bk_BE_addTide_0 : List Instr := .aload 0 :: .getfield 2 :: .getfield 512 :: .sipush 12 :: .if_icmp .ge 21 :: .aload 0 :: .getfield 0 :: .sipush 0 :: .iaload :: .sipush (-9) :: .sipush 9 :: .invokeinterface 107 3 :: .ifCond .eq 21 :: .aload 0 :: .getfield 0 :: .sipush 1 :: .iaload :: .sipush (-9) :: .sipush 9 :: .invokeinterface 107 3 :: .ifCond .ne 23 :: bk_BE_addTide_21
def bk_BE_addWind_29 : List Instr := .aload 0 :: .getfield 2 :: .aload 0 :: .getfield 0 :: .sipush 0 :: .iaload :: .aload 0 :: .getfield 0 :: .sipush 1 :: .iaload :: .aload 0 :: .getfield 0 :: .sipush 2 :: .iaload :: .invokeinterface 64 4 :: .sipush 1 :: .areturn :: []
def bk_BE_addWind_27 : List Instr := .sipush 0 :: .areturn :: bk_BE_addWind_29
def bk_BE_addWind_0 : List Instr := .aload 0 :: .getfield 2 :: .getfield 515 :: .sipush 12 :: .if_icmp .ge 27 :: .aload 0 :: .getfield 0 :: .sipush 0 :: .iaload :: .invokeinterface 108 1 :: .ifCond .eq 27 :: .aload 0 :: .getfield 0 :: .sipush 1 :: .iaload :: .sipush (-99) :: .sipush 99 :: .invokeinterface 107 3 :: .ifCond .eq 27 :: .aload 0 :: .getfield 0 :: .sipush 2 :: .iaload :: .sipush (-99) :: .sipush 99 :: .invokeinterface 107 3 :: .ifCond .ne 29 :: bk_BE_addWind_27
def bk_BE_addKind_39 : List Instr := .aload 0 :: .getfield 4 :: .aload 0 :: .getfield 3 :: .aload 0 :: .getfield 0 :: .sipush 0 :: .iaload :: .iastore :: .aload 0 :: .getfield 5 :: .aload 0 :: .getfield 3 :: .aload 0 :: .getfield 0 :: .sipush 1 :: .iaload :: .iastore :: .aload 0 :: .getfield 6 :: .aload 0 :: .getfield 3 :: .aload 0 :: .getfield 0 :: .sipush 2 :: .iaload :: .iastore :: .aload 0 :: .getfield 7 :: .aload 0 :: .getfield 3 :: .aload 0 :: .getfield 0 :: .sipush 3 :: .iaload :: .iastore :: .aload 0 :: .dup :: .getfield 3 :: .sipush 1 :: .iadd :: .putfield 3 :: .sipush 1 :: .areturn :: []
def bk_BE_addKind_37 : List Instr := .sipush 0 :: .areturn :: bk_BE_addKind_39
def bk_BE_addKind_0 : List Instr := .aload 0 :: .getfield 3 :: .sipush 6 :: .if_icmp .ge 37 :: .aload 0 :: .getfield 0 :: .sipush 0 :: .iaload :: .sipush 0 :: .sipush 10 :: .invokeinterface 107 3 :: .ifCond .eq 37 :: .aload 0 :: .getfield 0 :: .sipush 1 :: .iaload :: .aload 0 :: .getfield 0 :: .sipush 0 :: .iaload :: .sipush 10 :: .invokeinterface 107 3 :: .ifCond .eq 37 :: .aload 0 :: .getfield 0 :: .sipush 2 :: .iaload :: .invokeinterface 109 1 :: .ifCond .eq 37 :: .aload 0 :: .getfield 0 :: .sipush 3 :: .iaload :: .sipush 0 :: .sipush 999 :: .invokeinterface 107 3 :: .ifCond .ne 39 :: bk_BE_addKind_37
def bk_BE_addLoss_61 : List Instr := .aload 0 :: .getfield 9 :: .aload 0 :: .getfield 8 :: .aload 0 :: .getfield 0 :: .sipush 0 :: .iaload :: .iastore :: .aload 0 :: .getfield 10 :: .aload 0 :: .getfield 8 :: .aload 0 :: .getfield 0 :: .sipush 1 :: .iaload :: .iastore :: .aload 0 :: .getfield 11 :: .aload 0 :: .getfield 8 :: .aload 0 :: .getfield 0 :: .sipush 2 :: .iaload :: .iastore :: .aload 0 :: .getfield 12 :: .aload 0 :: .getfield 8 :: .aload 0 :: .getfield 0 :: .sipush 3 :: .iaload :: .iastore :: .aload 0 :: .getfield 13 :: .aload 0 :: .getfield 8 :: .aload 0 :: .getfield 0 :: .sipush 4 :: .iaload :: .iastore :: .aload 0 :: .dup :: .getfield 8 :: .sipush 1 :: .iadd :: .putfield 8 :: .sipush 1 :: .areturn :: []
def bk_BE_addLoss_59 : List Instr := .sipush 0 :: .areturn :: bk_BE_addLoss_61
def bk_BE_addLoss_0 : List Instr := .aload 0 :: .getfield 8 :: .sipush 8 :: .if_icmp .ge 59 :: .aload 0 :: .getfield 0 :: .sipush 0 :: .iaload :: .sipush 0 :: .aload 0 :: .getfield 3 :: .sipush 1 :: .isub :: .invokeinterface 107 3 :: .ifCond .eq 59 :: .aload 0 :: .getfield 0 :: .sipush 1 :: .iaload :: .sipush 0 :: .sipush 159 :: .invokeinterface 107 3 :: .ifCond .eq 59 :: .aload 0 :: .getfield 0 :: .sipush 2 :: .iaload :: .sipush 1 :: .sipush 99 :: .invokeinterface 107 3 :: .ifCond .eq 59 :: .aload 0 :: .getfield 0 :: .sipush 3 :: .iaload :: .invokeinterface 108 1 :: .ifCond .eq 59 :: .aload 0 :: .getfield 0 :: .sipush 4 :: .iaload :: .invokeinterface 108 1 :: .ifCond .eq 59 :: .aload 0 :: .getfield 0 :: .sipush 4 :: .iaload :: .aload 0 :: .getfield 0 :: .sipush 3 :: .iaload :: .aload 0 :: .getfield 0 :: .sipush 3 :: .iaload :: .sipush 9 :: .iadd :: .invokeinterface 107 3 :: .ifCond .ne 61 :: bk_BE_addLoss_59
def bk_LA_init_0 : List Instr := .aload 0 :: .pop :: .aload 0 :: .sipush (-1) :: .putfield 64 :: .aload 0 :: .sipush (-1) :: .putfield 65 :: .aload 0 :: .sipush 8 :: .newarray .boolean :: .putfield 66 :: .aload 0 :: .sipush 8 :: .sipush 110 :: .multianewarray 4 2 :: .putfield 67 :: .aload 0 :: .sipush 8 :: .sipush 110 :: .multianewarray 4 2 :: .putfield 68 :: .return_ :: []
def bk_LA_forget_12 : List Instr := .return_ :: []
def bk_LA_forget_2 : List Instr := .iload 1 :: .sipush 8 :: .if_icmp .ge 12 :: .aload 0 :: .getfield 66 :: .iload 1 :: .sipush 0 :: .bastore :: .iinc 1 1 :: .goto 2 :: bk_LA_forget_12
def bk_LA_forget_0 : List Instr := .sipush 0 :: .istore 1 :: bk_LA_forget_2
def bk_LA_release_115 : List Instr := .return_ :: []
def bk_LA_release_113 : List Instr := .iinc 13 1 :: .goto 28 :: bk_LA_release_115
def bk_LA_release_100 : List Instr := .iload 8 :: .ifCond .gt 113 :: .aload 0 :: .iload 7 :: .sipush 10 :: .idiv :: .putfield 64 :: .aload 0 :: .iload 13 :: .sipush 1 :: .iadd :: .putfield 65 :: .return_ :: bk_LA_release_113
def bk_LA_release_99 : List Instr := .return_ :: bk_LA_release_100
def bk_LA_release_83 : List Instr := .iload 7 :: .iload 9 :: .iadd :: .istore 7 :: .iload 8 :: .iload 10 :: .iadd :: .istore 8 :: .iload 7 :: .ifCond .lt 99 :: .iload 7 :: .iload 12 :: .if_icmp .gt 99 :: .iload 8 :: .sipush 99 :: .if_icmp .le 100 :: bk_LA_release_99
def bk_LA_release_61 : List Instr := .aload 6 :: .getfield 512 :: .ifCond .le 83 :: .iload 13 :: .aload 6 :: .getfield 512 :: .irem :: .istore 14 :: .iload 7 :: .aload 6 :: .getfield 513 :: .iload 14 :: .iaload :: .iadd :: .istore 7 :: .iload 8 :: .aload 6 :: .getfield 514 :: .iload 14 :: .iaload :: .iadd :: .istore 8 :: bk_LA_release_83
def bk_LA_release_31 : List Instr := .iload 11 :: .aload 6 :: .getfield 516 :: .if_icmp .ge 61 :: .aload 6 :: .getfield 517 :: .iload 11 :: .iaload :: .iload 13 :: .if_icmp .gt 61 :: .iload 5 :: .aload 6 :: .getfield 518 :: .iload 11 :: .iaload :: .imul :: .sipush 10 :: .idiv :: .istore 9 :: .iload 5 :: .aload 6 :: .getfield 519 :: .iload 11 :: .iaload :: .imul :: .sipush 10 :: .idiv :: .istore 10 :: .iinc 11 1 :: .goto 31 :: bk_LA_release_61
def bk_LA_release_28 : List Instr := .iload 13 :: .sipush 999 :: .if_icmp .ge 115 :: bk_LA_release_31
def bk_LA_release_0 : List Instr := .aload 1 :: .getfield 2 :: .astore 6 :: .iload 2 :: .istore 7 :: .iload 3 :: .istore 8 :: .sipush 0 :: .istore 9 :: .sipush 0 :: .istore 10 :: .sipush 0 :: .istore 11 :: .sipush 10 :: .aload 1 :: .getfield 1 :: .imul :: .sipush 1 :: .isub :: .istore 12 :: .aload 0 :: .sipush (-1) :: .putfield 64 :: .aload 0 :: .sipush (-1) :: .putfield 65 :: .iload 4 :: .istore 13 :: bk_LA_release_28
def bk_LA_settle_72 : List Instr := .aload 0 :: .getfield 66 :: .iload 2 :: .sipush 1 :: .bastore :: .return_ :: []
def bk_LA_settle_70 : List Instr := .iinc 5 1 :: .goto 18 :: bk_LA_settle_72
def bk_LA_settle_68 : List Instr := .iinc 6 1 :: .goto 29 :: bk_LA_settle_70
def bk_LA_settle_29 : List Instr := .iload 6 :: .aload 1 :: .getfield 13 :: .iload 2 :: .iaload :: .if_icmp .gt 70 :: .iload 4 :: .sipush 110 :: .if_icmp .ge 68 :: .aload 0 :: .aload 1 :: .aload 1 :: .getfield 10 :: .iload 2 :: .iaload :: .aload 1 :: .getfield 11 :: .iload 2 :: .iaload :: .iload 6 :: .iload 5 :: .invokeinterface 13 6 :: .aload 0 :: .getfield 67 :: .iload 2 :: .aaload :: .iload 4 :: .aload 0 :: .getfield 64 :: .iastore :: .aload 0 :: .getfield 68 :: .iload 2 :: .aaload :: .iload 4 :: .aload 0 :: .getfield 65 :: .iastore :: .iinc 4 1 :: bk_LA_settle_68
def bk_LA_settle_18 : List Instr := .iload 5 :: .aload 1 :: .getfield 5 :: .iload 3 :: .iaload :: .if_icmp .gt 72 :: .aload 1 :: .getfield 12 :: .iload 2 :: .iaload :: .istore 6 :: bk_LA_settle_29
def bk_LA_settle_6 : List Instr := .aload 1 :: .getfield 9 :: .iload 2 :: .iaload :: .istore 3 :: .sipush 0 :: .istore 4 :: .aload 1 :: .getfield 4 :: .iload 3 :: .iaload :: .istore 5 :: bk_LA_settle_18
def bk_LA_settle_0 : List Instr := .aload 0 :: .getfield 66 :: .iload 2 :: .baload :: .ifCond .eq 6 :: .return_ :: bk_LA_settle_6
def bk_LA_howMany_31 : List Instr := .iload 6 :: .ireturn :: []
def bk_LA_howMany_29 : List Instr := .iinc 7 1 :: .goto 4 :: bk_LA_howMany_31
def bk_LA_howMany_4 : List Instr := .iload 7 :: .iload 2 :: .if_icmp .ge 31 :: .iload 7 :: .sipush 110 :: .if_icmp .ge 31 :: .aload 0 :: .getfield 67 :: .iload 1 :: .aaload :: .iload 7 :: .iaload :: .iload 3 :: .if_icmp .ne 29 :: .aload 0 :: .getfield 68 :: .iload 1 :: .aaload :: .iload 7 :: .iaload :: .iload 4 :: .iload 5 :: .invokeinterface 107 3 :: .ifCond .eq 29 :: .iinc 6 1 :: bk_LA_howMany_29
def bk_LA_howMany_0 : List Instr := .sipush 0 :: .istore 6 :: .sipush 0 :: .istore 7 :: bk_LA_howMany_4
def bk_LW_init_0 : List Instr := .aload 0 :: .pop :: .aload 0 :: .sipush 0 :: .putfield 128 :: .aload 0 :: .sipush 10 :: .newarray .int :: .putfield 129 :: .aload 0 :: .sipush 10 :: .sipush 3 :: .multianewarray 4 2 :: .putfield 130 :: .aload 0 :: .sipush 10 :: .sipush 3 :: .multianewarray 4 2 :: .putfield 131 :: .aload 0 :: .sipush 10 :: .sipush 3 :: .multianewarray 4 2 :: .putfield 132 :: .aload 0 :: .sipush 10 :: .newarray .int :: .putfield 133 :: .aload 0 :: .sipush 10 :: .newarray .int :: .putfield 134 :: .aload 0 :: .sipush 10 :: .newarray .int :: .putfield 135 :: .return_ :: []
def bk_LW_readFrom_39 : List Instr := .sipush (-4) :: .ireturn :: []
def bk_LW_readFrom_31 : List Instr := .aload 0 :: .dup :: .getfield 128 :: .sipush 1 :: .iadd :: .putfield 128 :: .iinc 2 1 :: .goto 8 :: bk_LW_readFrom_39
def bk_LW_readFrom_29 : List Instr := .iload 3 :: .ireturn :: bk_LW_readFrom_31
def bk_LW_readFrom_8 : List Instr := .iload 2 :: .sipush 400 :: .if_icmp .ge 39 :: .aload 1 :: .invokeinterface 38 1 :: .ifCond .eq 39 :: .aload 1 :: .getfield 322 :: .istore 3 :: .aload 0 :: .getfield 128 :: .sipush 10 :: .if_icmp .ge 29 :: .aload 0 :: .aload 1 :: .invokeinterface 18 2 :: .ifCond .eq 29 :: .aload 0 :: .aload 1 :: .invokeinterface 20 2 :: .ifCond .ne 31 :: bk_LW_readFrom_29
def bk_LW_readFrom_0 : List Instr := .aload 0 :: .sipush 0 :: .putfield 128 :: .aload 1 :: .sipush 0 :: .putfield 322 :: .sipush 0 :: .istore 2 :: bk_LW_readFrom_8
def bk_LW_readConditions_46 : List Instr := .sipush 0 :: .areturn :: []
def bk_LW_readConditions_44 : List Instr := .iinc 2 1 :: .goto 14 :: bk_LW_readConditions_46
def bk_LW_readConditions_38 : List Instr := .aload 1 :: .sipush 38 :: .invokeinterface 41 2 :: .ifCond .ne 44 :: .sipush 0 :: .areturn :: bk_LW_readConditions_44
def bk_LW_readConditions_24 : List Instr := .aload 0 :: .getfield 129 :: .aload 0 :: .getfield 128 :: .iload 2 :: .sipush 1 :: .iadd :: .iastore :: .aload 1 :: .sipush 58 :: .invokeinterface 41 2 :: .ifCond .eq 38 :: .sipush 1 :: .areturn :: bk_LW_readConditions_38
def bk_LW_readConditions_14 : List Instr := .iload 2 :: .sipush 3 :: .if_icmp .ge 46 :: .aload 0 :: .aload 1 :: .iload 2 :: .invokeinterface 19 3 :: .ifCond .ne 24 :: .sipush 0 :: .areturn :: bk_LW_readConditions_24
def bk_LW_readConditions_12 : List Instr := .sipush 0 :: .istore 2 :: bk_LW_readConditions_14
def bk_LW_readConditions_0 : List Instr := .aload 0 :: .getfield 129 :: .aload 0 :: .getfield 128 :: .sipush 0 :: .iastore :: .aload 1 :: .sipush 58 :: .invokeinterface 41 2 :: .ifCond .eq 12 :: .sipush 1 :: .areturn :: bk_LW_readConditions_12
def bk_LW_readCondition_36 : List Instr := .aload 0 :: .getfield 130 :: .aload 0 :: .getfield 128 :: .aaload :: .iload 2 :: .iload 3 :: .iastore :: .aload 0 :: .getfield 131 :: .aload 0 :: .getfield 128 :: .aaload :: .iload 2 :: .iload 4 :: .iastore :: .aload 0 :: .getfield 132 :: .aload 0 :: .getfield 128 :: .aaload :: .iload 2 :: .aload 1 :: .getfield 323 :: .iastore :: .sipush 1 :: .areturn :: []
def bk_LW_readCondition_34 : List Instr := .sipush 0 :: .areturn :: bk_LW_readCondition_36
def bk_LW_readCondition_30 : List Instr := .aload 1 :: .sipush 0 :: .invokeinterface 42 2 :: .ifCond .ne 36 :: bk_LW_readCondition_34
def bk_LW_readCondition_21 : List Instr := .istore 5 :: .iload 5 :: .ifCond .eq 34 :: .iload 4 :: .sipush 60 :: .if_icmp .eq 30 :: .iload 4 :: .sipush 62 :: .if_icmp .ne 34 :: bk_LW_readCondition_30
def bk_LW_readCondition_20 : List Instr := .sipush 0 :: bk_LW_readCondition_21
def bk_LW_readCondition_18 : List Instr := .sipush 1 :: .goto 21 :: bk_LW_readCondition_20
def bk_LW_readCondition_0 : List Instr := .aload 1 :: .invokeinterface 40 1 :: .istore 3 :: .aload 1 :: .invokeinterface 40 1 :: .istore 4 :: .iload 3 :: .sipush 119 :: .if_icmp .eq 18 :: .iload 3 :: .sipush 107 :: .if_icmp .eq 18 :: .iload 3 :: .sipush 99 :: .if_icmp .eq 18 :: .iload 3 :: .sipush 104 :: .if_icmp .ne 20 :: bk_LW_readCondition_18
def bk_LW_readOutcome_55 : List Instr := .aload 0 :: .getfield 135 :: .aload 0 :: .getfield 128 :: .aload 1 :: .getfield 323 :: .iastore :: .aload 1 :: .sipush 59 :: .invokeinterface 41 2 :: .areturn :: []
def bk_LW_readOutcome_53 : List Instr := .sipush 0 :: .areturn :: bk_LW_readOutcome_55
def bk_LW_readOutcome_34 : List Instr := .aload 0 :: .getfield 134 :: .aload 0 :: .getfield 128 :: .aload 1 :: .getfield 323 :: .iastore :: .aload 1 :: .sipush 44 :: .invokeinterface 41 2 :: .ifCond .eq 53 :: .aload 1 :: .sipush 0 :: .invokeinterface 42 2 :: .ifCond .eq 53 :: .aload 1 :: .getfield 323 :: .sipush 100 :: .if_icmp .le 55 :: bk_LW_readOutcome_53
def bk_LW_readOutcome_32 : List Instr := .sipush 0 :: .areturn :: bk_LW_readOutcome_34
def bk_LW_readOutcome_28 : List Instr := .aload 1 :: .sipush 0 :: .invokeinterface 42 2 :: .ifCond .ne 34 :: bk_LW_readOutcome_32
def bk_LW_readOutcome_18 : List Instr := .iastore :: .iload 2 :: .sipush 70 :: .if_icmp .eq 28 :: .iload 2 :: .sipush 79 :: .if_icmp .eq 28 :: .iload 2 :: .sipush 67 :: .if_icmp .ne 32 :: bk_LW_readOutcome_28
def bk_LW_readOutcome_17 : List Instr := .sipush 3 :: bk_LW_readOutcome_18
def bk_LW_readOutcome_12 : List Instr := .iload 2 :: .sipush 79 :: .if_icmp .ne 17 :: .sipush 2 :: .goto 18 :: bk_LW_readOutcome_17
def bk_LW_readOutcome_0 : List Instr := .aload 1 :: .invokeinterface 40 1 :: .istore 2 :: .aload 0 :: .getfield 133 :: .aload 0 :: .getfield 128 :: .iload 2 :: .sipush 70 :: .if_icmp .ne 12 :: .sipush 1 :: .goto 18 :: bk_LW_readOutcome_12
def bk_LW_firstThatHolds_64 : List Instr := .sipush (-4) :: .ireturn :: []
def bk_LW_firstThatHolds_62 : List Instr := .iinc 5 1 :: .goto 2 :: bk_LW_firstThatHolds_64
def bk_LW_firstThatHolds_58 : List Instr := .iload 6 :: .ifCond .eq 62 :: .iload 5 :: .ireturn :: bk_LW_firstThatHolds_62
def bk_LW_firstThatHolds_55 : List Instr := .istore 6 :: .iinc 7 1 :: .goto 10 :: bk_LW_firstThatHolds_58
def bk_LW_firstThatHolds_54 : List Instr := .sipush 0 :: bk_LW_firstThatHolds_55
def bk_LW_firstThatHolds_52 : List Instr := .sipush 1 :: .goto 55 :: bk_LW_firstThatHolds_54
def bk_LW_firstThatHolds_49 : List Instr := .iload 8 :: .iload 9 :: .if_icmp .le 54 :: bk_LW_firstThatHolds_52
def bk_LW_firstThatHolds_10 : List Instr := .iload 7 :: .aload 0 :: .getfield 129 :: .iload 5 :: .iaload :: .if_icmp .ge 58 :: .aload 0 :: .getfield 130 :: .iload 5 :: .aaload :: .iload 7 :: .iaload :: .iload 1 :: .iload 2 :: .iload 3 :: .iload 4 :: .invokeinterface 22 5 :: .istore 8 :: .aload 0 :: .getfield 132 :: .iload 5 :: .aaload :: .iload 7 :: .iaload :: .istore 9 :: .iload 6 :: .ifCond .eq 54 :: .aload 0 :: .getfield 131 :: .iload 5 :: .aaload :: .iload 7 :: .iaload :: .sipush 60 :: .if_icmp .ne 49 :: .iload 8 :: .iload 9 :: .if_icmp .ge 54 :: .goto 52 :: bk_LW_firstThatHolds_49
def bk_LW_firstThatHolds_2 : List Instr := .iload 5 :: .aload 0 :: .getfield 128 :: .if_icmp .ge 64 :: .sipush 1 :: .istore 6 :: .sipush 0 :: .istore 7 :: bk_LW_firstThatHolds_10
def bk_LW_firstThatHolds_0 : List Instr := .sipush 0 :: .istore 5 :: bk_LW_firstThatHolds_2
def bk_LW_valueOf_8 : List Instr := .iload 4 :: .ireturn :: []
def bk_LW_valueOf_6 : List Instr := .iload 3 :: .ireturn :: bk_LW_valueOf_8
def bk_LW_valueOf_4 : List Instr := .iload 2 :: .ireturn :: bk_LW_valueOf_6
def bk_LW_valueOf_2 : List Instr := .iload 1 :: .ireturn :: bk_LW_valueOf_4
def bk_LW_valueOf_0 : List Instr := .iload 0 :: .lookupswitch 8 #[(99, 6), (107, 4), (119, 2)] :: bk_LW_valueOf_2
def bk_MA_init_0 : List Instr := .aload 0 :: .pop :: .aload 0 :: .sipush 8 :: .newarray .int :: .putfield 192 :: .aload 0 :: .sipush 256 :: .newarray .boolean :: .putfield 193 :: .return_ :: []
def bk_MA_solve_27 : List Instr := .aload 0 :: .getfield 193 :: .sipush 0 :: .baload :: .areturn :: []
def bk_MA_solve_24 : List Instr := .bastore :: .iinc 2 (-1) :: .goto 2 :: bk_MA_solve_27
def bk_MA_solve_23 : List Instr := .sipush 0 :: bk_MA_solve_24
def bk_MA_solve_21 : List Instr := .sipush 1 :: .goto 24 :: bk_MA_solve_23
def bk_MA_solve_2 : List Instr := .iload 2 :: .ifCond .lt 27 :: .iload 2 :: .invokeinterface 185 1 :: .istore 3 :: .aload 0 :: .getfield 193 :: .iload 2 :: .iload 3 :: .iload 1 :: .if_icmp .eq 21 :: .iload 3 :: .iload 1 :: .if_icmp .ge 23 :: .aload 0 :: .iload 3 :: .iload 2 :: .invokeinterface 25 3 :: .ifCond .lt 23 :: bk_MA_solve_21
def bk_MA_solve_0 : List Instr := .sipush 255 :: .istore 2 :: bk_MA_solve_2
def bk_MA_lowestFor_34 : List Instr := .sipush (-4) :: .ireturn :: []
def bk_MA_lowestFor_32 : List Instr := .iinc 4 1 :: .goto 11 :: bk_MA_lowestFor_34
def bk_MA_lowestFor_11 : List Instr := .iload 4 :: .sipush 8 :: .if_icmp .ge 34 :: .iload 3 :: .iload 4 :: .ishr :: .sipush 1 :: .iand :: .sipush 1 :: .if_icmp .ne 32 :: .aload 0 :: .getfield 193 :: .iload 2 :: .sipush 1 :: .iload 4 :: .ishl :: .ior :: .baload :: .ifCond .eq 32 :: .iload 4 :: .ireturn :: bk_MA_lowestFor_32
def bk_MA_lowestFor_0 : List Instr := .aload 0 :: .getfield 192 :: .iload 1 :: .iaload :: .iload 2 :: .sipush (-1) :: .ixor :: .iand :: .istore 3 :: .sipush 0 :: .istore 4 :: bk_MA_lowestFor_11
def bk_MA_choiceOf_26 : List Instr := .iload 3 :: .ireturn :: []
def bk_MA_choiceOf_18 : List Instr := .iload 2 :: .sipush 1 :: .iload 3 :: .ishl :: .ior :: .istore 2 :: .iinc 4 1 :: .goto 6 :: bk_MA_choiceOf_26
def bk_MA_choiceOf_6 : List Instr := .iload 4 :: .iload 1 :: .if_icmp .gt 26 :: .aload 0 :: .iload 4 :: .iload 2 :: .invokeinterface 25 3 :: .istore 3 :: .iload 3 :: .ifCond .ge 18 :: .sipush (-4) :: .ireturn :: bk_MA_choiceOf_18
def bk_MA_choiceOf_0 : List Instr := .sipush 0 :: .istore 2 :: .sipush (-4) :: .istore 3 :: .sipush 0 :: .istore 4 :: bk_MA_choiceOf_6
def bk_OU_init_0 : List Instr := .aload 0 :: .pop :: .aload 0 :: .sipush 6 :: .sipush 16 :: .multianewarray 4 2 :: .putfield 256 :: .aload 0 :: .sipush 8 :: .newarray .int :: .putfield 257 :: .aload 0 :: .sipush 8 :: .sipush 16 :: .multianewarray 4 2 :: .putfield 258 :: .aload 0 :: .sipush 16 :: .newarray .long :: .putfield 259 :: .aload 0 :: .sipush 4 :: .sipush 17 :: .multianewarray 5 2 :: .putfield 260 :: .return_ :: []
def bk_OU_readReports_62 : List Instr := .return_ :: []
def bk_OU_readReports_60 : List Instr := .iinc 3 1 :: .goto 15 :: bk_OU_readReports_62
def bk_OU_readReports_15 : List Instr := .iload 3 :: .aload 2 :: .getfield 388 :: .if_icmp .ge 62 :: .aload 2 :: .getfield 392 :: .iload 3 :: .iaload :: .istore 4 :: .aload 2 :: .getfield 389 :: .iload 3 :: .iaload :: .istore 5 :: .aload 2 :: .getfield 393 :: .iload 3 :: .baload :: .ifCond .ne 60 :: .aload 2 :: .getfield 391 :: .iload 3 :: .iaload :: .aload 1 :: .getfield 6 :: .iload 4 :: .iaload :: .if_icmp .lt 60 :: .aload 0 :: .getfield 256 :: .iload 4 :: .aaload :: .iload 5 :: .aload 0 :: .getfield 256 :: .iload 4 :: .aaload :: .iload 5 :: .iaload :: .aload 2 :: .getfield 390 :: .iload 3 :: .iaload :: .fadd :: .iastore :: bk_OU_readReports_60
def bk_OU_readReports_13 : List Instr := .sipush 0 :: .istore 3 :: bk_OU_readReports_15
def bk_OU_readReports_2 : List Instr := .iload 3 :: .sipush 6 :: .if_icmp .ge 13 :: .aload 0 :: .getfield 256 :: .iload 3 :: .aaload :: .sipush (-1) :: .invokeinterface 187 2 :: .iinc 3 1 :: .goto 2 :: bk_OU_readReports_13
def bk_OU_readReports_0 : List Instr := .sipush 0 :: .istore 3 :: bk_OU_readReports_2
def bk_OU_weigh_85 : List Instr := .return_ :: []
def bk_OU_weigh_83 : List Instr := .iinc 7 1 :: .goto 25 :: bk_OU_weigh_85
def bk_OU_weigh_57 : List Instr := .iload 9 :: .aload 5 :: .iload 8 :: .iaload :: .if_icmp .le 83 :: .aload 0 :: .getfield 257 :: .iload 3 :: .dup2 :: .iaload :: .sipush 1 :: .iadd :: .iastore :: .iload 9 :: .iload 4 :: .if_icmp .gt 83 :: .aload 0 :: .getfield 258 :: .iload 3 :: .aaload :: .iload 8 :: .dup2 :: .iaload :: .sipush 1 :: .iadd :: .iastore :: bk_OU_weigh_83
def bk_OU_weigh_25 : List Instr := .iload 7 :: .iload 6 :: .if_icmp .ge 85 :: .iload 7 :: .sipush 110 :: .if_icmp .ge 85 :: .aload 2 :: .getfield 67 :: .iload 3 :: .aaload :: .iload 7 :: .iaload :: .istore 8 :: .aload 2 :: .getfield 68 :: .iload 3 :: .aaload :: .iload 7 :: .iaload :: .istore 9 :: .iload 8 :: .sipush (-1) :: .if_icmp .ne 57 :: .aload 0 :: .getfield 257 :: .iload 3 :: .dup2 :: .iaload :: .sipush 1 :: .iadd :: .iastore :: .goto 83 :: bk_OU_weigh_57
def bk_OU_weigh_0 : List Instr := .aload 0 :: .getfield 256 :: .aload 1 :: .getfield 9 :: .iload 3 :: .iaload :: .aaload :: .astore 5 :: .aload 1 :: .iload 3 :: .invokeinterface 2 2 :: .istore 6 :: .aload 0 :: .getfield 258 :: .iload 3 :: .aaload :: .sipush 0 :: .invokeinterface 187 2 :: .aload 0 :: .getfield 257 :: .iload 3 :: .sipush 0 :: .iastore :: .sipush 0 :: .istore 7 :: bk_OU_weigh_25
def bk_OU_sumOver_66 : List Instr := .lload 5 :: .lreturn :: []
def bk_OU_sumOver_64 : List Instr := .iinc 7 1 :: .goto 4 :: bk_OU_sumOver_66
def bk_OU_sumOver_46 : List Instr := .lload 5 :: .aload 1 :: .getfield 7 :: .iload 8 :: .iaload :: .i2l :: .lload 9 :: .lmul :: .bipush 1000000 :: .lmul :: .aload 0 :: .getfield 257 :: .iload 7 :: .iaload :: .i2l :: .ldiv :: .ladd :: .lstore 5 :: bk_OU_sumOver_64
def bk_OU_sumOver_28 : List Instr := .iload 11 :: .iload 3 :: .if_icmp .gt 46 :: .iload 11 :: .sipush 16 :: .if_icmp .ge 46 :: .lload 9 :: .aload 0 :: .getfield 258 :: .iload 7 :: .aaload :: .iload 11 :: .iaload :: .i2l :: .ladd :: .lstore 9 :: .iinc 11 1 :: .goto 28 :: bk_OU_sumOver_46
def bk_OU_sumOver_4 : List Instr := .iload 7 :: .aload 1 :: .getfield 8 :: .if_icmp .ge 66 :: .aload 1 :: .getfield 9 :: .iload 7 :: .iaload :: .istore 8 :: .aload 1 :: .getfield 6 :: .iload 8 :: .iaload :: .iload 4 :: .if_icmp .gt 64 :: .aload 0 :: .getfield 257 :: .iload 7 :: .iaload :: .ifCond .le 64 :: .bipush 0 :: .lstore 9 :: .iload 2 :: .istore 11 :: bk_OU_sumOver_28
def bk_OU_sumOver_0 : List Instr := .bipush 0 :: .lstore 5 :: .sipush 0 :: .istore 7 :: bk_OU_sumOver_4
def bk_OU_weighStretches_24 : List Instr := .return_ :: []
def bk_OU_weighStretches_2 : List Instr := .iload 4 :: .iload 2 :: .iadd :: .aload 1 :: .getfield 1 :: .if_icmp .gt 24 :: .aload 0 :: .getfield 259 :: .iload 4 :: .aload 0 :: .aload 1 :: .iload 4 :: .iload 4 :: .iload 2 :: .iadd :: .sipush 1 :: .isub :: .iload 3 :: .invokeinterface 30 5 :: .lastore :: .iinc 4 1 :: .goto 2 :: bk_OU_weighStretches_24
def bk_OU_weighStretches_0 : List Instr := .sipush 0 :: .istore 4 :: bk_OU_weighStretches_2
def bk_OU_bestStretch_24 : List Instr := .iload 2 :: .ireturn :: []
def bk_OU_bestStretch_22 : List Instr := .iinc 3 1 :: .goto 4 :: bk_OU_bestStretch_24
def bk_OU_bestStretch_4 : List Instr := .iload 3 :: .iload 1 :: .if_icmp .gt 24 :: .iload 3 :: .sipush 16 :: .if_icmp .ge 24 :: .aload 0 :: .getfield 259 :: .iload 3 :: .laload :: .aload 0 :: .getfield 259 :: .iload 2 :: .laload :: .lcmp :: .ifCond .le 22 :: .iload 3 :: .istore 2 :: bk_OU_bestStretch_22
def bk_OU_bestStretch_0 : List Instr := .sipush 0 :: .istore 2 :: .sipush 1 :: .istore 3 :: bk_OU_bestStretch_4
def bk_OU_joinStretches_44 : List Instr := .return_ :: []
def bk_OU_joinStretches_42 : List Instr := .iinc 4 1 :: .goto 2 :: bk_OU_joinStretches_44
def bk_OU_joinStretches_18 : List Instr := .iload 5 :: .ifCond .lt 42 :: .aload 0 :: .getfield 260 :: .iload 4 :: .aaload :: .iload 5 :: .aload 0 :: .getfield 260 :: .iload 4 :: .aaload :: .iload 5 :: .sipush 1 :: .iadd :: .laload :: .aload 0 :: .iload 5 :: .iload 2 :: .iload 4 :: .invokeinterface 34 4 :: .dadd :: .lastore :: .iinc 5 (-1) :: .goto 18 :: bk_OU_joinStretches_42
def bk_OU_joinStretches_2 : List Instr := .iload 4 :: .iload 3 :: .if_icmp .gt 44 :: .iload 4 :: .sipush 3 :: .if_icmp .gt 44 :: .aload 0 :: .getfield 260 :: .iload 4 :: .aaload :: .bipush (-1) :: .invokeinterface 186 2 :: .iload 1 :: .iload 2 :: .isub :: .istore 5 :: bk_OU_joinStretches_18
def bk_OU_joinStretches_0 : List Instr := .sipush 1 :: .istore 4 :: bk_OU_joinStretches_2
def bk_OU_sumFrom_23 : List Instr := .lreturn :: []
def bk_OU_sumFrom_17 : List Instr := .aload 0 :: .getfield 259 :: .iload 1 :: .laload :: .lload 4 :: .ladd :: bk_OU_sumFrom_23
def bk_OU_sumFrom_0 : List Instr := .aload 0 :: .getfield 260 :: .iload 3 :: .sipush 1 :: .isub :: .aaload :: .iload 1 :: .iload 2 :: .iadd :: .laload :: .lstore 4 :: .lload 4 :: .bipush 0 :: .lcmp :: .ifCond .ge 17 :: .bipush (-1) :: .goto 23 :: bk_OU_sumFrom_17
def bk_OU_beginOf_51 : List Instr := .iload 5 :: .ireturn :: []
def bk_OU_beginOf_49 : List Instr := .iinc 6 1 :: .goto 4 :: bk_OU_beginOf_51
def bk_OU_beginOf_34 : List Instr := .iload 5 :: .iload 2 :: .iadd :: .iload 1 :: .if_icmp .ge 49 :: .aload 0 :: .iload 5 :: .iload 2 :: .iload 7 :: .invokeinterface 34 4 :: .lload 8 :: .lcmp :: .ifCond .eq 49 :: .iinc 5 1 :: .goto 34 :: bk_OU_beginOf_49
def bk_OU_beginOf_27 : List Instr := .aload 0 :: .getfield 260 :: .iload 7 :: .aaload :: .iload 5 :: .laload :: .lstore 8 :: bk_OU_beginOf_34
def bk_OU_beginOf_20 : List Instr := .iadd :: .istore 5 :: .iload 5 :: .iload 1 :: .if_icmp .le 27 :: .sipush (-4) :: .ireturn :: bk_OU_beginOf_27
def bk_OU_beginOf_19 : List Instr := .iload 2 :: bk_OU_beginOf_20
def bk_OU_beginOf_4 : List Instr := .iload 6 :: .iload 4 :: .if_icmp .gt 51 :: .iload 6 :: .iload 3 :: .if_icmp .ge 51 :: .iload 3 :: .iload 6 :: .isub :: .istore 7 :: .iload 5 :: .iload 6 :: .ifCond .ne 19 :: .sipush 0 :: .goto 20 :: bk_OU_beginOf_19
def bk_OU_beginOf_0 : List Instr := .sipush 0 :: .istore 5 :: .sipush 0 :: .istore 6 :: bk_OU_beginOf_4
def bk_SC_init_0 : List Instr := .aload 0 :: .pop :: .aload 0 :: .sipush 400 :: .newarray .byte :: .putfield 320 :: .aload 0 :: .sipush 0 :: .putfield 321 :: .aload 0 :: .sipush 0 :: .putfield 322 :: .aload 0 :: .sipush 0 :: .putfield 323 :: .return_ :: []
def bk_SC_append_30 : List Instr := .return_ :: []
def bk_SC_append_4 : List Instr := .iload 4 :: .ifCond .lt 30 :: .aload 0 :: .getfield 321 :: .sipush 400 :: .if_icmp .ge 30 :: .aload 0 :: .getfield 320 :: .aload 0 :: .getfield 321 :: .lload 2 :: .sipush 8 :: .iload 4 :: .imul :: .lushr :: .l2i :: .i2b :: .bastore :: .aload 0 :: .dup :: .getfield 321 :: .sipush 1 :: .iadd :: .putfield 321 :: .iinc 4 (-1) :: .goto 4 :: bk_SC_append_30
def bk_SC_append_0 : List Instr := .iload 1 :: .sipush 1 :: .isub :: .istore 4 :: bk_SC_append_4
def bk_SC_hasMore_8 : List Instr := .areturn :: []
def bk_SC_hasMore_7 : List Instr := .sipush 0 :: bk_SC_hasMore_8
def bk_SC_hasMore_0 : List Instr := .aload 0 :: .getfield 322 :: .aload 0 :: .getfield 321 :: .if_icmp .ge 7 :: .sipush 1 :: .goto 8 :: bk_SC_hasMore_7
def bk_SC_peek_18 : List Instr := .ireturn :: []
def bk_SC_peek_17 : List Instr := .sipush (-1) :: bk_SC_peek_18
def bk_SC_peek_0 : List Instr := .aload 0 :: .getfield 322 :: .aload 0 :: .getfield 321 :: .if_icmp .ge 17 :: .aload 0 :: .getfield 322 :: .sipush 400 :: .if_icmp .ge 17 :: .aload 0 :: .getfield 320 :: .aload 0 :: .getfield 322 :: .baload :: .sipush 255 :: .iand :: .goto 18 :: bk_SC_peek_17
def bk_SC_takeByte_0 : List Instr := .aload 0 :: .invokeinterface 39 1 :: .istore 1 :: .aload 0 :: .dup :: .getfield 322 :: .sipush 1 :: .iadd :: .putfield 322 :: .iload 1 :: .ireturn :: []
def bk_SC_take_6 : List Instr := .aload 0 :: .dup :: .getfield 322 :: .sipush 1 :: .iadd :: .putfield 322 :: .sipush 1 :: .areturn :: []
def bk_SC_take_0 : List Instr := .aload 0 :: .invokeinterface 39 1 :: .iload 1 :: .if_icmp .eq 6 :: .sipush 0 :: .areturn :: bk_SC_take_6
def bk_SC_takeNumber_65 : List Instr := .putfield 323 :: .sipush 1 :: .areturn :: []
def bk_SC_takeNumber_63 : List Instr := .aload 0 :: .getfield 323 :: bk_SC_takeNumber_65
def bk_SC_takeNumber_56 : List Instr := .aload 0 :: .iload 2 :: .ifCond .eq 63 :: .aload 0 :: .getfield 323 :: .ineg :: .goto 65 :: bk_SC_takeNumber_63
def bk_SC_takeNumber_54 : List Instr := .sipush 0 :: .areturn :: bk_SC_takeNumber_56
def bk_SC_takeNumber_47 : List Instr := .iload 3 :: .ifCond .eq 54 :: .iload 2 :: .ifCond .eq 56 :: .aload 0 :: .getfield 323 :: .ifCond .ne 56 :: bk_SC_takeNumber_54
def bk_SC_takeNumber_18 : List Instr := .iload 3 :: .sipush 3 :: .if_icmp .ge 47 :: .iload 4 :: .sipush 48 :: .sipush 57 :: .invokeinterface 107 3 :: .ifCond .eq 47 :: .aload 0 :: .sipush 10 :: .aload 0 :: .getfield 323 :: .imul :: .iload 4 :: .iadd :: .sipush 48 :: .isub :: .putfield 323 :: .aload 0 :: .dup :: .getfield 322 :: .sipush 1 :: .iadd :: .putfield 322 :: .iinc 3 1 :: .aload 0 :: .invokeinterface 39 1 :: .istore 4 :: .goto 18 :: bk_SC_takeNumber_47
def bk_SC_takeNumber_9 : List Instr := .istore 2 :: .sipush 0 :: .istore 3 :: .aload 0 :: .sipush 0 :: .putfield 323 :: .aload 0 :: .invokeinterface 39 1 :: .istore 4 :: bk_SC_takeNumber_18
def bk_SC_takeNumber_8 : List Instr := .sipush 0 :: bk_SC_takeNumber_9
def bk_SC_takeNumber_0 : List Instr := .iload 1 :: .ifCond .eq 8 :: .aload 0 :: .sipush 45 :: .invokeinterface 41 2 :: .ifCond .eq 8 :: .sipush 1 :: .goto 9 :: bk_SC_takeNumber_8
def bk_SH_init_0 : List Instr := .aload 0 :: .pop :: .aload 0 :: .sipush 0 :: .putfield 384 :: .aload 0 :: .sipush 12 :: .newarray .int :: .putfield 385 :: .aload 0 :: .sipush 12 :: .newarray .int :: .putfield 386 :: .aload 0 :: .sipush 12 :: .newarray .int :: .putfield 387 :: .aload 0 :: .sipush 0 :: .putfield 388 :: .aload 0 :: .sipush 24 :: .newarray .int :: .putfield 389 :: .aload 0 :: .sipush 24 :: .newarray .int :: .putfield 390 :: .aload 0 :: .sipush 24 :: .newarray .int :: .putfield 391 :: .aload 0 :: .sipush 24 :: .newarray .int :: .putfield 392 :: .aload 0 :: .sipush 24 :: .newarray .boolean :: .putfield 393 :: .aload 0 :: .sipush 0 :: .putfield 394 :: .aload 0 :: .sipush 20 :: .newarray .int :: .putfield 395 :: .aload 0 :: .sipush 0 :: .putfield 396 :: .aload 0 :: .sipush 2 :: .newarray .int :: .putfield 397 :: .aload 0 :: .sipush 2 :: .newarray .int :: .putfield 398 :: .aload 0 :: .sipush 2 :: .newarray .int :: .putfield 399 :: .return_ :: []
def bk_SH_clear_0 : List Instr := .aload 0 :: .sipush 0 :: .putfield 384 :: .aload 0 :: .sipush 0 :: .putfield 388 :: .aload 0 :: .sipush 0 :: .putfield 394 :: .aload 0 :: .sipush 0 :: .putfield 396 :: .return_ :: []
def bk_SH_addKept_0 : List Instr := .aload 0 :: .getfield 397 :: .aload 0 :: .getfield 396 :: .aload 0 :: .getfield 384 :: .iastore :: .aload 0 :: .getfield 398 :: .aload 0 :: .getfield 396 :: .aload 0 :: .getfield 388 :: .iastore :: .aload 0 :: .getfield 399 :: .aload 0 :: .getfield 396 :: .aload 0 :: .getfield 394 :: .iastore :: .aload 0 :: .dup :: .getfield 396 :: .sipush 1 :: .iadd :: .putfield 396 :: .aload 0 :: .getfield 396 :: .ireturn :: []
def bk_SH_goBack_0 : List Instr := .aload 0 :: .dup :: .getfield 396 :: .sipush 1 :: .isub :: .putfield 396 :: .aload 0 :: .aload 0 :: .getfield 397 :: .aload 0 :: .getfield 396 :: .iaload :: .putfield 384 :: .aload 0 :: .aload 0 :: .getfield 398 :: .aload 0 :: .getfield 396 :: .iaload :: .putfield 388 :: .aload 0 :: .aload 0 :: .getfield 399 :: .aload 0 :: .getfield 396 :: .iaload :: .putfield 394 :: .aload 0 :: .getfield 396 :: .ireturn :: []
def bk_SH_addFind_0 : List Instr := .aload 0 :: .getfield 385 :: .aload 0 :: .getfield 384 :: .iload 1 :: .iastore :: .aload 0 :: .getfield 386 :: .aload 0 :: .getfield 384 :: .iload 2 :: .iastore :: .aload 0 :: .getfield 387 :: .aload 0 :: .getfield 384 :: .iload 3 :: .iastore :: .aload 0 :: .dup :: .getfield 384 :: .sipush 1 :: .iadd :: .putfield 384 :: .aload 0 :: .getfield 384 :: .ireturn :: []
def bk_SH_addReport_0 : List Instr := .aload 0 :: .getfield 389 :: .aload 0 :: .getfield 388 :: .iload 1 :: .iastore :: .aload 0 :: .getfield 390 :: .aload 0 :: .getfield 388 :: .iload 2 :: .iastore :: .aload 0 :: .getfield 391 :: .aload 0 :: .getfield 388 :: .iload 3 :: .iastore :: .aload 0 :: .getfield 392 :: .aload 0 :: .getfield 388 :: .iload 4 :: .iastore :: .aload 0 :: .getfield 393 :: .aload 0 :: .getfield 388 :: .iload 5 :: .bastore :: .aload 0 :: .dup :: .getfield 388 :: .sipush 1 :: .iadd :: .putfield 388 :: .aload 0 :: .getfield 388 :: .ireturn :: []
def bk_SH_sawBy_33 : List Instr := .sipush 0 :: .areturn :: []
def bk_SH_sawBy_31 : List Instr := .iinc 4 1 :: .goto 2 :: bk_SH_sawBy_33
def bk_SH_sawBy_2 : List Instr := .iload 4 :: .aload 0 :: .getfield 388 :: .if_icmp .ge 33 :: .aload 0 :: .getfield 393 :: .iload 4 :: .baload :: .ifCond .eq 31 :: .aload 0 :: .getfield 392 :: .iload 4 :: .iaload :: .iload 1 :: .if_icmp .ne 31 :: .aload 0 :: .getfield 389 :: .iload 4 :: .iaload :: .iload 2 :: .if_icmp .ne 31 :: .aload 0 :: .getfield 390 :: .iload 4 :: .iaload :: .iload 3 :: .if_icmp .gt 31 :: .sipush 1 :: .areturn :: bk_SH_sawBy_31
def bk_SH_sawBy_0 : List Instr := .sipush 0 :: .istore 4 :: bk_SH_sawBy_2
def bk_SH_sawNoneFrom_39 : List Instr := .sipush 0 :: .areturn :: []
def bk_SH_sawNoneFrom_37 : List Instr := .iinc 5 1 :: .goto 2 :: bk_SH_sawNoneFrom_39
def bk_SH_sawNoneFrom_2 : List Instr := .iload 5 :: .aload 0 :: .getfield 388 :: .if_icmp .ge 39 :: .aload 0 :: .getfield 393 :: .iload 5 :: .baload :: .ifCond .ne 37 :: .aload 0 :: .getfield 392 :: .iload 5 :: .iaload :: .iload 1 :: .if_icmp .ne 37 :: .aload 0 :: .getfield 389 :: .iload 5 :: .iaload :: .iload 2 :: .if_icmp .ne 37 :: .aload 0 :: .getfield 390 :: .iload 5 :: .iaload :: .iload 3 :: .if_icmp .lt 37 :: .aload 0 :: .getfield 391 :: .iload 5 :: .iaload :: .iload 4 :: .if_icmp .lt 37 :: .sipush 1 :: .areturn :: bk_SH_sawNoneFrom_37
def bk_SH_sawNoneFrom_0 : List Instr := .sipush 0 :: .istore 5 :: bk_SH_sawNoneFrom_2
def bk_SH_hasNumber_16 : List Instr := .sipush 0 :: .areturn :: []
def bk_SH_hasNumber_14 : List Instr := .iinc 2 1 :: .goto 2 :: bk_SH_hasNumber_16
def bk_SH_hasNumber_2 : List Instr := .iload 2 :: .aload 0 :: .getfield 394 :: .if_icmp .ge 16 :: .aload 0 :: .getfield 395 :: .iload 2 :: .iaload :: .iload 1 :: .if_icmp .ne 14 :: .sipush 1 :: .areturn :: bk_SH_hasNumber_14
def bk_SH_hasNumber_0 : List Instr := .sipush 0 :: .istore 2 :: bk_SH_hasNumber_2
def bk_SH_addNumber_0 : List Instr := .aload 0 :: .getfield 395 :: .aload 0 :: .getfield 394 :: .iload 1 :: .iastore :: .aload 0 :: .dup :: .getfield 394 :: .sipush 1 :: .iadd :: .putfield 394 :: .aload 0 :: .getfield 394 :: .ireturn :: []
def bk_SH_greatestNumber_17 : List Instr := .iload 1 :: .ireturn :: []
def bk_SH_greatestNumber_4 : List Instr := .iload 2 :: .aload 0 :: .getfield 394 :: .if_icmp .ge 17 :: .iload 1 :: .aload 0 :: .getfield 395 :: .iload 2 :: .iaload :: .fadd :: .istore 1 :: .iinc 2 1 :: .goto 4 :: bk_SH_greatestNumber_17
def bk_SH_greatestNumber_0 : List Instr := .sipush 0 :: .istore 1 :: .sipush 0 :: .istore 2 :: bk_SH_greatestNumber_4
def bk_SU_init_39 : List Instr := .return_ :: []
def bk_SU_init_22 : List Instr := .iload 1 :: .sipush 6 :: .if_icmp .ge 39 :: .aload 0 :: .getfield 449 :: .iload 1 :: .aaload :: .sipush 0 :: .sipush 255 :: .iastore :: .aload 0 :: .getfield 450 :: .iload 1 :: .sipush 1 :: .iastore :: .iinc 1 1 :: .goto 22 :: bk_SU_init_39
def bk_SU_init_0 : List Instr := .aload 0 :: .pop :: .aload 0 :: .sipush 6 :: .sipush 8 :: .multianewarray 4 2 :: .putfield 448 :: .aload 0 :: .sipush 6 :: .sipush 4 :: .multianewarray 4 2 :: .putfield 449 :: .aload 0 :: .sipush 6 :: .newarray .int :: .putfield 450 :: .aload 0 :: .sipush 256 :: .newarray .int :: .putfield 451 :: .sipush 0 :: .istore 1 :: bk_SU_init_22
def bk_SU_setShown_0 : List Instr := .aload 0 :: .getfield 448 :: .iload 1 :: .aaload :: .iload 2 :: .iaload :: .istore 4 :: .aload 0 :: .getfield 449 :: .iload 1 :: .aaload :: .iload 4 :: .dup2 :: .iaload :: .sipush 1 :: .iload 2 :: .ishl :: .sipush (-1) :: .ixor :: .iand :: .iastore :: .aload 0 :: .getfield 449 :: .iload 1 :: .aaload :: .iload 3 :: .dup2 :: .iaload :: .sipush 1 :: .iload 2 :: .ishl :: .ior :: .iastore :: .aload 0 :: .getfield 448 :: .iload 1 :: .aaload :: .iload 2 :: .iload 3 :: .iastore :: .iload 4 :: .ireturn :: []
def bk_SU_part_0 : List Instr := .iload 1 :: .aload 0 :: .getfield 449 :: .iload 2 :: .aaload :: .iload 3 :: .iaload :: .iand :: .ireturn :: []
def bk_SU_solve_29 : List Instr := .return_ :: []
def bk_SU_solve_27 : List Instr := .iinc 2 1 :: .goto 2 :: bk_SU_solve_29
def bk_SU_solve_26 : List Instr := .iastore :: bk_SU_solve_27
def bk_SU_solve_23 : List Instr := .aload 0 :: .iload 2 :: .invokeinterface 58 2 :: bk_SU_solve_26
def bk_SU_solve_2 : List Instr := .iload 2 :: .iload 1 :: .if_icmp .gt 29 :: .iload 2 :: .sipush 256 :: .if_icmp .ge 29 :: .iload 2 :: .iload 1 :: .sipush (-1) :: .ixor :: .iand :: .ifCond .ne 27 :: .aload 0 :: .getfield 451 :: .iload 2 :: .iload 2 :: .invokeinterface 185 1 :: .sipush 1 :: .if_icmp .ne 23 :: .sipush 0 :: .goto 26 :: bk_SU_solve_23
def bk_SU_solve_0 : List Instr := .sipush 1 :: .istore 2 :: bk_SU_solve_2
def bk_SU_leastCost_16 : List Instr := .iload 2 :: .ireturn :: []
def bk_SU_leastCost_4 : List Instr := .iload 3 :: .sipush 6 :: .if_icmp .ge 16 :: .iload 2 :: .aload 0 :: .iload 1 :: .iload 3 :: .invokeinterface 59 3 :: .fsub :: .istore 2 :: .iinc 3 1 :: .goto 4 :: bk_SU_leastCost_16
def bk_SU_leastCost_0 : List Instr := .sipush 1000000 :: .istore 2 :: .sipush 0 :: .istore 3 :: bk_SU_leastCost_4
def bk_SU_costThrough_40 : List Instr := .ireturn :: []
def bk_SU_costThrough_34 : List Instr := .iload 3 :: .aload 0 :: .getfield 450 :: .iload 2 :: .iaload :: .iadd :: bk_SU_costThrough_40
def bk_SU_costThrough_29 : List Instr := .iload 3 :: .sipush 1000000 :: .if_icmp .ne 34 :: .sipush 1000000 :: .goto 40 :: bk_SU_costThrough_34
def bk_SU_costThrough_27 : List Instr := .iinc 4 1 :: .goto 4 :: bk_SU_costThrough_29
def bk_SU_costThrough_18 : List Instr := .iload 5 :: .ifCond .eq 27 :: .iload 3 :: .aload 0 :: .getfield 451 :: .iload 5 :: .iaload :: .fadd :: .istore 3 :: bk_SU_costThrough_27
def bk_SU_costThrough_4 : List Instr := .iload 4 :: .sipush 4 :: .if_icmp .ge 29 :: .aload 0 :: .iload 1 :: .iload 2 :: .iload 4 :: .invokeinterface 56 4 :: .istore 5 :: .iload 5 :: .iload 1 :: .if_icmp .ne 18 :: .sipush 1000000 :: .ireturn :: bk_SU_costThrough_18
def bk_SU_costThrough_0 : List Instr := .sipush 0 :: .istore 3 :: .sipush 0 :: .istore 4 :: bk_SU_costThrough_4
def bk_SU_firstTest_18 : List Instr := .sipush (-4) :: .ireturn :: []
def bk_SU_firstTest_16 : List Instr := .iinc 2 1 :: .goto 2 :: bk_SU_firstTest_18
def bk_SU_firstTest_2 : List Instr := .iload 2 :: .sipush 6 :: .if_icmp .ge 18 :: .aload 0 :: .iload 1 :: .iload 2 :: .invokeinterface 59 3 :: .aload 0 :: .getfield 451 :: .iload 1 :: .iaload :: .if_icmp .ne 16 :: .iload 2 :: .ireturn :: bk_SU_firstTest_16
def bk_SU_firstTest_0 : List Instr := .sipush 0 :: .istore 2 :: bk_SU_firstTest_2
def bk_WE_init_0 : List Instr := .aload 0 :: .pop :: .aload 0 :: .sipush 0 :: .putfield 512 :: .aload 0 :: .sipush 12 :: .newarray .int :: .putfield 513 :: .aload 0 :: .sipush 12 :: .newarray .int :: .putfield 514 :: .aload 0 :: .sipush 0 :: .putfield 515 :: .aload 0 :: .sipush 0 :: .putfield 516 :: .aload 0 :: .sipush 12 :: .newarray .int :: .putfield 517 :: .aload 0 :: .sipush 12 :: .newarray .int :: .putfield 518 :: .aload 0 :: .sipush 12 :: .newarray .int :: .putfield 519 :: .return_ :: []
def bk_WE_clear_0 : List Instr := .aload 0 :: .sipush 0 :: .putfield 512 :: .aload 0 :: .sipush 0 :: .putfield 515 :: .aload 0 :: .sipush 0 :: .putfield 516 :: .return_ :: []
def bk_WE_addTide_0 : List Instr := .aload 0 :: .getfield 513 :: .aload 0 :: .getfield 512 :: .iload 1 :: .iastore :: .aload 0 :: .getfield 514 :: .aload 0 :: .getfield 512 :: .iload 2 :: .iastore :: .aload 0 :: .dup :: .getfield 512 :: .sipush 1 :: .iadd :: .putfield 512 :: .return_ :: []
def bk_WE_addWind_33 : List Instr := .aload 0 :: .getfield 517 :: .iload 4 :: .iload 1 :: .iastore :: .aload 0 :: .getfield 518 :: .iload 4 :: .iload 2 :: .iastore :: .aload 0 :: .getfield 519 :: .iload 4 :: .iload 3 :: .iastore :: .return_ :: []
def bk_WE_addWind_30 : List Instr := .aload 0 :: .iload 4 :: .invokeinterface 65 2 :: bk_WE_addWind_33
def bk_WE_addWind_20 : List Instr := .iload 4 :: .aload 0 :: .getfield 516 :: .if_icmp .ge 30 :: .aload 0 :: .getfield 517 :: .iload 4 :: .iaload :: .iload 1 :: .if_icmp .eq 33 :: bk_WE_addWind_30
def bk_WE_addWind_8 : List Instr := .iload 4 :: .aload 0 :: .getfield 516 :: .if_icmp .ge 20 :: .aload 0 :: .getfield 517 :: .iload 4 :: .iaload :: .iload 1 :: .if_icmp .ge 20 :: .iinc 4 1 :: .goto 8 :: bk_WE_addWind_20
def bk_WE_addWind_0 : List Instr := .aload 0 :: .dup :: .getfield 515 :: .sipush 1 :: .iadd :: .putfield 515 :: .sipush 0 :: .istore 4 :: bk_WE_addWind_8
def bk_WE_makeRoom_38 : List Instr := .aload 0 :: .dup :: .getfield 516 :: .sipush 1 :: .iadd :: .putfield 516 :: .return_ :: []
def bk_WE_makeRoom_3 : List Instr := .iload 2 :: .iload 1 :: .if_icmp .le 38 :: .aload 0 :: .getfield 517 :: .iload 2 :: .aload 0 :: .getfield 517 :: .iload 2 :: .sipush 1 :: .isub :: .iaload :: .iastore :: .aload 0 :: .getfield 518 :: .iload 2 :: .aload 0 :: .getfield 518 :: .iload 2 :: .sipush 1 :: .isub :: .iaload :: .iastore :: .aload 0 :: .getfield 519 :: .iload 2 :: .aload 0 :: .getfield 519 :: .iload 2 :: .sipush 1 :: .isub :: .iaload :: .iastore :: .iinc 2 (-1) :: .goto 3 :: bk_WE_makeRoom_38
def bk_WE_makeRoom_0 : List Instr := .aload 0 :: .getfield 516 :: .istore 2 :: bk_WE_makeRoom_3
def bk_GB_init_0 : List Instr := .aload 0 :: .pop :: .aload 0 :: .new 5 :: .dup :: .invokeinterface 36 1 :: .putfield 576 :: .aload 0 :: .new 1 :: .dup :: .invokeinterface 11 1 :: .putfield 577 :: .aload 0 :: .new 6 :: .dup :: .invokeinterface 43 1 :: .putfield 578 :: .aload 0 :: .new 3 :: .dup :: .invokeinterface 23 1 :: .putfield 579 :: .aload 0 :: .new 4 :: .dup :: .invokeinterface 27 1 :: .putfield 580 :: .aload 0 :: .new 7 :: .dup :: .invokeinterface 54 1 :: .putfield 581 :: .aload 0 :: .new 0 :: .dup :: .invokeinterface 1 1 :: .putfield 582 :: .aload 0 :: .new 0 :: .dup :: .invokeinterface 1 1 :: .putfield 583 :: .aload 0 :: .new 2 :: .dup :: .invokeinterface 16 1 :: .putfield 584 :: .aload 0 :: .new 2 :: .dup :: .invokeinterface 16 1 :: .putfield 585 :: .return_ :: []
def bk_GB_write_16 : List Instr := .aload 0 :: .getfield 576 :: .iload 1 :: .lload 2 :: .invokeinterface 37 3 :: .aload 0 :: .getfield 576 :: .getfield 321 :: .ireturn :: []
def bk_GB_write_7 : List Instr := .aload 0 :: .getfield 576 :: .getfield 321 :: .iload 1 :: .iadd :: .sipush 400 :: .if_icmp .le 16 :: .sipush (-3) :: .ireturn :: bk_GB_write_16
def bk_GB_write_0 : List Instr := .iload 1 :: .sipush 1 :: .sipush 8 :: .invokeinterface 107 3 :: .ifCond .ne 7 :: .sipush (-1) :: .ireturn :: bk_GB_write_7
def bk_GB_wipe_0 : List Instr := .aload 0 :: .getfield 576 :: .getfield 321 :: .istore 1 :: .aload 0 :: .getfield 576 :: .sipush 0 :: .putfield 321 :: .iload 1 :: .ireturn :: []
def bk_GB_fault_13 : List Instr := .ireturn :: []
def bk_GB_fault_8 : List Instr := .aload 0 :: .getfield 583 :: .aload 0 :: .getfield 576 :: .invokeinterface 3 2 :: bk_GB_fault_13
def bk_GB_fault_0 : List Instr := .iload 1 :: .ifCond .eq 8 :: .aload 0 :: .getfield 585 :: .aload 0 :: .getfield 576 :: .invokeinterface 17 2 :: .goto 13 :: bk_GB_fault_8
def bk_GB_lay_7 : List Instr := .ireturn :: []
def bk_GB_lay_5 : List Instr := .aload 0 :: .invokeinterface 72 1 :: bk_GB_lay_7
def bk_GB_lay_0 : List Instr := .iload 1 :: .ifCond .eq 5 :: .aload 0 :: .invokeinterface 71 1 :: .goto 7 :: bk_GB_lay_5
def bk_GB_layLaw_9 : List Instr := .aload 0 :: .getfield 584 :: .astore 1 :: .aload 0 :: .aload 0 :: .getfield 585 :: .putfield 584 :: .aload 0 :: .aload 1 :: .putfield 585 :: .aload 0 :: .getfield 584 :: .getfield 128 :: .ireturn :: []
def bk_GB_layLaw_0 : List Instr := .aload 0 :: .getfield 585 :: .aload 0 :: .getfield 576 :: .invokeinterface 17 2 :: .sipush (-4) :: .if_icmp .eq 9 :: .sipush (-2) :: .ireturn :: bk_GB_layLaw_9
def bk_GB_layBeach_9 : List Instr := .aload 0 :: .getfield 582 :: .astore 1 :: .aload 0 :: .aload 0 :: .getfield 583 :: .putfield 582 :: .aload 0 :: .aload 1 :: .putfield 583 :: .aload 0 :: .getfield 577 :: .invokeinterface 12 1 :: .aload 0 :: .getfield 578 :: .invokeinterface 44 1 :: .aload 0 :: .getfield 582 :: .getfield 1 :: .ireturn :: []
def bk_GB_layBeach_0 : List Instr := .aload 0 :: .getfield 583 :: .aload 0 :: .getfield 576 :: .invokeinterface 3 2 :: .sipush (-4) :: .if_icmp .eq 9 :: .sipush (-2) :: .ireturn :: bk_GB_layBeach_9
def bk_GB_drift_56 : List Instr := .ireturn :: []
def bk_GB_drift_53 : List Instr := .aload 0 :: .getfield 577 :: .getfield 65 :: bk_GB_drift_56
def bk_GB_drift_47 : List Instr := .iload 5 :: .ifCond .ne 53 :: .aload 0 :: .getfield 577 :: .getfield 64 :: .goto 56 :: bk_GB_drift_53
def bk_GB_drift_31 : List Instr := .aload 0 :: .getfield 577 :: .aload 0 :: .getfield 582 :: .iload 1 :: .iload 2 :: .iload 3 :: .iload 4 :: .invokeinterface 13 6 :: .aload 0 :: .getfield 577 :: .getfield 64 :: .sipush (-1) :: .if_icmp .ne 47 :: .sipush (-4) :: .ireturn :: bk_GB_drift_47
def bk_GB_drift_29 : List Instr := .sipush (-1) :: .ireturn :: bk_GB_drift_31
def bk_GB_drift_0 : List Instr := .iload 1 :: .sipush 0 :: .sipush 10 :: .aload 0 :: .getfield 582 :: .getfield 1 :: .imul :: .sipush 1 :: .isub :: .invokeinterface 107 3 :: .ifCond .eq 29 :: .iload 2 :: .sipush 1 :: .sipush 99 :: .invokeinterface 107 3 :: .ifCond .eq 29 :: .iload 3 :: .invokeinterface 108 1 :: .ifCond .eq 29 :: .iload 4 :: .sipush 0 :: .sipush 10 :: .invokeinterface 107 3 :: .ifCond .eq 29 :: .iload 5 :: .sipush 0 :: .sipush 1 :: .invokeinterface 107 3 :: .ifCond .ne 31 :: bk_GB_drift_29
def bk_GB_worlds_43 : List Instr := .ireturn :: []
def bk_GB_worlds_42 : List Instr := .iload 4 :: bk_GB_worlds_43
def bk_GB_worlds_26 : List Instr := .aload 0 :: .getfield 577 :: .iload 1 :: .iload 3 :: .sipush (-1) :: .sipush (-1) :: .sipush 999 :: .invokeinterface 15 6 :: .istore 4 :: .iload 2 :: .sipush 1 :: .if_icmp .ne 42 :: .iload 3 :: .iload 4 :: .isub :: .goto 43 :: bk_GB_worlds_42
def bk_GB_worlds_11 : List Instr := .aload 0 :: .getfield 577 :: .aload 0 :: .getfield 582 :: .iload 1 :: .invokeinterface 14 3 :: .aload 0 :: .getfield 582 :: .iload 1 :: .invokeinterface 2 2 :: .istore 3 :: .iload 2 :: .ifCond .ne 26 :: .iload 3 :: .ireturn :: bk_GB_worlds_26
def bk_GB_worlds_9 : List Instr := .sipush (-1) :: .ireturn :: bk_GB_worlds_11
def bk_GB_worlds_0 : List Instr := .aload 0 :: .iload 1 :: .invokeinterface 115 2 :: .ifCond .eq 9 :: .iload 2 :: .sipush 0 :: .sipush 2 :: .invokeinterface 107 3 :: .ifCond .ne 11 :: bk_GB_worlds_9
def bk_GB_ashore_19 : List Instr := .aload 0 :: .getfield 577 :: .aload 0 :: .getfield 582 :: .iload 1 :: .invokeinterface 14 3 :: .aload 0 :: .getfield 577 :: .iload 1 :: .aload 0 :: .getfield 582 :: .iload 1 :: .invokeinterface 2 2 :: .iload 2 :: .iload 3 :: .iload 4 :: .invokeinterface 15 6 :: .ireturn :: []
def bk_GB_ashore_17 : List Instr := .sipush (-1) :: .ireturn :: bk_GB_ashore_19
def bk_GB_ashore_0 : List Instr := .aload 0 :: .iload 1 :: .invokeinterface 115 2 :: .ifCond .eq 17 :: .aload 0 :: .iload 2 :: .invokeinterface 113 2 :: .ifCond .eq 17 :: .iload 3 :: .invokeinterface 108 1 :: .ifCond .eq 17 :: .iload 4 :: .invokeinterface 108 1 :: .ifCond .eq 17 :: .iload 3 :: .iload 4 :: .if_icmp .le 19 :: bk_GB_ashore_17
def bk_GB_find_20 : List Instr := .aload 0 :: .getfield 578 :: .iload 1 :: .iload 2 :: .iload 3 :: .invokeinterface 47 4 :: .ireturn :: []
def bk_GB_find_13 : List Instr := .aload 0 :: .getfield 578 :: .getfield 384 :: .sipush 12 :: .if_icmp .lt 20 :: .sipush (-3) :: .ireturn :: bk_GB_find_20
def bk_GB_find_11 : List Instr := .sipush (-1) :: .ireturn :: bk_GB_find_13
def bk_GB_find_0 : List Instr := .aload 0 :: .iload 1 :: .invokeinterface 114 2 :: .ifCond .eq 11 :: .aload 0 :: .iload 2 :: .invokeinterface 113 2 :: .ifCond .eq 11 :: .iload 3 :: .invokeinterface 108 1 :: .ifCond .ne 13 :: bk_GB_find_11
def bk_GB_from_14 : List Instr := .ireturn :: []
def bk_GB_from_13 : List Instr := .sipush (-1) :: bk_GB_from_14
def bk_GB_from_0 : List Instr := .iload 1 :: .sipush 0 :: .aload 0 :: .getfield 578 :: .getfield 384 :: .sipush 1 :: .isub :: .invokeinterface 107 3 :: .ifCond .eq 13 :: .aload 0 :: .iload 1 :: .invokeinterface 78 2 :: .goto 14 :: bk_GB_from_13
def bk_GB_lossesBehind_54 : List Instr := .iload 2 :: .ireturn :: []
def bk_GB_lossesBehind_52 : List Instr := .iinc 3 1 :: .goto 4 :: bk_GB_lossesBehind_54
def bk_GB_lossesBehind_4 : List Instr := .iload 3 :: .aload 0 :: .getfield 582 :: .getfield 8 :: .if_icmp .ge 54 :: .aload 0 :: .getfield 582 :: .getfield 9 :: .iload 3 :: .iaload :: .aload 0 :: .getfield 578 :: .getfield 385 :: .iload 1 :: .iaload :: .if_icmp .ne 52 :: .aload 0 :: .getfield 577 :: .aload 0 :: .getfield 582 :: .iload 3 :: .invokeinterface 14 3 :: .aload 0 :: .getfield 577 :: .iload 3 :: .aload 0 :: .getfield 582 :: .iload 3 :: .invokeinterface 2 2 :: .aload 0 :: .getfield 578 :: .getfield 386 :: .iload 1 :: .iaload :: .sipush 0 :: .aload 0 :: .getfield 578 :: .getfield 387 :: .iload 1 :: .iaload :: .invokeinterface 15 6 :: .ifCond .le 52 :: .iload 2 :: .sipush 1 :: .iload 3 :: .ishl :: .ior :: .istore 2 :: bk_GB_lossesBehind_52
def bk_GB_lossesBehind_0 : List Instr := .sipush 0 :: .istore 2 :: .sipush 0 :: .istore 3 :: bk_GB_lossesBehind_4
def bk_GB_parted_52 : List Instr := .ireturn :: []
def bk_GB_parted_48 : List Instr := .aload 0 :: .getfield 579 :: .iload 1 :: .invokeinterface 26 2 :: bk_GB_parted_52
def bk_GB_parted_44 : List Instr := .iload 1 :: .ifCond .ge 48 :: .sipush 1 :: .goto 52 :: bk_GB_parted_48
def bk_GB_parted_35 : List Instr := .aload 0 :: .getfield 579 :: .aload 0 :: .getfield 578 :: .getfield 384 :: .invokeinterface 24 2 :: .ifCond .ne 44 :: .sipush (-4) :: .ireturn :: bk_GB_parted_44
def bk_GB_parted_20 : List Instr := .iload 2 :: .aload 0 :: .getfield 578 :: .getfield 384 :: .if_icmp .ge 35 :: .aload 0 :: .getfield 579 :: .getfield 192 :: .iload 2 :: .aload 0 :: .iload 2 :: .invokeinterface 78 2 :: .iastore :: .iinc 2 1 :: .goto 20 :: bk_GB_parted_35
def bk_GB_parted_18 : List Instr := .sipush 0 :: .istore 2 :: bk_GB_parted_20
def bk_GB_parted_11 : List Instr := .aload 0 :: .getfield 578 :: .getfield 384 :: .sipush 8 :: .if_icmp .le 18 :: .sipush (-4) :: .ireturn :: bk_GB_parted_18
def bk_GB_parted_0 : List Instr := .iload 1 :: .sipush (-1) :: .aload 0 :: .getfield 578 :: .getfield 384 :: .sipush 1 :: .isub :: .invokeinterface 107 3 :: .ifCond .ne 11 :: .sipush (-1) :: .ireturn :: bk_GB_parted_11
def bk_GB_report_23 : List Instr := .aload 0 :: .getfield 578 :: .iload 1 :: .iload 2 :: .iload 3 :: .iload 4 :: .iload 5 :: .invokeinterface 48 6 :: .ireturn :: []
def bk_GB_report_16 : List Instr := .aload 0 :: .getfield 578 :: .getfield 388 :: .sipush 24 :: .if_icmp .lt 23 :: .sipush (-3) :: .ireturn :: bk_GB_report_23
def bk_GB_report_14 : List Instr := .sipush (-1) :: .ireturn :: bk_GB_report_16
def bk_GB_report_0 : List Instr := .aload 0 :: .iload 1 :: .invokeinterface 113 2 :: .ifCond .eq 14 :: .iload 2 :: .invokeinterface 108 1 :: .ifCond .eq 14 :: .iload 3 :: .invokeinterface 109 1 :: .ifCond .eq 14 :: .aload 0 :: .iload 4 :: .invokeinterface 114 2 :: .ifCond .ne 16 :: bk_GB_report_14
def bk_GB_there_37 : List Instr := .ireturn :: []
def bk_GB_there_36 : List Instr := .sipush 0 :: bk_GB_there_37
def bk_GB_there_22 : List Instr := .aload 0 :: .getfield 578 :: .iload 1 :: .iload 2 :: .iload 3 :: .aload 0 :: .getfield 582 :: .getfield 6 :: .iload 1 :: .iaload :: .invokeinterface 50 5 :: .ifCond .eq 36 :: .sipush 2 :: .goto 37 :: bk_GB_there_36
def bk_GB_there_13 : List Instr := .aload 0 :: .getfield 578 :: .iload 1 :: .iload 2 :: .iload 3 :: .invokeinterface 49 4 :: .ifCond .eq 22 :: .sipush 1 :: .ireturn :: bk_GB_there_22
def bk_GB_there_11 : List Instr := .sipush (-1) :: .ireturn :: bk_GB_there_13
def bk_GB_there_0 : List Instr := .aload 0 :: .iload 1 :: .invokeinterface 114 2 :: .ifCond .eq 11 :: .aload 0 :: .iload 2 :: .invokeinterface 113 2 :: .ifCond .eq 11 :: .iload 3 :: .invokeinterface 108 1 :: .ifCond .ne 13 :: bk_GB_there_11
def bk_GB_missed_74 : List Instr := .iload 2 :: .ireturn :: []
def bk_GB_missed_72 : List Instr := .iinc 3 1 :: .goto 11 :: bk_GB_missed_74
def bk_GB_missed_50 : List Instr := .if_icmp .ne 72 :: .aload 0 :: .getfield 578 :: .iload 4 :: .aload 0 :: .getfield 578 :: .getfield 389 :: .iload 3 :: .iaload :: .aload 0 :: .getfield 578 :: .getfield 390 :: .iload 3 :: .iaload :: .invokeinterface 49 4 :: .ifCond .eq 72 :: .iload 2 :: .sipush 1 :: .iload 3 :: .ishl :: .ior :: .istore 2 :: bk_GB_missed_72
def bk_GB_missed_49 : List Instr := .sipush 0 :: bk_GB_missed_50
def bk_GB_missed_36 : List Instr := .istore 5 :: .aload 0 :: .getfield 578 :: .getfield 393 :: .iload 3 :: .baload :: .ifCond .ne 72 :: .iload 5 :: .iload 1 :: .sipush 1 :: .if_icmp .ne 49 :: .sipush 1 :: .goto 50 :: bk_GB_missed_49
def bk_GB_missed_35 : List Instr := .sipush 0 :: bk_GB_missed_36
def bk_GB_missed_11 : List Instr := .iload 3 :: .aload 0 :: .getfield 578 :: .getfield 388 :: .if_icmp .ge 74 :: .aload 0 :: .getfield 578 :: .getfield 392 :: .iload 3 :: .iaload :: .istore 4 :: .aload 0 :: .getfield 578 :: .getfield 391 :: .iload 3 :: .iaload :: .aload 0 :: .getfield 582 :: .getfield 6 :: .iload 4 :: .iaload :: .if_icmp .lt 35 :: .sipush 1 :: .goto 36 :: bk_GB_missed_35
def bk_GB_missed_7 : List Instr := .sipush 0 :: .istore 2 :: .sipush 0 :: .istore 3 :: bk_GB_missed_11
def bk_GB_missed_0 : List Instr := .iload 1 :: .sipush 0 :: .sipush 1 :: .invokeinterface 107 3 :: .ifCond .ne 7 :: .sipush (-1) :: .ireturn :: bk_GB_missed_7
def bk_GB_left_6 : List Instr := .aload 0 :: .getfield 580 :: .aload 0 :: .getfield 582 :: .aload 0 :: .getfield 578 :: .invokeinterface 28 3 :: .aload 0 :: .getfield 577 :: .aload 0 :: .getfield 582 :: .iload 1 :: .invokeinterface 14 3 :: .aload 0 :: .getfield 580 :: .aload 0 :: .getfield 582 :: .aload 0 :: .getfield 577 :: .iload 1 :: .sipush 999 :: .invokeinterface 29 5 :: .aload 0 :: .getfield 580 :: .getfield 257 :: .iload 1 :: .iaload :: .ireturn :: []
def bk_GB_left_0 : List Instr := .aload 0 :: .iload 1 :: .invokeinterface 115 2 :: .ifCond .ne 6 :: .sipush (-1) :: .ireturn :: bk_GB_left_6
def bk_GB_hope_19 : List Instr := .aload 0 :: .iload 3 :: .invokeinterface 87 2 :: .aload 0 :: .getfield 580 :: .aload 0 :: .getfield 582 :: .iload 1 :: .iload 2 :: .iload 4 :: .invokeinterface 30 5 :: .lreturn :: []
def bk_GB_hope_17 : List Instr := .bipush (-1) :: .lreturn :: bk_GB_hope_19
def bk_GB_hope_0 : List Instr := .aload 0 :: .iload 1 :: .invokeinterface 113 2 :: .ifCond .eq 17 :: .aload 0 :: .iload 2 :: .invokeinterface 113 2 :: .ifCond .eq 17 :: .iload 1 :: .iload 2 :: .if_icmp .gt 17 :: .iload 3 :: .invokeinterface 108 1 :: .ifCond .eq 17 :: .iload 4 :: .invokeinterface 109 1 :: .ifCond .ne 19 :: bk_GB_hope_17
def bk_GB_walk_49 : List Instr := .lreturn :: []
def bk_GB_walk_44 : List Instr := .aload 0 :: .getfield 580 :: .getfield 259 :: .iload 5 :: .laload :: bk_GB_walk_49
def bk_GB_walk_20 : List Instr := .aload 0 :: .iload 2 :: .invokeinterface 87 2 :: .aload 0 :: .getfield 580 :: .aload 0 :: .getfield 582 :: .iload 1 :: .iload 3 :: .invokeinterface 31 4 :: .aload 0 :: .getfield 580 :: .aload 0 :: .getfield 582 :: .getfield 1 :: .iload 1 :: .isub :: .invokeinterface 32 2 :: .istore 5 :: .iload 4 :: .ifCond .ne 44 :: .iload 5 :: .i2l :: .goto 49 :: bk_GB_walk_44
def bk_GB_walk_18 : List Instr := .bipush (-1) :: .lreturn :: bk_GB_walk_20
def bk_GB_walk_0 : List Instr := .iload 1 :: .sipush 1 :: .aload 0 :: .getfield 582 :: .getfield 1 :: .invokeinterface 107 3 :: .ifCond .eq 18 :: .iload 2 :: .invokeinterface 108 1 :: .ifCond .eq 18 :: .iload 3 :: .invokeinterface 109 1 :: .ifCond .eq 18 :: .iload 4 :: .sipush 0 :: .sipush 1 :: .invokeinterface 107 3 :: .ifCond .ne 20 :: bk_GB_walk_18
def bk_GB_walks_73 : List Instr := .lreturn :: []
def bk_GB_walks_63 : List Instr := .aload 0 :: .getfield 580 :: .aload 0 :: .getfield 582 :: .getfield 1 :: .iload 1 :: .iload 2 :: .iload 5 :: .invokeinterface 35 5 :: .i2l :: bk_GB_walks_73
def bk_GB_walks_35 : List Instr := .aload 0 :: .iload 3 :: .invokeinterface 87 2 :: .aload 0 :: .getfield 580 :: .aload 0 :: .getfield 582 :: .iload 1 :: .iload 4 :: .invokeinterface 31 4 :: .aload 0 :: .getfield 580 :: .aload 0 :: .getfield 582 :: .getfield 1 :: .iload 1 :: .iload 2 :: .invokeinterface 33 4 :: .iload 5 :: .ifCond .ge 63 :: .aload 0 :: .getfield 580 :: .getfield 260 :: .iload 2 :: .aaload :: .sipush 0 :: .laload :: .goto 73 :: bk_GB_walks_63
def bk_GB_walks_33 : List Instr := .bipush (-4) :: .lreturn :: bk_GB_walks_35
def bk_GB_walks_23 : List Instr := .iload 5 :: .iload 2 :: .if_icmp .ge 33 :: .iload 1 :: .iload 2 :: .imul :: .aload 0 :: .getfield 582 :: .getfield 1 :: .if_icmp .le 35 :: bk_GB_walks_33
def bk_GB_walks_21 : List Instr := .bipush (-1) :: .lreturn :: bk_GB_walks_23
def bk_GB_walks_0 : List Instr := .iload 1 :: .sipush 1 :: .aload 0 :: .getfield 582 :: .getfield 1 :: .invokeinterface 107 3 :: .ifCond .eq 21 :: .iload 2 :: .sipush 1 :: .sipush 3 :: .invokeinterface 107 3 :: .ifCond .eq 21 :: .iload 3 :: .invokeinterface 108 1 :: .ifCond .eq 21 :: .iload 4 :: .invokeinterface 109 1 :: .ifCond .eq 21 :: .iload 5 :: .sipush (-1) :: .if_icmp .ge 23 :: bk_GB_walks_21
def bk_GB_weighLosses_31 : List Instr := .return_ :: []
def bk_GB_weighLosses_9 : List Instr := .iload 2 :: .aload 0 :: .getfield 582 :: .getfield 8 :: .if_icmp .ge 31 :: .aload 0 :: .getfield 577 :: .aload 0 :: .getfield 582 :: .iload 2 :: .invokeinterface 14 3 :: .aload 0 :: .getfield 580 :: .aload 0 :: .getfield 582 :: .aload 0 :: .getfield 577 :: .iload 2 :: .iload 1 :: .invokeinterface 29 5 :: .iinc 2 1 :: .goto 9 :: bk_GB_weighLosses_31
def bk_GB_weighLosses_0 : List Instr := .aload 0 :: .getfield 580 :: .aload 0 :: .getfield 582 :: .aload 0 :: .getfield 578 :: .invokeinterface 28 3 :: .sipush 0 :: .istore 2 :: bk_GB_weighLosses_9
def bk_GB_number_21 : List Instr := .aload 0 :: .getfield 578 :: .iload 1 :: .invokeinterface 52 2 :: .ireturn :: []
def bk_GB_number_14 : List Instr := .aload 0 :: .getfield 578 :: .getfield 394 :: .sipush 20 :: .if_icmp .lt 21 :: .sipush (-3) :: .ireturn :: bk_GB_number_21
def bk_GB_number_7 : List Instr := .aload 0 :: .getfield 578 :: .iload 1 :: .invokeinterface 51 2 :: .ifCond .eq 14 :: .sipush (-2) :: .ireturn :: bk_GB_number_14
def bk_GB_number_0 : List Instr := .iload 1 :: .sipush 1 :: .sipush 9999 :: .invokeinterface 107 3 :: .ifCond .ne 7 :: .sipush (-1) :: .ireturn :: bk_GB_number_7
def bk_GB_fell_44 : List Instr := .ireturn :: []
def bk_GB_fell_40 : List Instr := .iload 2 :: .iload 4 :: .iload 2 :: .invokeinterface 93 3 :: bk_GB_fell_44
def bk_GB_fell_24 : List Instr := .iload 3 :: .iload 2 :: .imul :: .iload 3 :: .iadd :: .iload 2 :: .isub :: .istore 4 :: .iload 1 :: .sipush 1 :: .if_icmp .ne 40 :: .iload 4 :: .iload 4 :: .iload 2 :: .invokeinterface 93 3 :: .goto 44 :: bk_GB_fell_40
def bk_GB_fell_16 : List Instr := .aload 0 :: .getfield 578 :: .invokeinterface 53 1 :: .istore 3 :: .iload 1 :: .ifCond .ne 24 :: .iload 3 :: .ireturn :: bk_GB_fell_24
def bk_GB_fell_7 : List Instr := .aload 0 :: .getfield 578 :: .getfield 394 :: .istore 2 :: .iload 2 :: .sipush 1 :: .if_icmp .ge 16 :: .sipush (-2) :: .ireturn :: bk_GB_fell_16
def bk_GB_fell_0 : List Instr := .iload 1 :: .sipush 0 :: .sipush 2 :: .invokeinterface 107 3 :: .ifCond .ne 7 :: .sipush (-1) :: .ireturn :: bk_GB_fell_7
def bk_GB_most_22 : List Instr := .aload 0 :: .getfield 578 :: .invokeinterface 53 1 :: .aload 0 :: .getfield 578 :: .getfield 394 :: .bipush 1000000000 :: .iload 1 :: .i2l :: .lmul :: .iload 2 :: .i2l :: .ldiv :: .invokeinterface 91 3 :: .ireturn :: []
def bk_GB_most_15 : List Instr := .aload 0 :: .getfield 578 :: .getfield 394 :: .sipush 1 :: .if_icmp .ge 22 :: .sipush (-2) :: .ireturn :: bk_GB_most_22
def bk_GB_most_13 : List Instr := .sipush (-1) :: .ireturn :: bk_GB_most_15
def bk_GB_most_0 : List Instr := .iload 1 :: .sipush 1 :: .sipush 1000 :: .invokeinterface 107 3 :: .ifCond .eq 13 :: .iload 2 :: .sipush 1 :: .sipush 1000 :: .invokeinterface 107 3 :: .ifCond .eq 13 :: .iload 1 :: .iload 2 :: .if_icmp .le 15 :: bk_GB_most_13
def bk_GB_greatestLikely_36 : List Instr := .iload 4 :: .ireturn :: []
def bk_GB_greatestLikely_34 : List Instr := .iinc 6 1 :: .goto 6 :: bk_GB_greatestLikely_36
def bk_GB_greatestLikely_30 : List Instr := .iload 7 :: .sipush 1 :: .isub :: .istore 5 :: bk_GB_greatestLikely_34
def bk_GB_greatestLikely_6 : List Instr := .iload 6 :: .sipush 32 :: .if_icmp .ge 36 :: .iload 4 :: .iload 5 :: .if_icmp .ge 36 :: .iload 5 :: .iload 5 :: .iload 4 :: .isub :: .sipush 2 :: .idiv :: .isub :: .istore 7 :: .iload 0 :: .iload 1 :: .iload 7 :: .invokeinterface 92 3 :: .lload 2 :: .lcmp :: .ifCond .lt 30 :: .iload 7 :: .istore 4 :: .goto 34 :: bk_GB_greatestLikely_30
def bk_GB_greatestLikely_0 : List Instr := .iload 0 :: .istore 4 :: .sipush 99999 :: .istore 5 :: .sipush 0 :: .istore 6 :: bk_GB_greatestLikely_6
def bk_GB_oddsOf_24 : List Instr := .lload 3 :: .lreturn :: []
def bk_GB_oddsOf_4 : List Instr := .iload 5 :: .iload 1 :: .if_icmp .ge 24 :: .iload 5 :: .iload 2 :: .if_icmp .ge 24 :: .lload 3 :: .iload 0 :: .iload 5 :: .isub :: .i2l :: .lmul :: .iload 2 :: .iload 5 :: .isub :: .i2l :: .ldiv :: .lstore 3 :: .iinc 5 1 :: .goto 4 :: bk_GB_oddsOf_24
def bk_GB_oddsOf_0 : List Instr := .bipush 1000000000 :: .lstore 3 :: .sipush 0 :: .istore 5 :: bk_GB_oddsOf_4
def bk_GB_shortened_19 : List Instr := .iload 0 :: .ireturn :: []
def bk_GB_shortened_17 : List Instr := .iinc 3 (-1) :: .goto 2 :: bk_GB_shortened_19
def bk_GB_shortened_2 : List Instr := .iload 3 :: .sipush 1 :: .if_icmp .le 19 :: .iload 1 :: .iload 3 :: .irem :: .ifCond .ne 17 :: .iload 2 :: .iload 3 :: .irem :: .ifCond .ne 17 :: .iload 0 :: .iload 3 :: .idiv :: .ireturn :: bk_GB_shortened_17
def bk_GB_shortened_0 : List Instr := .iload 2 :: .istore 3 :: bk_GB_shortened_2
def bk_GB_glass_24 : List Instr := .iload 4 :: .ireturn :: []
def bk_GB_glass_15 : List Instr := .iload 5 :: .iload 3 :: .if_icmp .ge 24 :: .iload 4 :: .iload 2 :: .invokeinterface 97 2 :: .istore 4 :: .iinc 5 1 :: .goto 15 :: bk_GB_glass_24
def bk_GB_glass_11 : List Instr := .iload 1 :: .istore 4 :: .sipush 0 :: .istore 5 :: bk_GB_glass_15
def bk_GB_glass_9 : List Instr := .sipush (-1) :: .ireturn :: bk_GB_glass_11
def bk_GB_glass_0 : List Instr := .iload 1 :: .iload 2 :: .invokeinterface 96 2 :: .ifCond .eq 9 :: .iload 3 :: .sipush 0 :: .sipush 99 :: .invokeinterface 107 3 :: .ifCond .ne 11 :: bk_GB_glass_9
def bk_GB_life_21 : List Instr := .iload 4 :: .ireturn :: []
def bk_GB_life_10 : List Instr := .iload 3 :: .ifCond .le 21 :: .iload 4 :: .iload 1 :: .if_icmp .ge 21 :: .iload 3 :: .iload 2 :: .invokeinterface 97 2 :: .istore 3 :: .iinc 4 1 :: .goto 10 :: bk_GB_life_21
def bk_GB_life_6 : List Instr := .iload 1 :: .istore 3 :: .sipush 0 :: .istore 4 :: bk_GB_life_10
def bk_GB_life_0 : List Instr := .iload 1 :: .iload 2 :: .invokeinterface 96 2 :: .ifCond .ne 6 :: .sipush (-1) :: .ireturn :: bk_GB_life_6
def bk_GB_isGlass_13 : List Instr := .areturn :: []
def bk_GB_isGlass_12 : List Instr := .sipush 0 :: bk_GB_isGlass_13
def bk_GB_isGlass_0 : List Instr := .iload 0 :: .sipush 1 :: .sipush 999 :: .invokeinterface 107 3 :: .ifCond .eq 12 :: .iload 1 :: .sipush 0 :: .sipush 99 :: .invokeinterface 107 3 :: .ifCond .eq 12 :: .sipush 1 :: .goto 13 :: bk_GB_isGlass_12
def bk_GB_wornByAYear_0 : List Instr := .sipush 0 :: .iload 0 :: .iload 0 :: .iload 1 :: .imul :: .sipush 100 :: .idiv :: .sipush 1 :: .iadd :: .isub :: .fadd :: .ireturn :: []
def bk_GB_whose_66 : List Instr := .ireturn :: []
def bk_GB_whose_61 : List Instr := .aload 0 :: .getfield 584 :: .getfield 134 :: .iload 6 :: .iaload :: bk_GB_whose_66
def bk_GB_whose_53 : List Instr := .iload 4 :: .ifCond .ne 61 :: .aload 0 :: .getfield 584 :: .getfield 133 :: .iload 6 :: .iaload :: .goto 66 :: bk_GB_whose_61
def bk_GB_whose_40 : List Instr := .iload 4 :: .sipush 2 :: .if_icmp .ne 53 :: .iload 5 :: .aload 0 :: .getfield 584 :: .getfield 135 :: .iload 6 :: .iaload :: .imul :: .sipush 100 :: .idiv :: .ireturn :: bk_GB_whose_53
def bk_GB_whose_39 : List Instr := .ireturn :: bk_GB_whose_40
def bk_GB_whose_38 : List Instr := .sipush 0 :: bk_GB_whose_39
def bk_GB_whose_18 : List Instr := .aload 0 :: .getfield 582 :: .getfield 7 :: .iload 1 :: .iaload :: .istore 5 :: .aload 0 :: .getfield 584 :: .iload 5 :: .iload 1 :: .iload 2 :: .iload 3 :: .invokeinterface 21 5 :: .istore 6 :: .iload 6 :: .ifCond .ge 40 :: .iload 4 :: .ifCond .ne 38 :: .sipush 1 :: .goto 39 :: bk_GB_whose_38
def bk_GB_whose_16 : List Instr := .sipush (-1) :: .ireturn :: bk_GB_whose_18
def bk_GB_whose_0 : List Instr := .aload 0 :: .iload 1 :: .invokeinterface 114 2 :: .ifCond .eq 16 :: .aload 0 :: .iload 2 :: .invokeinterface 113 2 :: .ifCond .eq 16 :: .iload 3 :: .invokeinterface 108 1 :: .ifCond .eq 16 :: .iload 4 :: .sipush 0 :: .sipush 2 :: .invokeinterface 107 3 :: .ifCond .ne 18 :: bk_GB_whose_16
def bk_GB_two_85 : List Instr := .iload 6 :: .ireturn :: []
def bk_GB_two_83 : List Instr := .iinc 7 1 :: .goto 51 :: bk_GB_two_85
def bk_GB_two_81 : List Instr := .iinc 8 1 :: .goto 60 :: bk_GB_two_83
def bk_GB_two_76 : List Instr := .istore 9 :: .iload 9 :: .iload 5 :: .if_icmp .ne 81 :: .iinc 6 1 :: bk_GB_two_81
def bk_GB_two_75 : List Instr := .sipush 3 :: bk_GB_two_76
def bk_GB_two_70 : List Instr := .iload 8 :: .iload 7 :: .if_icmp .ge 75 :: .sipush 2 :: .goto 76 :: bk_GB_two_75
def bk_GB_two_60 : List Instr := .iload 8 :: .iload 3 :: .iload 4 :: .iadd :: .if_icmp .gt 83 :: .iload 7 :: .iload 8 :: .if_icmp .ge 70 :: .sipush 1 :: .goto 76 :: bk_GB_two_70
def bk_GB_two_51 : List Instr := .iload 7 :: .iload 1 :: .iload 2 :: .iadd :: .if_icmp .gt 85 :: .iload 3 :: .iload 4 :: .isub :: .istore 8 :: bk_GB_two_60
def bk_GB_two_45 : List Instr := .sipush 0 :: .istore 6 :: .iload 1 :: .iload 2 :: .isub :: .istore 7 :: bk_GB_two_51
def bk_GB_two_44 : List Instr := .ireturn :: bk_GB_two_45
def bk_GB_two_43 : List Instr := .sipush 0 :: bk_GB_two_44
def bk_GB_two_34 : List Instr := .iload 3 :: .iload 4 :: .iadd :: .iload 1 :: .iload 2 :: .isub :: .if_icmp .ge 43 :: .sipush 2 :: .goto 44 :: bk_GB_two_43
def bk_GB_two_23 : List Instr := .iload 5 :: .ifCond .ne 45 :: .iload 1 :: .iload 2 :: .iadd :: .iload 3 :: .iload 4 :: .isub :: .if_icmp .ge 34 :: .sipush 1 :: .goto 44 :: bk_GB_two_34
def bk_GB_two_21 : List Instr := .sipush (-1) :: .ireturn :: bk_GB_two_23
def bk_GB_two_0 : List Instr := .iload 1 :: .invokeinterface 108 1 :: .ifCond .eq 21 :: .iload 2 :: .sipush 0 :: .sipush 9 :: .invokeinterface 107 3 :: .ifCond .eq 21 :: .iload 3 :: .invokeinterface 108 1 :: .ifCond .eq 21 :: .iload 4 :: .sipush 0 :: .sipush 9 :: .invokeinterface 107 3 :: .ifCond .eq 21 :: .iload 5 :: .sipush 0 :: .sipush 3 :: .invokeinterface 107 3 :: .ifCond .ne 23 :: bk_GB_two_21
def bk_GB_show_13 : List Instr := .aload 0 :: .getfield 581 :: .iload 1 :: .iload 2 :: .iload 3 :: .invokeinterface 55 4 :: .ireturn :: []
def bk_GB_show_11 : List Instr := .sipush (-1) :: .ireturn :: bk_GB_show_13
def bk_GB_show_0 : List Instr := .iload 1 :: .invokeinterface 110 1 :: .ifCond .eq 11 :: .iload 2 :: .sipush 0 :: .sipush 7 :: .invokeinterface 107 3 :: .ifCond .eq 11 :: .iload 3 :: .invokeinterface 111 1 :: .ifCond .ne 13 :: bk_GB_show_11
def bk_GB_cost_10 : List Instr := .aload 0 :: .getfield 581 :: .getfield 450 :: .iload 1 :: .iaload :: .istore 3 :: .aload 0 :: .getfield 581 :: .getfield 450 :: .iload 1 :: .iload 2 :: .iastore :: .iload 3 :: .ireturn :: []
def bk_GB_cost_8 : List Instr := .sipush (-1) :: .ireturn :: bk_GB_cost_10
def bk_GB_cost_0 : List Instr := .iload 1 :: .invokeinterface 110 1 :: .ifCond .eq 8 :: .iload 2 :: .sipush 1 :: .sipush 99 :: .invokeinterface 107 3 :: .ifCond .ne 10 :: bk_GB_cost_8
def bk_GB_parting_35 : List Instr := .ireturn :: []
def bk_GB_parting_31 : List Instr := .aload 0 :: .getfield 581 :: .iload 1 :: .invokeinterface 60 2 :: bk_GB_parting_35
def bk_GB_parting_23 : List Instr := .iload 2 :: .ifCond .ne 31 :: .aload 0 :: .getfield 581 :: .getfield 451 :: .iload 1 :: .iaload :: .goto 35 :: bk_GB_parting_31
def bk_GB_parting_10 : List Instr := .aload 0 :: .getfield 581 :: .iload 1 :: .invokeinterface 57 2 :: .aload 0 :: .getfield 581 :: .getfield 451 :: .iload 1 :: .iaload :: .sipush 1000000 :: .if_icmp .ne 23 :: .sipush (-4) :: .ireturn :: bk_GB_parting_23
def bk_GB_parting_8 : List Instr := .sipush (-1) :: .ireturn :: bk_GB_parting_10
def bk_GB_parting_0 : List Instr := .iload 1 :: .invokeinterface 112 1 :: .ifCond .eq 8 :: .iload 2 :: .sipush 0 :: .sipush 1 :: .invokeinterface 107 3 :: .ifCond .ne 10 :: bk_GB_parting_8
def bk_GB_shown_11 : List Instr := .aload 0 :: .getfield 581 :: .iload 1 :: .iload 2 :: .iload 3 :: .invokeinterface 56 4 :: .ireturn :: []
def bk_GB_shown_9 : List Instr := .sipush (-1) :: .ireturn :: bk_GB_shown_11
def bk_GB_shown_0 : List Instr := .iload 1 :: .invokeinterface 112 1 :: .ifCond .eq 9 :: .iload 2 :: .invokeinterface 110 1 :: .ifCond .eq 9 :: .iload 3 :: .invokeinterface 111 1 :: .ifCond .ne 11 :: bk_GB_shown_9
def bk_GB_keep_7 : List Instr := .aload 0 :: .getfield 578 :: .invokeinterface 45 1 :: .ireturn :: []
def bk_GB_keep_0 : List Instr := .aload 0 :: .getfield 578 :: .getfield 396 :: .sipush 2 :: .if_icmp .lt 7 :: .sipush (-3) :: .ireturn :: bk_GB_keep_7
def bk_GB_back_7 : List Instr := .aload 0 :: .getfield 578 :: .invokeinterface 46 1 :: .ireturn :: []
def bk_GB_back_0 : List Instr := .aload 0 :: .getfield 578 :: .getfield 396 :: .sipush 1 :: .if_icmp .ge 7 :: .sipush (-2) :: .ireturn :: bk_GB_back_7
def bk_GB_count_38 : List Instr := .sipush (-1) :: .ireturn :: []
def bk_GB_count_34 : List Instr := .aload 0 :: .getfield 578 :: .getfield 396 :: .ireturn :: bk_GB_count_38
def bk_GB_count_30 : List Instr := .aload 0 :: .getfield 576 :: .getfield 321 :: .ireturn :: bk_GB_count_34
def bk_GB_count_26 : List Instr := .aload 0 :: .getfield 584 :: .getfield 128 :: .ireturn :: bk_GB_count_30
def bk_GB_count_22 : List Instr := .aload 0 :: .getfield 578 :: .getfield 394 :: .ireturn :: bk_GB_count_26
def bk_GB_count_18 : List Instr := .aload 0 :: .getfield 578 :: .getfield 388 :: .ireturn :: bk_GB_count_22
def bk_GB_count_14 : List Instr := .aload 0 :: .getfield 578 :: .getfield 384 :: .ireturn :: bk_GB_count_18
def bk_GB_count_10 : List Instr := .aload 0 :: .getfield 582 :: .getfield 8 :: .ireturn :: bk_GB_count_14
def bk_GB_count_6 : List Instr := .aload 0 :: .getfield 582 :: .getfield 3 :: .ireturn :: bk_GB_count_10
def bk_GB_count_2 : List Instr := .aload 0 :: .getfield 582 :: .getfield 1 :: .ireturn :: bk_GB_count_6
def bk_GB_count_0 : List Instr := .iload 1 :: .tableswitch 38 0 8 #[2, 6, 10, 14, 18, 22, 26, 30, 34] :: bk_GB_count_2
def bk_GB_within_9 : List Instr := .areturn :: []
def bk_GB_within_8 : List Instr := .sipush 0 :: bk_GB_within_9
def bk_GB_within_0 : List Instr := .iload 0 :: .iload 1 :: .if_icmp .lt 8 :: .iload 0 :: .iload 2 :: .if_icmp .gt 8 :: .sipush 1 :: .goto 9 :: bk_GB_within_8
def bk_GB_isHour_0 : List Instr := .iload 0 :: .sipush 0 :: .sipush 999 :: .invokeinterface 107 3 :: .areturn :: []
def bk_GB_isEyes_0 : List Instr := .iload 0 :: .sipush 0 :: .sipush 9 :: .invokeinterface 107 3 :: .areturn :: []
def bk_GB_isTest_0 : List Instr := .iload 0 :: .sipush 0 :: .sipush 5 :: .invokeinterface 107 3 :: .areturn :: []
def bk_GB_isShown_0 : List Instr := .iload 0 :: .sipush 0 :: .sipush 3 :: .invokeinterface 107 3 :: .areturn :: []
def bk_GB_isSet_0 : List Instr := .iload 0 :: .sipush 1 :: .sipush 255 :: .invokeinterface 107 3 :: .areturn :: []
def bk_GB_isCell_0 : List Instr := .iload 1 :: .sipush 0 :: .aload 0 :: .getfield 582 :: .getfield 1 :: .sipush 1 :: .isub :: .invokeinterface 107 3 :: .areturn :: []
def bk_GB_isKind_0 : List Instr := .iload 1 :: .sipush 0 :: .aload 0 :: .getfield 582 :: .getfield 3 :: .sipush 1 :: .isub :: .invokeinterface 107 3 :: .areturn :: []
def bk_GB_isLoss_0 : List Instr := .iload 1 :: .sipush 0 :: .aload 0 :: .getfield 582 :: .getfield 8 :: .sipush 1 :: .isub :: .invokeinterface 107 3 :: .areturn :: []
def bk_RM_init_0 : List Instr := .aload 0 :: .pop :: .aload 0 :: .sipush 400 :: .newarray .byte :: .putfield 641 :: .aload 0 :: .sipush 2 :: .newarray .int :: .dup :: .sipush 0 :: .sipush 8 :: .iastore :: .dup :: .sipush 1 :: .sipush 8 :: .iastore :: .putfield 643 :: .aload 0 :: .sipush 2 :: .newarray .int :: .putfield 644 :: .aload 0 :: .sipush 48 :: .newarray .int :: .putfield 645 :: .aload 0 :: .sipush 2 :: .newarray .int :: .putfield 646 :: .aload 0 :: .sipush 72 :: .newarray .int :: .putfield 647 :: .aload 0 :: .sipush 2 :: .newarray .int :: .putfield 648 :: .aload 0 :: .sipush 48 :: .newarray .int :: .putfield 649 :: .aload 0 :: .sipush 2 :: .newarray .int :: .putfield 650 :: .aload 0 :: .sipush 80 :: .newarray .int :: .putfield 651 :: .aload 0 :: .sipush 2 :: .newarray .int :: .putfield 652 :: .aload 0 :: .sipush 260 :: .newarray .int :: .putfield 653 :: .aload 0 :: .sipush 8 :: .newarray .int :: .putfield 654 :: .aload 0 :: .sipush 880 :: .newarray .int :: .putfield 655 :: .aload 0 :: .sipush 880 :: .newarray .int :: .putfield 656 :: .aload 0 :: .sipush 3 :: .newarray .int :: .putfield 659 :: .aload 0 :: .sipush 108 :: .newarray .int :: .putfield 660 :: .aload 0 :: .sipush 3 :: .newarray .int :: .putfield 661 :: .aload 0 :: .sipush 360 :: .newarray .int :: .putfield 662 :: .aload 0 :: .sipush 3 :: .newarray .int :: .putfield 663 :: .aload 0 :: .sipush 60 :: .newarray .int :: .putfield 664 :: .aload 0 :: .sipush 48 :: .newarray .int :: .putfield 665 :: .aload 0 :: .sipush 6 :: .newarray .int :: .dup :: .sipush 0 :: .sipush 1 :: .iastore :: .dup :: .sipush 1 :: .sipush 1 :: .iastore :: .dup :: .sipush 2 :: .sipush 1 :: .iastore :: .dup :: .sipush 3 :: .sipush 1 :: .iastore :: .dup :: .sipush 4 :: .sipush 1 :: .iastore :: .dup :: .sipush 5 :: .sipush 1 :: .iastore :: .putfield 666 :: .aload 0 :: .sipush 12 :: .newarray .int :: .putfield 667 :: .aload 0 :: .sipush 3 :: .newarray .int :: .putfield 668 :: .aload 0 :: .sipush 3 :: .newarray .int :: .putfield 669 :: .aload 0 :: .sipush 256 :: .newarray .int :: .putfield 670 :: .aload 0 :: .sipush 256 :: .newarray .int :: .putfield 671 :: .aload 0 :: .sipush 16 :: .newarray .long :: .putfield 675 :: .return_ :: []
def bk_RM_in_11 : List Instr := .areturn :: []
def bk_RM_in_10 : List Instr := .sipush 0 :: bk_RM_in_11
def bk_RM_in_0 : List Instr := .lload 0 :: .lload 2 :: .lcmp :: .ifCond .lt 10 :: .lload 0 :: .lload 4 :: .lcmp :: .ifCond .gt 10 :: .sipush 1 :: .goto 11 :: bk_RM_in_10
def bk_RM_write_42 : List Instr := .aload 0 :: .getfield 640 :: .ireturn :: []
def bk_RM_write_20 : List Instr := .iload 4 :: .ifCond .lt 42 :: .aload 0 :: .getfield 641 :: .aload 0 :: .getfield 640 :: .lload 2 :: .sipush 8 :: .iload 4 :: .imul :: .lshr :: .l2i :: .i2b :: .bastore :: .aload 0 :: .dup :: .getfield 640 :: .sipush 1 :: .iadd :: .putfield 640 :: .iinc 4 (-1) :: .goto 20 :: bk_RM_write_42
def bk_RM_write_16 : List Instr := .iload 1 :: .sipush 1 :: .isub :: .istore 4 :: bk_RM_write_20
def bk_RM_write_8 : List Instr := .aload 0 :: .getfield 640 :: .iload 1 :: .iadd :: .sipush 400 :: .if_icmp .le 16 :: .sipush (-3) :: .ireturn :: bk_RM_write_16
def bk_RM_write_0 : List Instr := .iload 1 :: .i2l :: .bipush 1 :: .bipush 8 :: .invokeinterface 117 3 :: .ifCond .ne 8 :: .sipush (-1) :: .ireturn :: bk_RM_write_8
def bk_RM_wipe_0 : List Instr := .aload 0 :: .getfield 640 :: .istore 1 :: .aload 0 :: .sipush 0 :: .putfield 640 :: .iload 1 :: .ireturn :: []
def bk_RM_next_12 : List Instr := .ireturn :: []
def bk_RM_next_11 : List Instr := .sipush 0 :: bk_RM_next_12
def bk_RM_next_0 : List Instr := .aload 0 :: .getfield 642 :: .aload 0 :: .getfield 640 :: .if_icmp .ge 11 :: .aload 0 :: .getfield 641 :: .aload 0 :: .getfield 642 :: .baload :: .goto 12 :: bk_RM_next_11
def bk_RM_value_91 : List Instr := .putfield 674 :: .iload 4 :: .ireturn :: []
def bk_RM_value_90 : List Instr := .sipush 0 :: bk_RM_value_91
def bk_RM_value_75 : List Instr := .istore 4 :: .aload 0 :: .aload 0 :: .getfield 674 :: .ifCond .eq 90 :: .iload 4 :: .i2l :: .iload 1 :: .i2l :: .iload 2 :: .i2l :: .invokeinterface 117 3 :: .ifCond .eq 90 :: .sipush 1 :: .goto 91 :: bk_RM_value_90
def bk_RM_value_74 : List Instr := .iload 4 :: bk_RM_value_75
def bk_RM_value_68 : List Instr := .putfield 674 :: .iload 3 :: .ifCond .eq 74 :: .iload 4 :: .ineg :: .goto 75 :: bk_RM_value_74
def bk_RM_value_67 : List Instr := .sipush 0 :: bk_RM_value_68
def bk_RM_value_65 : List Instr := .sipush 1 :: .goto 68 :: bk_RM_value_67
def bk_RM_value_51 : List Instr := .aload 0 :: .aload 0 :: .getfield 674 :: .ifCond .eq 67 :: .iload 5 :: .i2l :: .bipush 1 :: .bipush 3 :: .invokeinterface 117 3 :: .ifCond .eq 67 :: .iload 3 :: .ifCond .eq 65 :: .iload 4 :: .ifCond .le 67 :: bk_RM_value_65
def bk_RM_value_42 : List Instr := .istore 4 :: .iinc 5 1 :: .aload 0 :: .dup :: .getfield 642 :: .sipush 1 :: .iadd :: .putfield 642 :: .goto 22 :: bk_RM_value_51
def bk_RM_value_41 : List Instr := .iload 4 :: bk_RM_value_42
def bk_RM_value_22 : List Instr := .aload 0 :: .invokeinterface 120 1 :: .i2l :: .bipush 48 :: .bipush 57 :: .invokeinterface 117 3 :: .ifCond .eq 51 :: .iload 5 :: .sipush 3 :: .if_icmp .ge 41 :: .sipush 10 :: .iload 4 :: .imul :: .aload 0 :: .invokeinterface 120 1 :: .iadd :: .sipush 48 :: .isub :: .goto 42 :: bk_RM_value_41
def bk_RM_value_16 : List Instr := .iadd :: .putfield 642 :: .sipush 0 :: .istore 4 :: .sipush 0 :: .istore 5 :: bk_RM_value_22
def bk_RM_value_15 : List Instr := .sipush 0 :: bk_RM_value_16
def bk_RM_value_7 : List Instr := .istore 3 :: .aload 0 :: .dup :: .getfield 642 :: .iload 3 :: .ifCond .eq 15 :: .sipush 1 :: .goto 16 :: bk_RM_value_15
def bk_RM_value_6 : List Instr := .sipush 0 :: bk_RM_value_7
def bk_RM_value_0 : List Instr := .aload 0 :: .invokeinterface 120 1 :: .sipush 45 :: .if_icmp .ne 6 :: .sipush 1 :: .goto 7 :: bk_RM_value_6
def bk_RM_more_27 : List Instr := .ireturn :: []
def bk_RM_more_26 : List Instr := .sipush 0 :: bk_RM_more_27
def bk_RM_more_11 : List Instr := .putfield 674 :: .aload 0 :: .dup :: .getfield 642 :: .sipush 1 :: .iadd :: .putfield 642 :: .aload 0 :: .getfield 674 :: .ifCond .eq 26 :: .aload 0 :: .iload 1 :: .iload 2 :: .invokeinterface 121 3 :: .goto 27 :: bk_RM_more_26
def bk_RM_more_10 : List Instr := .sipush 0 :: bk_RM_more_11
def bk_RM_more_0 : List Instr := .aload 0 :: .aload 0 :: .getfield 674 :: .ifCond .eq 10 :: .aload 0 :: .invokeinterface 120 1 :: .sipush 44 :: .if_icmp .ne 10 :: .sipush 1 :: .goto 11 :: bk_RM_more_10
def bk_RM_ends_11 : List Instr := .putfield 674 :: .aload 0 :: .dup :: .getfield 642 :: .sipush 1 :: .iadd :: .putfield 642 :: .return_ :: []
def bk_RM_ends_10 : List Instr := .sipush 0 :: bk_RM_ends_11
def bk_RM_ends_0 : List Instr := .aload 0 :: .aload 0 :: .getfield 674 :: .ifCond .eq 10 :: .aload 0 :: .invokeinterface 120 1 :: .sipush 59 :: .if_icmp .ne 10 :: .sipush 1 :: .goto 11 :: bk_RM_ends_10
def bk_RM_item_195 : List Instr := .return_ :: []
def bk_RM_item_192 : List Instr := .aload 0 :: .sipush 0 :: .putfield 674 :: bk_RM_item_195
def bk_RM_item_186 : List Instr := .iload 1 :: .sipush 108 :: .if_icmp .ne 192 :: .aload 0 :: .invokeinterface 126 1 :: .goto 195 :: bk_RM_item_192
def bk_RM_item_180 : List Instr := .iload 1 :: .sipush 107 :: .if_icmp .ne 186 :: .aload 0 :: .invokeinterface 125 1 :: .goto 195 :: bk_RM_item_186
def bk_RM_item_179 : List Instr := .goto 195 :: bk_RM_item_180
def bk_RM_item_131 : List Instr := .putfield 674 :: .aload 0 :: .getfield 674 :: .ifCond .eq 179 :: .aload 0 :: .getfield 647 :: .sipush 36 :: .sipush 3 :: .aload 0 :: .getfield 646 :: .sipush 1 :: .iaload :: .imul :: .iadd :: .iload 2 :: .iastore :: .aload 0 :: .getfield 647 :: .sipush 37 :: .sipush 3 :: .aload 0 :: .getfield 646 :: .sipush 1 :: .iaload :: .imul :: .iadd :: .iload 3 :: .iastore :: .aload 0 :: .getfield 647 :: .sipush 38 :: .sipush 3 :: .aload 0 :: .getfield 646 :: .sipush 1 :: .iaload :: .imul :: .iadd :: .iload 4 :: .iastore :: .aload 0 :: .getfield 646 :: .sipush 1 :: .dup2 :: .iaload :: .sipush 1 :: .iadd :: .iastore :: bk_RM_item_179
def bk_RM_item_130 : List Instr := .sipush 0 :: bk_RM_item_131
def bk_RM_item_98 : List Instr := .iload 1 :: .sipush 119 :: .if_icmp .ne 180 :: .aload 0 :: .sipush 0 :: .sipush 999 :: .invokeinterface 121 3 :: .istore 2 :: .aload 0 :: .sipush (-99) :: .sipush 99 :: .invokeinterface 122 3 :: .istore 3 :: .aload 0 :: .sipush (-99) :: .sipush 99 :: .invokeinterface 122 3 :: .istore 4 :: .aload 0 :: .invokeinterface 123 1 :: .aload 0 :: .aload 0 :: .getfield 674 :: .ifCond .eq 130 :: .aload 0 :: .getfield 646 :: .sipush 1 :: .iaload :: .sipush 12 :: .if_icmp .ge 130 :: .sipush 1 :: .goto 131 :: bk_RM_item_130
def bk_RM_item_97 : List Instr := .goto 195 :: bk_RM_item_98
def bk_RM_item_61 : List Instr := .putfield 674 :: .aload 0 :: .getfield 674 :: .ifCond .eq 97 :: .aload 0 :: .getfield 645 :: .sipush 24 :: .sipush 2 :: .aload 0 :: .getfield 644 :: .sipush 1 :: .iaload :: .imul :: .iadd :: .iload 2 :: .iastore :: .aload 0 :: .getfield 645 :: .sipush 25 :: .sipush 2 :: .aload 0 :: .getfield 644 :: .sipush 1 :: .iaload :: .imul :: .iadd :: .iload 3 :: .iastore :: .aload 0 :: .getfield 644 :: .sipush 1 :: .dup2 :: .iaload :: .sipush 1 :: .iadd :: .iastore :: bk_RM_item_97
def bk_RM_item_60 : List Instr := .sipush 0 :: bk_RM_item_61
def bk_RM_item_33 : List Instr := .iload 1 :: .sipush 116 :: .if_icmp .ne 98 :: .aload 0 :: .sipush (-9) :: .sipush 9 :: .invokeinterface 121 3 :: .istore 2 :: .aload 0 :: .sipush (-9) :: .sipush 9 :: .invokeinterface 122 3 :: .istore 3 :: .aload 0 :: .invokeinterface 123 1 :: .aload 0 :: .aload 0 :: .getfield 674 :: .ifCond .eq 60 :: .aload 0 :: .getfield 644 :: .sipush 1 :: .iaload :: .sipush 12 :: .if_icmp .ge 60 :: .sipush 1 :: .goto 61 :: bk_RM_item_60
def bk_RM_item_31 : List Instr := .iastore :: .goto 195 :: bk_RM_item_33
def bk_RM_item_27 : List Instr := .aload 0 :: .getfield 643 :: .sipush 1 :: .iaload :: bk_RM_item_31
def bk_RM_item_0 : List Instr := .aload 0 :: .invokeinterface 120 1 :: .istore 1 :: .aload 0 :: .dup :: .getfield 642 :: .sipush 1 :: .iadd :: .putfield 642 :: .iload 1 :: .sipush 110 :: .if_icmp .ne 33 :: .aload 0 :: .sipush 1 :: .sipush 16 :: .invokeinterface 121 3 :: .istore 2 :: .aload 0 :: .invokeinterface 123 1 :: .aload 0 :: .getfield 643 :: .sipush 1 :: .aload 0 :: .getfield 674 :: .ifCond .eq 27 :: .iload 2 :: .goto 31 :: bk_RM_item_27
def bk_RM_kindItem_85 : List Instr := .return_ :: []
def bk_RM_kindItem_38 : List Instr := .putfield 674 :: .aload 0 :: .getfield 674 :: .ifCond .eq 85 :: .sipush 24 :: .sipush 4 :: .aload 0 :: .getfield 648 :: .sipush 1 :: .iaload :: .imul :: .iadd :: .istore 5 :: .aload 0 :: .getfield 649 :: .iload 5 :: .iload 1 :: .iastore :: .aload 0 :: .getfield 649 :: .iload 5 :: .sipush 1 :: .iadd :: .iload 2 :: .iastore :: .aload 0 :: .getfield 649 :: .iload 5 :: .sipush 2 :: .iadd :: .iload 3 :: .iastore :: .aload 0 :: .getfield 649 :: .iload 5 :: .sipush 3 :: .iadd :: .iload 4 :: .iastore :: .aload 0 :: .getfield 648 :: .sipush 1 :: .dup2 :: .iaload :: .sipush 1 :: .iadd :: .iastore :: bk_RM_kindItem_85
def bk_RM_kindItem_37 : List Instr := .sipush 0 :: bk_RM_kindItem_38
def bk_RM_kindItem_0 : List Instr := .aload 0 :: .sipush 0 :: .sipush 10 :: .invokeinterface 121 3 :: .istore 1 :: .aload 0 :: .sipush 0 :: .sipush 10 :: .invokeinterface 122 3 :: .istore 2 :: .aload 0 :: .sipush 0 :: .sipush 9 :: .invokeinterface 122 3 :: .istore 3 :: .aload 0 :: .sipush 0 :: .sipush 999 :: .invokeinterface 122 3 :: .istore 4 :: .aload 0 :: .invokeinterface 123 1 :: .aload 0 :: .aload 0 :: .getfield 674 :: .ifCond .eq 37 :: .iload 1 :: .iload 2 :: .if_icmp .gt 37 :: .aload 0 :: .getfield 648 :: .sipush 1 :: .iaload :: .sipush 6 :: .if_icmp .ge 37 :: .sipush 1 :: .goto 38 :: bk_RM_kindItem_37
def bk_RM_lossItem_109 : List Instr := .return_ :: []
def bk_RM_lossItem_55 : List Instr := .putfield 674 :: .aload 0 :: .getfield 674 :: .ifCond .eq 109 :: .sipush 40 :: .sipush 5 :: .aload 0 :: .getfield 650 :: .sipush 1 :: .iaload :: .imul :: .iadd :: .istore 6 :: .aload 0 :: .getfield 651 :: .iload 6 :: .iload 1 :: .iastore :: .aload 0 :: .getfield 651 :: .iload 6 :: .sipush 1 :: .iadd :: .iload 2 :: .iastore :: .aload 0 :: .getfield 651 :: .iload 6 :: .sipush 2 :: .iadd :: .iload 3 :: .iastore :: .aload 0 :: .getfield 651 :: .iload 6 :: .sipush 3 :: .iadd :: .iload 4 :: .iastore :: .aload 0 :: .getfield 651 :: .iload 6 :: .sipush 4 :: .iadd :: .iload 5 :: .iastore :: .aload 0 :: .getfield 650 :: .sipush 1 :: .dup2 :: .iaload :: .sipush 1 :: .iadd :: .iastore :: bk_RM_lossItem_109
def bk_RM_lossItem_54 : List Instr := .sipush 0 :: bk_RM_lossItem_55
def bk_RM_lossItem_0 : List Instr := .aload 0 :: .sipush 0 :: .aload 0 :: .getfield 648 :: .sipush 1 :: .iaload :: .sipush 1 :: .isub :: .invokeinterface 121 3 :: .istore 1 :: .aload 0 :: .sipush 0 :: .sipush 159 :: .invokeinterface 122 3 :: .istore 2 :: .aload 0 :: .sipush 1 :: .sipush 99 :: .invokeinterface 122 3 :: .istore 3 :: .aload 0 :: .sipush 0 :: .sipush 999 :: .invokeinterface 122 3 :: .istore 4 :: .aload 0 :: .sipush 0 :: .sipush 999 :: .invokeinterface 122 3 :: .istore 5 :: .aload 0 :: .invokeinterface 123 1 :: .aload 0 :: .aload 0 :: .getfield 674 :: .ifCond .eq 54 :: .iload 5 :: .i2l :: .iload 4 :: .i2l :: .iload 4 :: .sipush 9 :: .iadd :: .i2l :: .invokeinterface 117 3 :: .ifCond .eq 54 :: .aload 0 :: .getfield 650 :: .sipush 1 :: .iaload :: .sipush 8 :: .if_icmp .ge 54 :: .sipush 1 :: .goto 55 :: bk_RM_lossItem_54
def bk_RM_ruleItem_275 : List Instr := .return_ :: []
def bk_RM_ruleItem_252 : List Instr := .iastore :: .aload 0 :: .getfield 653 :: .iload 1 :: .sipush 11 :: .iadd :: .iload 5 :: .iastore :: .aload 0 :: .getfield 653 :: .iload 1 :: .sipush 12 :: .iadd :: .iload 6 :: .iastore :: .aload 0 :: .getfield 652 :: .sipush 1 :: .dup2 :: .iaload :: .sipush 1 :: .iadd :: .iastore :: bk_RM_ruleItem_275
def bk_RM_ruleItem_251 : List Instr := .sipush 3 :: bk_RM_ruleItem_252
def bk_RM_ruleItem_246 : List Instr := .iload 4 :: .sipush 79 :: .if_icmp .ne 251 :: .sipush 2 :: .goto 252 :: bk_RM_ruleItem_251
def bk_RM_ruleItem_225 : List Instr := .istore 6 :: .aload 0 :: .invokeinterface 123 1 :: .aload 0 :: .getfield 674 :: .ifCond .eq 275 :: .aload 0 :: .getfield 653 :: .iload 1 :: .iload 2 :: .iastore :: .aload 0 :: .getfield 653 :: .iload 1 :: .sipush 10 :: .iadd :: .iload 4 :: .sipush 70 :: .if_icmp .ne 246 :: .sipush 1 :: .goto 252 :: bk_RM_ruleItem_246
def bk_RM_ruleItem_224 : List Instr := .sipush 0 :: bk_RM_ruleItem_225
def bk_RM_ruleItem_215 : List Instr := .istore 5 :: .aload 0 :: .getfield 674 :: .ifCond .eq 224 :: .aload 0 :: .sipush 0 :: .sipush 100 :: .invokeinterface 122 3 :: .goto 225 :: bk_RM_ruleItem_224
def bk_RM_ruleItem_214 : List Instr := .sipush 0 :: bk_RM_ruleItem_215
def bk_RM_ruleItem_205 : List Instr := .putfield 674 :: .aload 0 :: .getfield 674 :: .ifCond .eq 214 :: .aload 0 :: .sipush 0 :: .sipush 999 :: .invokeinterface 121 3 :: .goto 215 :: bk_RM_ruleItem_214
def bk_RM_ruleItem_204 : List Instr := .sipush 0 :: bk_RM_ruleItem_205
def bk_RM_ruleItem_195 : List Instr := .aload 0 :: .invokeinterface 120 1 :: .i2l :: .bipush 48 :: .bipush 57 :: .invokeinterface 117 3 :: .ifCond .eq 204 :: .sipush 1 :: .goto 205 :: bk_RM_ruleItem_204
def bk_RM_ruleItem_166 : List Instr := .putfield 674 :: .aload 0 :: .dup :: .getfield 642 :: .sipush 1 :: .iadd :: .putfield 642 :: .aload 0 :: .invokeinterface 120 1 :: .istore 4 :: .aload 0 :: .dup :: .getfield 642 :: .sipush 1 :: .iadd :: .putfield 642 :: .aload 0 :: .aload 0 :: .getfield 674 :: .ifCond .eq 204 :: .iload 4 :: .sipush 70 :: .if_icmp .eq 195 :: .iload 4 :: .sipush 79 :: .if_icmp .eq 195 :: .iload 4 :: .sipush 67 :: .if_icmp .ne 204 :: bk_RM_ruleItem_195
def bk_RM_ruleItem_165 : List Instr := .sipush 0 :: bk_RM_ruleItem_166
def bk_RM_ruleItem_155 : List Instr := .aload 0 :: .aload 0 :: .getfield 674 :: .ifCond .eq 165 :: .aload 0 :: .invokeinterface 120 1 :: .sipush 58 :: .if_icmp .ne 165 :: .sipush 1 :: .goto 166 :: bk_RM_ruleItem_165
def bk_RM_ruleItem_152 : List Instr := .iadd :: .putfield 642 :: .goto 33 :: bk_RM_ruleItem_155
def bk_RM_ruleItem_151 : List Instr := .sipush 0 :: bk_RM_ruleItem_152
def bk_RM_ruleItem_143 : List Instr := .istore 3 :: .aload 0 :: .dup :: .getfield 642 :: .iload 3 :: .ifCond .eq 151 :: .sipush 1 :: .goto 152 :: bk_RM_ruleItem_151
def bk_RM_ruleItem_142 : List Instr := .sipush 0 :: bk_RM_ruleItem_143
def bk_RM_ruleItem_133 : List Instr := .aload 0 :: .getfield 674 :: .ifCond .eq 142 :: .aload 0 :: .invokeinterface 120 1 :: .sipush 38 :: .if_icmp .ne 142 :: .sipush 1 :: .goto 143 :: bk_RM_ruleItem_142
def bk_RM_ruleItem_95 : List Instr := .istore 6 :: .aload 0 :: .getfield 674 :: .ifCond .eq 133 :: .aload 0 :: .getfield 653 :: .iload 1 :: .sipush 1 :: .iadd :: .sipush 3 :: .iload 2 :: .imul :: .iadd :: .iload 4 :: .iastore :: .aload 0 :: .getfield 653 :: .iload 1 :: .sipush 2 :: .iadd :: .sipush 3 :: .iload 2 :: .imul :: .iadd :: .iload 5 :: .iastore :: .aload 0 :: .getfield 653 :: .iload 1 :: .sipush 3 :: .iadd :: .sipush 3 :: .iload 2 :: .imul :: .iadd :: .iload 6 :: .iastore :: .iinc 2 1 :: bk_RM_ruleItem_133
def bk_RM_ruleItem_94 : List Instr := .sipush 0 :: bk_RM_ruleItem_95
def bk_RM_ruleItem_85 : List Instr := .putfield 674 :: .aload 0 :: .getfield 674 :: .ifCond .eq 94 :: .aload 0 :: .sipush 0 :: .sipush 999 :: .invokeinterface 121 3 :: .goto 95 :: bk_RM_ruleItem_94
def bk_RM_ruleItem_84 : List Instr := .sipush 0 :: bk_RM_ruleItem_85
def bk_RM_ruleItem_75 : List Instr := .aload 0 :: .invokeinterface 120 1 :: .i2l :: .bipush 48 :: .bipush 57 :: .invokeinterface 117 3 :: .ifCond .eq 84 :: .sipush 1 :: .goto 85 :: bk_RM_ruleItem_84
def bk_RM_ruleItem_69 : List Instr := .iload 5 :: .sipush 60 :: .if_icmp .eq 75 :: .iload 5 :: .sipush 62 :: .if_icmp .ne 84 :: bk_RM_ruleItem_75
def bk_RM_ruleItem_33 : List Instr := .iload 3 :: .ifCond .eq 155 :: .aload 0 :: .invokeinterface 120 1 :: .istore 4 :: .aload 0 :: .dup :: .getfield 642 :: .sipush 1 :: .iadd :: .putfield 642 :: .aload 0 :: .invokeinterface 120 1 :: .istore 5 :: .aload 0 :: .dup :: .getfield 642 :: .sipush 1 :: .iadd :: .putfield 642 :: .aload 0 :: .iload 2 :: .sipush 3 :: .if_icmp .ge 84 :: .iload 4 :: .sipush 119 :: .if_icmp .eq 69 :: .iload 4 :: .sipush 107 :: .if_icmp .eq 69 :: .iload 4 :: .sipush 99 :: .if_icmp .eq 69 :: .iload 4 :: .sipush 104 :: .if_icmp .ne 84 :: bk_RM_ruleItem_69
def bk_RM_ruleItem_32 : List Instr := .istore 3 :: bk_RM_ruleItem_33
def bk_RM_ruleItem_31 : List Instr := .sipush 0 :: bk_RM_ruleItem_32
def bk_RM_ruleItem_10 : List Instr := .putfield 674 :: .sipush 130 :: .sipush 13 :: .aload 0 :: .getfield 652 :: .sipush 1 :: .iaload :: .imul :: .iadd :: .istore 1 :: .sipush 0 :: .istore 2 :: .aload 0 :: .getfield 674 :: .ifCond .eq 31 :: .aload 0 :: .invokeinterface 120 1 :: .sipush 58 :: .if_icmp .eq 31 :: .sipush 1 :: .goto 32 :: bk_RM_ruleItem_31
def bk_RM_ruleItem_9 : List Instr := .sipush 0 :: bk_RM_ruleItem_10
def bk_RM_ruleItem_0 : List Instr := .aload 0 :: .aload 0 :: .getfield 652 :: .sipush 1 :: .iaload :: .sipush 10 :: .if_icmp .ge 9 :: .sipush 1 :: .goto 10 :: bk_RM_ruleItem_9
def bk_RM_fault_57 : List Instr := .sipush (-4) :: .ireturn :: []
def bk_RM_fault_56 : List Instr := .goto 33 :: bk_RM_fault_57
def bk_RM_fault_51 : List Instr := .aload 0 :: .getfield 674 :: .ifCond .ne 56 :: .iload 2 :: .ireturn :: bk_RM_fault_56
def bk_RM_fault_49 : List Instr := .aload 0 :: .invokeinterface 124 1 :: bk_RM_fault_51
def bk_RM_fault_33 : List Instr := .aload 0 :: .getfield 642 :: .aload 0 :: .getfield 640 :: .if_icmp .ge 57 :: .aload 0 :: .getfield 642 :: .istore 2 :: .aload 0 :: .sipush 1 :: .putfield 674 :: .iload 1 :: .ifCond .eq 49 :: .aload 0 :: .invokeinterface 127 1 :: .goto 51 :: bk_RM_fault_49
def bk_RM_fault_0 : List Instr := .aload 0 :: .sipush 0 :: .putfield 642 :: .aload 0 :: .getfield 643 :: .sipush 1 :: .sipush 8 :: .iastore :: .aload 0 :: .getfield 644 :: .sipush 1 :: .sipush 0 :: .iastore :: .aload 0 :: .getfield 646 :: .sipush 1 :: .sipush 0 :: .iastore :: .aload 0 :: .getfield 648 :: .sipush 1 :: .sipush 0 :: .iastore :: .aload 0 :: .getfield 650 :: .sipush 1 :: .sipush 0 :: .iastore :: .aload 0 :: .getfield 652 :: .sipush 1 :: .sipush 0 :: .iastore :: bk_RM_fault_33
def bk_RM_lay_163 : List Instr := .aload 0 :: .getfield 643 :: .sipush 0 :: .iaload :: .ireturn :: []
def bk_RM_lay_152 : List Instr := .iload 2 :: .aload 0 :: .getfield 650 :: .sipush 0 :: .iaload :: .if_icmp .ge 163 :: .aload 0 :: .iload 2 :: .invokeinterface 137 2 :: .iinc 2 1 :: .goto 152 :: bk_RM_lay_163
def bk_RM_lay_132 : List Instr := .aload 0 :: .getfield 659 :: .sipush 0 :: .sipush 0 :: .iastore :: .aload 0 :: .getfield 661 :: .sipush 0 :: .sipush 0 :: .iastore :: .aload 0 :: .getfield 663 :: .sipush 0 :: .sipush 0 :: .iastore :: .aload 0 :: .sipush 0 :: .putfield 658 :: .sipush 0 :: .istore 2 :: bk_RM_lay_152
def bk_RM_lay_130 : List Instr := .iinc 2 1 :: .goto 81 :: bk_RM_lay_132
def bk_RM_lay_117 : List Instr := .iload 2 :: .sipush 36 :: .if_icmp .ge 130 :: .aload 0 :: .getfield 647 :: .iload 2 :: .aload 0 :: .getfield 647 :: .sipush 36 :: .iload 2 :: .iadd :: .iaload :: .iastore :: bk_RM_lay_130
def bk_RM_lay_81 : List Instr := .iload 2 :: .sipush 40 :: .if_icmp .ge 132 :: .aload 0 :: .getfield 651 :: .iload 2 :: .aload 0 :: .getfield 651 :: .sipush 40 :: .iload 2 :: .iadd :: .iaload :: .iastore :: .iload 2 :: .sipush 24 :: .if_icmp .ge 117 :: .aload 0 :: .getfield 645 :: .iload 2 :: .aload 0 :: .getfield 645 :: .sipush 24 :: .iload 2 :: .iadd :: .iaload :: .iastore :: .aload 0 :: .getfield 649 :: .iload 2 :: .aload 0 :: .getfield 649 :: .sipush 24 :: .iload 2 :: .iadd :: .iaload :: .iastore :: bk_RM_lay_117
def bk_RM_lay_39 : List Instr := .aload 0 :: .getfield 643 :: .sipush 0 :: .aload 0 :: .getfield 643 :: .sipush 1 :: .iaload :: .iastore :: .aload 0 :: .getfield 644 :: .sipush 0 :: .aload 0 :: .getfield 644 :: .sipush 1 :: .iaload :: .iastore :: .aload 0 :: .getfield 646 :: .sipush 0 :: .aload 0 :: .getfield 646 :: .sipush 1 :: .iaload :: .iastore :: .aload 0 :: .getfield 648 :: .sipush 0 :: .aload 0 :: .getfield 648 :: .sipush 1 :: .iaload :: .iastore :: .aload 0 :: .getfield 650 :: .sipush 0 :: .aload 0 :: .getfield 650 :: .sipush 1 :: .iaload :: .iastore :: .sipush 0 :: .istore 2 :: bk_RM_lay_81
def bk_RM_lay_34 : List Instr := .aload 0 :: .getfield 652 :: .sipush 0 :: .iaload :: .ireturn :: bk_RM_lay_39
def bk_RM_lay_19 : List Instr := .iload 2 :: .sipush 130 :: .if_icmp .ge 34 :: .aload 0 :: .getfield 653 :: .iload 2 :: .aload 0 :: .getfield 653 :: .sipush 130 :: .iload 2 :: .iadd :: .iaload :: .iastore :: .iinc 2 1 :: .goto 19 :: bk_RM_lay_34
def bk_RM_lay_7 : List Instr := .iload 1 :: .ifCond .eq 39 :: .aload 0 :: .getfield 652 :: .sipush 0 :: .aload 0 :: .getfield 652 :: .sipush 1 :: .iaload :: .iastore :: .sipush 0 :: .istore 2 :: bk_RM_lay_19
def bk_RM_lay_0 : List Instr := .aload 0 :: .iload 1 :: .invokeinterface 128 2 :: .sipush (-4) :: .if_icmp .eq 7 :: .sipush (-2) :: .ireturn :: bk_RM_lay_7
def bk_RM_isCell_0 : List Instr := .iload 1 :: .i2l :: .bipush 0 :: .aload 0 :: .getfield 643 :: .sipush 0 :: .iaload :: .sipush 1 :: .isub :: .i2l :: .invokeinterface 117 3 :: .areturn :: []
def bk_RM_isKind_0 : List Instr := .iload 1 :: .i2l :: .bipush 0 :: .aload 0 :: .getfield 648 :: .sipush 0 :: .iaload :: .sipush 1 :: .isub :: .i2l :: .invokeinterface 117 3 :: .areturn :: []
def bk_RM_isLoss_0 : List Instr := .iload 1 :: .i2l :: .bipush 0 :: .aload 0 :: .getfield 650 :: .sipush 0 :: .iaload :: .sipush 1 :: .isub :: .i2l :: .invokeinterface 117 3 :: .areturn :: []
def bk_RM_isHour_0 : List Instr := .iload 0 :: .i2l :: .bipush 0 :: .bipush 999 :: .invokeinterface 117 3 :: .areturn :: []
def bk_RM_blows_51 : List Instr := .ireturn :: []
def bk_RM_blows_43 : List Instr := .aload 0 :: .getfield 647 :: .sipush 3 :: .iload 3 :: .imul :: .iload 2 :: .iadd :: .iaload :: bk_RM_blows_51
def bk_RM_blows_39 : List Instr := .iload 3 :: .ifCond .ge 43 :: .sipush 0 :: .goto 51 :: bk_RM_blows_43
def bk_RM_blows_36 : List Instr := .istore 3 :: .iinc 4 1 :: .goto 4 :: bk_RM_blows_39
def bk_RM_blows_35 : List Instr := .iload 3 :: bk_RM_blows_36
def bk_RM_blows_33 : List Instr := .iload 4 :: .goto 36 :: bk_RM_blows_35
def bk_RM_blows_4 : List Instr := .iload 4 :: .aload 0 :: .getfield 646 :: .sipush 0 :: .iaload :: .if_icmp .ge 39 :: .aload 0 :: .getfield 647 :: .sipush 3 :: .iload 4 :: .imul :: .iaload :: .iload 1 :: .if_icmp .gt 35 :: .iload 3 :: .ifCond .lt 33 :: .aload 0 :: .getfield 647 :: .sipush 3 :: .iload 4 :: .imul :: .iaload :: .aload 0 :: .getfield 647 :: .sipush 3 :: .iload 3 :: .imul :: .iaload :: .if_icmp .lt 35 :: bk_RM_blows_33
def bk_RM_blows_0 : List Instr := .sipush (-1) :: .istore 3 :: .sipush 0 :: .istore 4 :: bk_RM_blows_4
def bk_RM_drifts_107 : List Instr := .sipush (-1) :: .ireturn :: []
def bk_RM_drifts_105 : List Instr := .iinc 7 1 :: .goto 6 :: bk_RM_drifts_107
def bk_RM_drifts_94 : List Instr := .iload 6 :: .ifCond .gt 105 :: .aload 0 :: .iload 7 :: .sipush 1 :: .iadd :: .putfield 657 :: .iload 5 :: .sipush 10 :: .idiv :: .ireturn :: bk_RM_drifts_105
def bk_RM_drifts_92 : List Instr := .sipush (-1) :: .ireturn :: bk_RM_drifts_94
def bk_RM_drifts_64 : List Instr := .iload 4 :: .aload 0 :: .iload 7 :: .sipush 2 :: .invokeinterface 134 3 :: .imul :: .sipush 10 :: .idiv :: .iadd :: .iadd :: .istore 6 :: .iload 5 :: .i2l :: .bipush 0 :: .sipush 10 :: .aload 0 :: .getfield 643 :: .sipush 0 :: .iaload :: .imul :: .sipush 1 :: .isub :: .i2l :: .invokeinterface 117 3 :: .ifCond .eq 92 :: .iload 6 :: .sipush 99 :: .if_icmp .le 94 :: bk_RM_drifts_92
def bk_RM_drifts_56 : List Instr := .aload 0 :: .getfield 645 :: .sipush 2 :: .iload 8 :: .imul :: .sipush 1 :: .iadd :: .iaload :: bk_RM_drifts_64
def bk_RM_drifts_37 : List Instr := .iload 4 :: .aload 0 :: .iload 7 :: .sipush 1 :: .invokeinterface 134 3 :: .imul :: .sipush 10 :: .idiv :: .iadd :: .iadd :: .istore 5 :: .iload 6 :: .aload 0 :: .getfield 644 :: .sipush 0 :: .iaload :: .ifCond .ne 56 :: .sipush 0 :: .goto 64 :: bk_RM_drifts_56
def bk_RM_drifts_31 : List Instr := .aload 0 :: .getfield 645 :: .sipush 2 :: .iload 8 :: .imul :: .iaload :: bk_RM_drifts_37
def bk_RM_drifts_22 : List Instr := .istore 8 :: .iload 5 :: .aload 0 :: .getfield 644 :: .sipush 0 :: .iaload :: .ifCond .ne 31 :: .sipush 0 :: .goto 37 :: bk_RM_drifts_31
def bk_RM_drifts_16 : List Instr := .iload 7 :: .aload 0 :: .getfield 644 :: .sipush 0 :: .iaload :: .irem :: bk_RM_drifts_22
def bk_RM_drifts_6 : List Instr := .iload 7 :: .sipush 999 :: .if_icmp .ge 107 :: .aload 0 :: .getfield 644 :: .sipush 0 :: .iaload :: .ifCond .ne 16 :: .sipush 0 :: .goto 22 :: bk_RM_drifts_16
def bk_RM_drifts_0 : List Instr := .iload 1 :: .istore 5 :: .iload 2 :: .istore 6 :: .iload 3 :: .istore 7 :: bk_RM_drifts_6
def bk_RM_drift_54 : List Instr := .ireturn :: []
def bk_RM_drift_52 : List Instr := .aload 0 :: .getfield 657 :: bk_RM_drift_54
def bk_RM_drift_48 : List Instr := .iload 5 :: .ifCond .ne 52 :: .iload 6 :: .goto 54 :: bk_RM_drift_52
def bk_RM_drift_37 : List Instr := .aload 0 :: .iload 1 :: .iload 2 :: .iload 3 :: .iload 4 :: .invokeinterface 135 5 :: .istore 6 :: .iload 6 :: .ifCond .ge 48 :: .sipush (-4) :: .goto 54 :: bk_RM_drift_48
def bk_RM_drift_35 : List Instr := .sipush (-1) :: .ireturn :: bk_RM_drift_37
def bk_RM_drift_0 : List Instr := .iload 1 :: .i2l :: .bipush 0 :: .sipush 10 :: .aload 0 :: .getfield 643 :: .sipush 0 :: .iaload :: .imul :: .sipush 1 :: .isub :: .i2l :: .invokeinterface 117 3 :: .ifCond .eq 35 :: .iload 2 :: .i2l :: .bipush 1 :: .bipush 99 :: .invokeinterface 117 3 :: .ifCond .eq 35 :: .iload 3 :: .invokeinterface 133 1 :: .ifCond .eq 35 :: .iload 4 :: .i2l :: .bipush 0 :: .bipush 10 :: .invokeinterface 117 3 :: .ifCond .eq 35 :: .iload 5 :: .i2l :: .bipush 0 :: .bipush 1 :: .invokeinterface 117 3 :: .ifCond .ne 37 :: bk_RM_drift_35
def bk_RM_laysWorlds_88 : List Instr := .aload 0 :: .getfield 654 :: .iload 1 :: .iload 3 :: .iastore :: .return_ :: []
def bk_RM_laysWorlds_86 : List Instr := .iinc 4 1 :: .goto 16 :: bk_RM_laysWorlds_88
def bk_RM_laysWorlds_35 : List Instr := .iload 5 :: .aload 0 :: .getfield 651 :: .sipush 5 :: .iload 1 :: .imul :: .sipush 4 :: .iadd :: .iaload :: .if_icmp .gt 86 :: .aload 0 :: .getfield 655 :: .sipush 110 :: .iload 1 :: .imul :: .iload 3 :: .iadd :: .aload 0 :: .aload 0 :: .getfield 651 :: .sipush 5 :: .iload 1 :: .imul :: .sipush 1 :: .iadd :: .iaload :: .aload 0 :: .getfield 651 :: .sipush 5 :: .iload 1 :: .imul :: .sipush 2 :: .iadd :: .iaload :: .iload 5 :: .iload 4 :: .invokeinterface 135 5 :: .iastore :: .aload 0 :: .getfield 656 :: .sipush 110 :: .iload 1 :: .imul :: .iload 3 :: .iadd :: .aload 0 :: .getfield 657 :: .iastore :: .iinc 3 1 :: .iinc 5 1 :: .goto 35 :: bk_RM_laysWorlds_86
def bk_RM_laysWorlds_16 : List Instr := .iload 4 :: .aload 0 :: .getfield 649 :: .sipush 4 :: .iload 2 :: .imul :: .sipush 1 :: .iadd :: .iaload :: .if_icmp .gt 88 :: .aload 0 :: .getfield 651 :: .sipush 5 :: .iload 1 :: .imul :: .sipush 3 :: .iadd :: .iaload :: .istore 5 :: bk_RM_laysWorlds_35
def bk_RM_laysWorlds_0 : List Instr := .aload 0 :: .getfield 651 :: .sipush 5 :: .iload 1 :: .imul :: .iaload :: .istore 2 :: .sipush 0 :: .istore 3 :: .aload 0 :: .getfield 649 :: .sipush 4 :: .iload 2 :: .imul :: .iaload :: .istore 4 :: bk_RM_laysWorlds_16
def bk_RM_counts_59 : List Instr := .iload 7 :: .ireturn :: []
def bk_RM_counts_55 : List Instr := .iadd :: .istore 7 :: .iinc 8 1 :: .goto 6 :: bk_RM_counts_59
def bk_RM_counts_54 : List Instr := .sipush 0 :: bk_RM_counts_55
def bk_RM_counts_52 : List Instr := .sipush 1 :: .goto 55 :: bk_RM_counts_54
def bk_RM_counts_41 : List Instr := .istore 9 :: .iload 7 :: .iload 9 :: .ifCond .eq 54 :: .iload 6 :: .ifCond .eq 52 :: .aload 0 :: .iload 1 :: .iload 8 :: .invokeinterface 153 3 :: .ifCond .ne 54 :: bk_RM_counts_52
def bk_RM_counts_40 : List Instr := .sipush 0 :: bk_RM_counts_41
def bk_RM_counts_6 : List Instr := .iload 8 :: .sipush 110 :: .iload 1 :: .imul :: .aload 0 :: .getfield 654 :: .iload 1 :: .iaload :: .iadd :: .if_icmp .ge 59 :: .aload 0 :: .getfield 655 :: .iload 8 :: .iaload :: .i2l :: .iload 2 :: .i2l :: .iload 3 :: .i2l :: .invokeinterface 117 3 :: .ifCond .eq 40 :: .aload 0 :: .getfield 656 :: .iload 8 :: .iaload :: .i2l :: .iload 4 :: .i2l :: .iload 5 :: .i2l :: .invokeinterface 117 3 :: .ifCond .eq 40 :: .sipush 1 :: .goto 41 :: bk_RM_counts_40
def bk_RM_counts_0 : List Instr := .sipush 0 :: .istore 7 :: .sipush 110 :: .iload 1 :: .imul :: .istore 8 :: bk_RM_counts_6
def bk_RM_worlds_39 : List Instr := .ireturn :: []
def bk_RM_worlds_33 : List Instr := .aload 0 :: .getfield 654 :: .iload 1 :: .iaload :: .iload 3 :: .isub :: bk_RM_worlds_39
def bk_RM_worlds_28 : List Instr := .iload 2 :: .sipush 1 :: .if_icmp .ne 33 :: .iload 3 :: .goto 39 :: bk_RM_worlds_33
def bk_RM_worlds_12 : List Instr := .aload 0 :: .iload 1 :: .sipush 0 :: .sipush 15 :: .sipush 0 :: .sipush 999 :: .sipush 0 :: .invokeinterface 138 7 :: .istore 3 :: .iload 2 :: .ifCond .ne 28 :: .aload 0 :: .getfield 654 :: .iload 1 :: .iaload :: .goto 39 :: bk_RM_worlds_28
def bk_RM_worlds_10 : List Instr := .sipush (-1) :: .ireturn :: bk_RM_worlds_12
def bk_RM_worlds_0 : List Instr := .aload 0 :: .iload 1 :: .invokeinterface 132 2 :: .ifCond .eq 10 :: .iload 2 :: .i2l :: .bipush 0 :: .bipush 2 :: .invokeinterface 117 3 :: .ifCond .ne 12 :: bk_RM_worlds_10
def bk_RM_ashore_27 : List Instr := .ireturn :: []
def bk_RM_ashore_26 : List Instr := .sipush (-1) :: bk_RM_ashore_27
def bk_RM_ashore_0 : List Instr := .aload 0 :: .iload 1 :: .invokeinterface 132 2 :: .ifCond .eq 26 :: .aload 0 :: .iload 2 :: .invokeinterface 130 2 :: .ifCond .eq 26 :: .iload 3 :: .invokeinterface 133 1 :: .ifCond .eq 26 :: .iload 4 :: .invokeinterface 133 1 :: .ifCond .eq 26 :: .iload 3 :: .iload 4 :: .if_icmp .gt 26 :: .aload 0 :: .iload 1 :: .iload 2 :: .iload 2 :: .iload 3 :: .iload 4 :: .sipush 0 :: .invokeinterface 138 7 :: .goto 27 :: bk_RM_ashore_26
def bk_RM_find_23 : List Instr := .aload 0 :: .getfield 660 :: .sipush 3 :: .iload 4 :: .imul :: .iload 1 :: .iastore :: .aload 0 :: .getfield 660 :: .sipush 3 :: .iload 4 :: .imul :: .sipush 1 :: .iadd :: .iload 2 :: .iastore :: .aload 0 :: .getfield 660 :: .sipush 3 :: .iload 4 :: .imul :: .sipush 2 :: .iadd :: .iload 3 :: .iastore :: .aload 0 :: .getfield 659 :: .sipush 0 :: .dup2 :: .iaload :: .sipush 1 :: .iadd :: .iastore :: .aload 0 :: .getfield 659 :: .sipush 0 :: .iaload :: .ireturn :: []
def bk_RM_find_13 : List Instr := .aload 0 :: .getfield 659 :: .sipush 0 :: .iaload :: .istore 4 :: .iload 4 :: .sipush 12 :: .if_icmp .ne 23 :: .sipush (-3) :: .ireturn :: bk_RM_find_23
def bk_RM_find_11 : List Instr := .sipush (-1) :: .ireturn :: bk_RM_find_13
def bk_RM_find_0 : List Instr := .aload 0 :: .iload 1 :: .invokeinterface 131 2 :: .ifCond .eq 11 :: .aload 0 :: .iload 2 :: .invokeinterface 130 2 :: .ifCond .eq 11 :: .iload 3 :: .invokeinterface 133 1 :: .ifCond .ne 13 :: bk_RM_find_11
def bk_RM_fromOf_58 : List Instr := .iload 2 :: .ireturn :: []
def bk_RM_fromOf_54 : List Instr := .ior :: .istore 2 :: .iinc 3 1 :: .goto 4 :: bk_RM_fromOf_58
def bk_RM_fromOf_53 : List Instr := .sipush 0 :: bk_RM_fromOf_54
def bk_RM_fromOf_4 : List Instr := .iload 3 :: .aload 0 :: .getfield 650 :: .sipush 0 :: .iaload :: .if_icmp .ge 58 :: .aload 0 :: .getfield 660 :: .sipush 3 :: .iload 1 :: .imul :: .sipush 1 :: .iadd :: .iaload :: .istore 4 :: .iload 2 :: .aload 0 :: .getfield 651 :: .sipush 5 :: .iload 3 :: .imul :: .iaload :: .aload 0 :: .getfield 660 :: .sipush 3 :: .iload 1 :: .imul :: .iaload :: .if_icmp .ne 53 :: .aload 0 :: .iload 3 :: .iload 4 :: .iload 4 :: .sipush 0 :: .aload 0 :: .getfield 660 :: .sipush 3 :: .iload 1 :: .imul :: .sipush 2 :: .iadd :: .iaload :: .sipush 0 :: .invokeinterface 138 7 :: .ifCond .le 53 :: .sipush 1 :: .iload 3 :: .ishl :: .goto 54 :: bk_RM_fromOf_53
def bk_RM_fromOf_0 : List Instr := .sipush 0 :: .istore 2 :: .sipush 0 :: .istore 3 :: bk_RM_fromOf_4
def bk_RM_from_17 : List Instr := .ireturn :: []
def bk_RM_from_16 : List Instr := .sipush (-1) :: bk_RM_from_17
def bk_RM_from_0 : List Instr := .iload 1 :: .i2l :: .bipush 0 :: .aload 0 :: .getfield 659 :: .sipush 0 :: .iaload :: .sipush 1 :: .isub :: .i2l :: .invokeinterface 117 3 :: .ifCond .eq 16 :: .aload 0 :: .iload 1 :: .invokeinterface 142 2 :: .goto 17 :: bk_RM_from_16
def bk_RM_parts_95 : List Instr := .areturn :: []
def bk_RM_parts_94 : List Instr := .sipush 0 :: bk_RM_parts_95
def bk_RM_parts_89 : List Instr := .iload 2 :: .iload 1 :: .if_icmp .ne 94 :: .sipush 1 :: .goto 95 :: bk_RM_parts_94
def bk_RM_parts_88 : List Instr := .goto 14 :: bk_RM_parts_89
def bk_RM_parts_68 : List Instr := .aload 0 :: .getfield 667 :: .iload 2 :: .iload 4 :: .iastore :: .iload 3 :: .sipush 1 :: .iload 4 :: .ishl :: .ior :: .istore 3 :: .iinc 2 1 :: .iload 2 :: .iload 1 :: .if_icmp .ge 88 :: .aload 0 :: .getfield 667 :: .iload 2 :: .sipush (-1) :: .iastore :: bk_RM_parts_88
def bk_RM_parts_63 : List Instr := .iload 4 :: .sipush 8 :: .if_icmp .ne 68 :: .iinc 2 (-1) :: .goto 88 :: bk_RM_parts_68
def bk_RM_parts_52 : List Instr := .iload 4 :: .sipush 8 :: .if_icmp .ge 63 :: .iload 5 :: .iload 4 :: .ishr :: .sipush 1 :: .iand :: .ifCond .ne 63 :: .iinc 4 1 :: .goto 52 :: bk_RM_parts_63
def bk_RM_parts_35 : List Instr := .iand :: .istore 3 :: .aload 0 :: .getfield 667 :: .iload 2 :: .iaload :: .sipush 1 :: .iadd :: .istore 4 :: .aload 0 :: .iload 2 :: .invokeinterface 142 2 :: .iload 3 :: .sipush (-1) :: .ixor :: .iand :: .istore 5 :: bk_RM_parts_52
def bk_RM_parts_34 : List Instr := .sipush (-1) :: bk_RM_parts_35
def bk_RM_parts_14 : List Instr := .iload 2 :: .ifCond .lt 89 :: .iload 2 :: .iload 1 :: .if_icmp .ge 89 :: .iload 3 :: .aload 0 :: .getfield 667 :: .iload 2 :: .iaload :: .ifCond .lt 34 :: .sipush 1 :: .aload 0 :: .getfield 667 :: .iload 2 :: .iaload :: .ishl :: .sipush (-1) :: .ixor :: .goto 35 :: bk_RM_parts_34
def bk_RM_parts_0 : List Instr := .aload 0 :: .getfield 659 :: .sipush 0 :: .iaload :: .istore 1 :: .sipush 0 :: .istore 2 :: .sipush 0 :: .istore 3 :: .aload 0 :: .getfield 667 :: .sipush 0 :: .sipush (-1) :: .iastore :: bk_RM_parts_14
def bk_RM_parted_30 : List Instr := .ireturn :: []
def bk_RM_parted_26 : List Instr := .aload 0 :: .getfield 667 :: .iload 1 :: .iaload :: bk_RM_parted_30
def bk_RM_parted_22 : List Instr := .iload 1 :: .ifCond .ge 26 :: .sipush 1 :: .goto 30 :: bk_RM_parted_26
def bk_RM_parted_17 : List Instr := .aload 0 :: .invokeinterface 144 1 :: .ifCond .ne 22 :: .sipush (-4) :: .goto 30 :: bk_RM_parted_22
def bk_RM_parted_0 : List Instr := .iload 1 :: .sipush (-1) :: .if_icmp .eq 17 :: .iload 1 :: .i2l :: .bipush 0 :: .aload 0 :: .getfield 659 :: .sipush 0 :: .iaload :: .sipush 1 :: .isub :: .i2l :: .invokeinterface 117 3 :: .ifCond .ne 17 :: .sipush (-1) :: .ireturn :: bk_RM_parted_17
def bk_RM_report_75 : List Instr := .iastore :: .aload 0 :: .getfield 661 :: .sipush 0 :: .dup2 :: .iaload :: .sipush 1 :: .iadd :: .iastore :: .aload 0 :: .getfield 661 :: .sipush 0 :: .iaload :: .ireturn :: []
def bk_RM_report_74 : List Instr := .sipush 0 :: bk_RM_report_75
def bk_RM_report_29 : List Instr := .aload 0 :: .getfield 662 :: .sipush 5 :: .iload 6 :: .imul :: .iload 1 :: .iastore :: .aload 0 :: .getfield 662 :: .sipush 5 :: .iload 6 :: .imul :: .sipush 1 :: .iadd :: .iload 2 :: .iastore :: .aload 0 :: .getfield 662 :: .sipush 5 :: .iload 6 :: .imul :: .sipush 2 :: .iadd :: .iload 3 :: .iastore :: .aload 0 :: .getfield 662 :: .sipush 5 :: .iload 6 :: .imul :: .sipush 3 :: .iadd :: .iload 4 :: .iastore :: .aload 0 :: .getfield 662 :: .sipush 5 :: .iload 6 :: .imul :: .sipush 4 :: .iadd :: .iload 5 :: .ifCond .eq 74 :: .sipush 1 :: .goto 75 :: bk_RM_report_74
def bk_RM_report_19 : List Instr := .aload 0 :: .getfield 661 :: .sipush 0 :: .iaload :: .istore 6 :: .iload 6 :: .sipush 24 :: .if_icmp .ne 29 :: .sipush (-3) :: .ireturn :: bk_RM_report_29
def bk_RM_report_17 : List Instr := .sipush (-1) :: .ireturn :: bk_RM_report_19
def bk_RM_report_0 : List Instr := .aload 0 :: .iload 1 :: .invokeinterface 130 2 :: .ifCond .eq 17 :: .iload 2 :: .invokeinterface 133 1 :: .ifCond .eq 17 :: .iload 3 :: .i2l :: .bipush 0 :: .bipush 9 :: .invokeinterface 117 3 :: .ifCond .eq 17 :: .aload 0 :: .iload 4 :: .invokeinterface 131 2 :: .ifCond .ne 19 :: bk_RM_report_17
def bk_RM_sees_13 : List Instr := .areturn :: []
def bk_RM_sees_12 : List Instr := .sipush 0 :: bk_RM_sees_13
def bk_RM_sees_0 : List Instr := .iload 1 :: .aload 0 :: .getfield 649 :: .sipush 4 :: .iload 2 :: .imul :: .sipush 2 :: .iadd :: .iaload :: .if_icmp .lt 12 :: .sipush 1 :: .goto 13 :: bk_RM_sees_12
def bk_RM_isOf_21 : List Instr := .areturn :: []
def bk_RM_isOf_20 : List Instr := .sipush 0 :: bk_RM_isOf_21
def bk_RM_isOf_0 : List Instr := .aload 0 :: .getfield 662 :: .sipush 5 :: .iload 1 :: .imul :: .iaload :: .iload 3 :: .if_icmp .ne 20 :: .aload 0 :: .getfield 662 :: .sipush 5 :: .iload 1 :: .imul :: .sipush 3 :: .iadd :: .iaload :: .iload 2 :: .if_icmp .ne 20 :: .sipush 1 :: .goto 21 :: bk_RM_isOf_20
def bk_RM_isThere_44 : List Instr := .iload 4 :: .areturn :: []
def bk_RM_isThere_41 : List Instr := .istore 4 :: .iinc 5 1 :: .goto 4 :: bk_RM_isThere_44
def bk_RM_isThere_40 : List Instr := .sipush 0 :: bk_RM_isThere_41
def bk_RM_isThere_38 : List Instr := .sipush 1 :: .goto 41 :: bk_RM_isThere_40
def bk_RM_isThere_4 : List Instr := .iload 5 :: .aload 0 :: .getfield 661 :: .sipush 0 :: .iaload :: .if_icmp .ge 44 :: .iload 4 :: .ifCond .ne 38 :: .aload 0 :: .iload 5 :: .iload 1 :: .iload 2 :: .invokeinterface 148 4 :: .ifCond .eq 40 :: .aload 0 :: .getfield 662 :: .sipush 5 :: .iload 5 :: .imul :: .sipush 4 :: .iadd :: .iaload :: .sipush 1 :: .if_icmp .ne 40 :: .aload 0 :: .getfield 662 :: .sipush 5 :: .iload 5 :: .imul :: .sipush 1 :: .iadd :: .iaload :: .iload 3 :: .if_icmp .gt 40 :: bk_RM_isThere_38
def bk_RM_isThere_0 : List Instr := .sipush 0 :: .istore 4 :: .sipush 0 :: .istore 5 :: bk_RM_isThere_4
def bk_RM_isNot_55 : List Instr := .iload 4 :: .areturn :: []
def bk_RM_isNot_52 : List Instr := .istore 4 :: .iinc 5 1 :: .goto 4 :: bk_RM_isNot_55
def bk_RM_isNot_51 : List Instr := .sipush 0 :: bk_RM_isNot_52
def bk_RM_isNot_49 : List Instr := .sipush 1 :: .goto 52 :: bk_RM_isNot_51
def bk_RM_isNot_4 : List Instr := .iload 5 :: .aload 0 :: .getfield 661 :: .sipush 0 :: .iaload :: .if_icmp .ge 55 :: .iload 4 :: .ifCond .ne 49 :: .aload 0 :: .iload 5 :: .iload 1 :: .iload 2 :: .invokeinterface 148 4 :: .ifCond .eq 51 :: .aload 0 :: .getfield 662 :: .sipush 5 :: .iload 5 :: .imul :: .sipush 4 :: .iadd :: .iaload :: .ifCond .ne 51 :: .aload 0 :: .getfield 662 :: .sipush 5 :: .iload 5 :: .imul :: .sipush 1 :: .iadd :: .iaload :: .iload 3 :: .if_icmp .lt 51 :: .aload 0 :: .aload 0 :: .getfield 662 :: .sipush 5 :: .iload 5 :: .imul :: .sipush 2 :: .iadd :: .iaload :: .iload 1 :: .invokeinterface 147 3 :: .ifCond .eq 51 :: bk_RM_isNot_49
def bk_RM_isNot_0 : List Instr := .sipush 0 :: .istore 4 :: .sipush 0 :: .istore 5 :: bk_RM_isNot_4
def bk_RM_there_30 : List Instr := .ireturn :: []
def bk_RM_there_29 : List Instr := .sipush 0 :: bk_RM_there_30
def bk_RM_there_21 : List Instr := .aload 0 :: .iload 1 :: .iload 2 :: .iload 3 :: .invokeinterface 150 4 :: .ifCond .eq 29 :: .sipush 2 :: .goto 30 :: bk_RM_there_29
def bk_RM_there_13 : List Instr := .aload 0 :: .iload 1 :: .iload 2 :: .iload 3 :: .invokeinterface 149 4 :: .ifCond .eq 21 :: .sipush 1 :: .goto 30 :: bk_RM_there_21
def bk_RM_there_11 : List Instr := .sipush (-1) :: .ireturn :: bk_RM_there_13
def bk_RM_there_0 : List Instr := .aload 0 :: .iload 1 :: .invokeinterface 131 2 :: .ifCond .eq 11 :: .aload 0 :: .iload 2 :: .invokeinterface 130 2 :: .ifCond .eq 11 :: .iload 3 :: .invokeinterface 133 1 :: .ifCond .ne 13 :: bk_RM_there_11
def bk_RM_missed_93 : List Instr := .iload 2 :: .ireturn :: []
def bk_RM_missed_89 : List Instr := .ior :: .istore 2 :: .iinc 3 1 :: .goto 12 :: bk_RM_missed_93
def bk_RM_missed_88 : List Instr := .sipush 0 :: bk_RM_missed_89
def bk_RM_missed_83 : List Instr := .if_icmp .ne 88 :: .sipush 1 :: .iload 3 :: .ishl :: .goto 89 :: bk_RM_missed_88
def bk_RM_missed_82 : List Instr := .sipush 0 :: bk_RM_missed_83
def bk_RM_missed_55 : List Instr := .istore 4 :: .iload 2 :: .iload 4 :: .ifCond .eq 88 :: .aload 0 :: .aload 0 :: .getfield 662 :: .sipush 5 :: .iload 3 :: .imul :: .sipush 2 :: .iadd :: .iaload :: .aload 0 :: .getfield 662 :: .sipush 5 :: .iload 3 :: .imul :: .sipush 3 :: .iadd :: .iaload :: .invokeinterface 147 3 :: .iload 1 :: .sipush 1 :: .if_icmp .ne 82 :: .sipush 1 :: .goto 83 :: bk_RM_missed_82
def bk_RM_missed_54 : List Instr := .sipush 0 :: bk_RM_missed_55
def bk_RM_missed_12 : List Instr := .iload 3 :: .aload 0 :: .getfield 661 :: .sipush 0 :: .iaload :: .if_icmp .ge 93 :: .aload 0 :: .getfield 662 :: .sipush 5 :: .iload 3 :: .imul :: .sipush 4 :: .iadd :: .iaload :: .ifCond .ne 54 :: .aload 0 :: .aload 0 :: .getfield 662 :: .sipush 5 :: .iload 3 :: .imul :: .sipush 3 :: .iadd :: .iaload :: .aload 0 :: .getfield 662 :: .sipush 5 :: .iload 3 :: .imul :: .iaload :: .aload 0 :: .getfield 662 :: .sipush 5 :: .iload 3 :: .imul :: .sipush 1 :: .iadd :: .iaload :: .invokeinterface 149 4 :: .ifCond .eq 54 :: .sipush 1 :: .goto 55 :: bk_RM_missed_54
def bk_RM_missed_8 : List Instr := .sipush 0 :: .istore 2 :: .sipush 0 :: .istore 3 :: bk_RM_missed_12
def bk_RM_missed_0 : List Instr := .iload 1 :: .i2l :: .bipush 0 :: .bipush 1 :: .invokeinterface 117 3 :: .ifCond .ne 8 :: .sipush (-1) :: .ireturn :: bk_RM_missed_8
def bk_RM_isGainsaid_25 : List Instr := .areturn :: []
def bk_RM_isGainsaid_24 : List Instr := .sipush 0 :: bk_RM_isGainsaid_25
def bk_RM_isGainsaid_0 : List Instr := .aload 0 :: .getfield 655 :: .iload 2 :: .iaload :: .ifCond .lt 24 :: .aload 0 :: .aload 0 :: .getfield 651 :: .sipush 5 :: .iload 1 :: .imul :: .iaload :: .aload 0 :: .getfield 655 :: .iload 2 :: .iaload :: .aload 0 :: .getfield 656 :: .iload 2 :: .iaload :: .invokeinterface 150 4 :: .ifCond .eq 24 :: .sipush 1 :: .goto 25 :: bk_RM_isGainsaid_24
def bk_RM_leftOf_29 : List Instr := .iload 2 :: .ireturn :: []
def bk_RM_leftOf_25 : List Instr := .iadd :: .istore 2 :: .iinc 3 1 :: .goto 6 :: bk_RM_leftOf_29
def bk_RM_leftOf_24 : List Instr := .sipush 1 :: bk_RM_leftOf_25
def bk_RM_leftOf_6 : List Instr := .iload 3 :: .sipush 110 :: .iload 1 :: .imul :: .aload 0 :: .getfield 654 :: .iload 1 :: .iaload :: .iadd :: .if_icmp .ge 29 :: .iload 2 :: .aload 0 :: .iload 1 :: .iload 3 :: .invokeinterface 153 3 :: .ifCond .eq 24 :: .sipush 0 :: .goto 25 :: bk_RM_leftOf_24
def bk_RM_leftOf_0 : List Instr := .sipush 0 :: .istore 2 :: .sipush 110 :: .iload 1 :: .imul :: .istore 3 :: bk_RM_leftOf_6
def bk_RM_left_9 : List Instr := .ireturn :: []
def bk_RM_left_8 : List Instr := .sipush (-1) :: bk_RM_left_9
def bk_RM_left_0 : List Instr := .aload 0 :: .iload 1 :: .invokeinterface 132 2 :: .ifCond .eq 8 :: .aload 0 :: .iload 1 :: .invokeinterface 154 2 :: .goto 9 :: bk_RM_left_8
def bk_RM_hopeOf_63 : List Instr := .lload 5 :: .lreturn :: []
def bk_RM_hopeOf_59 : List Instr := .ladd :: .lstore 5 :: .iinc 7 1 :: .goto 4 :: bk_RM_hopeOf_63
def bk_RM_hopeOf_36 : List Instr := .aload 0 :: .getfield 649 :: .sipush 4 :: .iload 8 :: .imul :: .sipush 3 :: .iadd :: .iaload :: .i2l :: .aload 0 :: .iload 7 :: .iload 1 :: .iload 2 :: .sipush 0 :: .iload 3 :: .sipush 1 :: .invokeinterface 138 7 :: .i2l :: .lmul :: .bipush 1000000 :: .lmul :: .lload 9 :: .ldiv :: bk_RM_hopeOf_59
def bk_RM_hopeOf_28 : List Instr := .lstore 9 :: .lload 5 :: .lload 9 :: .bipush 0 :: .lcmp :: .ifCond .ne 36 :: .bipush 0 :: .goto 59 :: bk_RM_hopeOf_36
def bk_RM_hopeOf_27 : List Instr := .bipush 0 :: bk_RM_hopeOf_28
def bk_RM_hopeOf_4 : List Instr := .iload 7 :: .aload 0 :: .getfield 650 :: .sipush 0 :: .iaload :: .if_icmp .ge 63 :: .aload 0 :: .getfield 651 :: .sipush 5 :: .iload 7 :: .imul :: .iaload :: .istore 8 :: .aload 0 :: .iload 4 :: .iload 8 :: .invokeinterface 147 3 :: .ifCond .eq 27 :: .aload 0 :: .iload 7 :: .invokeinterface 154 2 :: .i2l :: .goto 28 :: bk_RM_hopeOf_27
def bk_RM_hopeOf_0 : List Instr := .bipush 0 :: .lstore 5 :: .sipush 0 :: .istore 7 :: bk_RM_hopeOf_4
def bk_RM_areEyes_0 : List Instr := .iload 0 :: .i2l :: .bipush 0 :: .bipush 9 :: .invokeinterface 117 3 :: .areturn :: []
def bk_RM_hope_25 : List Instr := .lreturn :: []
def bk_RM_hope_24 : List Instr := .bipush (-1) :: bk_RM_hope_25
def bk_RM_hope_0 : List Instr := .aload 0 :: .iload 1 :: .invokeinterface 130 2 :: .ifCond .eq 24 :: .aload 0 :: .iload 2 :: .invokeinterface 130 2 :: .ifCond .eq 24 :: .iload 1 :: .iload 2 :: .if_icmp .gt 24 :: .iload 3 :: .invokeinterface 133 1 :: .ifCond .eq 24 :: .iload 4 :: .invokeinterface 157 1 :: .ifCond .eq 24 :: .aload 0 :: .iload 1 :: .iload 2 :: .iload 3 :: .iload 4 :: .invokeinterface 156 5 :: .goto 25 :: bk_RM_hope_24
def bk_RM_walk_73 : List Instr := .lreturn :: []
def bk_RM_walk_72 : List Instr := .lload 6 :: bk_RM_walk_73
def bk_RM_walk_67 : List Instr := .iload 4 :: .ifCond .ne 72 :: .iload 5 :: .i2l :: .goto 73 :: bk_RM_walk_72
def bk_RM_walk_64 : List Instr := .lstore 6 :: .iinc 8 1 :: .goto 30 :: bk_RM_walk_67
def bk_RM_walk_63 : List Instr := .lload 6 :: bk_RM_walk_64
def bk_RM_walk_56 : List Instr := .istore 5 :: .lload 9 :: .lload 6 :: .lcmp :: .ifCond .le 63 :: .lload 9 :: .goto 64 :: bk_RM_walk_63
def bk_RM_walk_55 : List Instr := .iload 5 :: bk_RM_walk_56
def bk_RM_walk_30 : List Instr := .iload 8 :: .iload 1 :: .iadd :: .aload 0 :: .getfield 643 :: .sipush 0 :: .iaload :: .if_icmp .gt 67 :: .aload 0 :: .iload 8 :: .iload 8 :: .iload 1 :: .iadd :: .sipush 1 :: .isub :: .iload 2 :: .iload 3 :: .invokeinterface 156 5 :: .lstore 9 :: .lload 9 :: .lload 6 :: .lcmp :: .ifCond .le 55 :: .iload 8 :: .goto 56 :: bk_RM_walk_55
def bk_RM_walk_24 : List Instr := .sipush 0 :: .istore 5 :: .bipush (-1) :: .lstore 6 :: .sipush 0 :: .istore 8 :: bk_RM_walk_30
def bk_RM_walk_22 : List Instr := .bipush (-1) :: .lreturn :: bk_RM_walk_24
def bk_RM_walk_0 : List Instr := .iload 1 :: .i2l :: .bipush 1 :: .aload 0 :: .getfield 643 :: .sipush 0 :: .iaload :: .i2l :: .invokeinterface 117 3 :: .ifCond .eq 22 :: .iload 2 :: .invokeinterface 133 1 :: .ifCond .eq 22 :: .iload 3 :: .invokeinterface 157 1 :: .ifCond .eq 22 :: .iload 4 :: .i2l :: .bipush 0 :: .bipush 1 :: .invokeinterface 117 3 :: .ifCond .ne 24 :: bk_RM_walk_22
def bk_RM_walks_171 : List Instr := .lreturn :: []
def bk_RM_walks_166 : List Instr := .aload 0 :: .getfield 669 :: .iload 5 :: .iaload :: .i2l :: bk_RM_walks_171
def bk_RM_walks_162 : List Instr := .iload 5 :: .ifCond .ge 166 :: .lload 6 :: .goto 171 :: bk_RM_walks_166
def bk_RM_walks_160 : List Instr := .bipush (-4) :: .goto 171 :: bk_RM_walks_162
def bk_RM_walks_153 : List Instr := .lload 6 :: .bipush 0 :: .lcmp :: .ifCond .lt 160 :: .iload 5 :: .iload 2 :: .if_icmp .lt 162 :: bk_RM_walks_160
def bk_RM_walks_151 : List Instr := .iinc 9 1 :: .goto 64 :: bk_RM_walks_153
def bk_RM_walks_149 : List Instr := .iinc 10 1 :: .goto 76 :: bk_RM_walks_151
def bk_RM_walks_147 : List Instr := .iinc 11 1 :: .goto 93 :: bk_RM_walks_149
def bk_RM_walks_124 : List Instr := .ladd :: .lstore 12 :: .lload 12 :: .lload 6 :: .lcmp :: .ifCond .le 147 :: .lload 12 :: .lstore 6 :: .aload 0 :: .getfield 669 :: .sipush 0 :: .iload 9 :: .iastore :: .aload 0 :: .getfield 669 :: .sipush 1 :: .iload 10 :: .iastore :: .aload 0 :: .getfield 669 :: .sipush 2 :: .iload 11 :: .iastore :: bk_RM_walks_147
def bk_RM_walks_123 : List Instr := .bipush 0 :: bk_RM_walks_124
def bk_RM_walks_114 : List Instr := .ladd :: .iload 2 :: .sipush 2 :: .if_icmp .le 123 :: .aload 0 :: .getfield 675 :: .iload 11 :: .laload :: .goto 124 :: bk_RM_walks_123
def bk_RM_walks_113 : List Instr := .bipush 0 :: bk_RM_walks_114
def bk_RM_walks_100 : List Instr := .if_icmp .gt 149 :: .aload 0 :: .getfield 675 :: .iload 9 :: .laload :: .iload 2 :: .sipush 1 :: .if_icmp .le 113 :: .aload 0 :: .getfield 675 :: .iload 10 :: .laload :: .goto 114 :: bk_RM_walks_113
def bk_RM_walks_99 : List Instr := .sipush 0 :: bk_RM_walks_100
def bk_RM_walks_93 : List Instr := .iload 11 :: .iload 2 :: .sipush 2 :: .if_icmp .le 99 :: .iload 8 :: .goto 100 :: bk_RM_walks_99
def bk_RM_walks_92 : List Instr := .istore 11 :: bk_RM_walks_93
def bk_RM_walks_91 : List Instr := .sipush 0 :: bk_RM_walks_92
def bk_RM_walks_83 : List Instr := .if_icmp .gt 151 :: .iload 2 :: .sipush 2 :: .if_icmp .le 91 :: .iload 10 :: .iload 1 :: .iadd :: .goto 92 :: bk_RM_walks_91
def bk_RM_walks_82 : List Instr := .sipush 0 :: bk_RM_walks_83
def bk_RM_walks_76 : List Instr := .iload 10 :: .iload 2 :: .sipush 1 :: .if_icmp .le 82 :: .iload 8 :: .goto 83 :: bk_RM_walks_82
def bk_RM_walks_75 : List Instr := .istore 10 :: bk_RM_walks_76
def bk_RM_walks_74 : List Instr := .sipush 0 :: bk_RM_walks_75
def bk_RM_walks_64 : List Instr := .iload 9 :: .iload 8 :: .if_icmp .gt 153 :: .iload 2 :: .sipush 1 :: .if_icmp .le 74 :: .iload 9 :: .iload 1 :: .iadd :: .goto 75 :: bk_RM_walks_74
def bk_RM_walks_53 : List Instr := .bipush (-1) :: .lstore 6 :: .aload 0 :: .getfield 643 :: .sipush 0 :: .iaload :: .iload 1 :: .isub :: .istore 8 :: .sipush 0 :: .istore 9 :: bk_RM_walks_64
def bk_RM_walks_29 : List Instr := .iload 6 :: .iload 1 :: .iadd :: .aload 0 :: .getfield 643 :: .sipush 0 :: .iaload :: .if_icmp .gt 53 :: .aload 0 :: .getfield 675 :: .iload 6 :: .aload 0 :: .iload 6 :: .iload 6 :: .iload 1 :: .iadd :: .sipush 1 :: .isub :: .iload 3 :: .iload 4 :: .invokeinterface 156 5 :: .lastore :: .iinc 6 1 :: .goto 29 :: bk_RM_walks_53
def bk_RM_walks_27 : List Instr := .sipush 0 :: .istore 6 :: bk_RM_walks_29
def bk_RM_walks_25 : List Instr := .bipush (-1) :: .lreturn :: bk_RM_walks_27
def bk_RM_walks_0 : List Instr := .iload 1 :: .i2l :: .bipush 1 :: .aload 0 :: .getfield 643 :: .sipush 0 :: .iaload :: .i2l :: .invokeinterface 117 3 :: .ifCond .eq 25 :: .iload 2 :: .i2l :: .bipush 1 :: .bipush 3 :: .invokeinterface 117 3 :: .ifCond .eq 25 :: .iload 3 :: .invokeinterface 133 1 :: .ifCond .eq 25 :: .iload 4 :: .invokeinterface 157 1 :: .ifCond .eq 25 :: .iload 5 :: .sipush (-1) :: .if_icmp .ge 27 :: bk_RM_walks_25
def bk_RM_number_34 : List Instr := .aload 0 :: .getfield 664 :: .aload 0 :: .getfield 663 :: .sipush 0 :: .iaload :: .iload 1 :: .iastore :: .aload 0 :: .getfield 663 :: .sipush 0 :: .dup2 :: .iaload :: .sipush 1 :: .iadd :: .iastore :: .aload 0 :: .getfield 663 :: .sipush 0 :: .iaload :: .ireturn :: []
def bk_RM_number_26 : List Instr := .aload 0 :: .getfield 663 :: .sipush 0 :: .iaload :: .sipush 20 :: .if_icmp .ne 34 :: .sipush (-3) :: .ireturn :: bk_RM_number_34
def bk_RM_number_24 : List Instr := .iinc 2 1 :: .goto 10 :: bk_RM_number_26
def bk_RM_number_10 : List Instr := .iload 2 :: .aload 0 :: .getfield 663 :: .sipush 0 :: .iaload :: .if_icmp .ge 26 :: .aload 0 :: .getfield 664 :: .iload 2 :: .iaload :: .iload 1 :: .if_icmp .ne 24 :: .sipush (-2) :: .ireturn :: bk_RM_number_24
def bk_RM_number_8 : List Instr := .sipush 0 :: .istore 2 :: bk_RM_number_10
def bk_RM_number_0 : List Instr := .iload 1 :: .i2l :: .bipush 1 :: .bipush 9999 :: .invokeinterface 117 3 :: .ifCond .ne 8 :: .sipush (-1) :: .ireturn :: bk_RM_number_8
def bk_RM_greatest_25 : List Instr := .iload 1 :: .ireturn :: []
def bk_RM_greatest_22 : List Instr := .istore 1 :: .iinc 2 1 :: .goto 4 :: bk_RM_greatest_25
def bk_RM_greatest_21 : List Instr := .iload 1 :: bk_RM_greatest_22
def bk_RM_greatest_4 : List Instr := .iload 2 :: .aload 0 :: .getfield 663 :: .sipush 0 :: .iaload :: .if_icmp .ge 25 :: .aload 0 :: .getfield 664 :: .iload 2 :: .iaload :: .iload 1 :: .if_icmp .le 21 :: .aload 0 :: .getfield 664 :: .iload 2 :: .iaload :: .goto 22 :: bk_RM_greatest_21
def bk_RM_greatest_0 : List Instr := .sipush 0 :: .istore 1 :: .sipush 0 :: .istore 2 :: bk_RM_greatest_4
def bk_RM_lowest_17 : List Instr := .aload 0 :: .lload 1 :: .lload 5 :: .ldiv :: .putfield 672 :: .aload 0 :: .lload 3 :: .lload 5 :: .ldiv :: .putfield 673 :: .return_ :: []
def bk_RM_lowest_4 : List Instr := .lload 7 :: .bipush 0 :: .lcmp :: .ifCond .eq 17 :: .lload 5 :: .lload 7 :: .lrem :: .lstore 9 :: .lload 7 :: .lstore 5 :: .lload 9 :: .lstore 7 :: .goto 4 :: bk_RM_lowest_17
def bk_RM_lowest_0 : List Instr := .lload 1 :: .lstore 5 :: .lload 3 :: .lstore 7 :: bk_RM_lowest_4
def bk_RM_fell_48 : List Instr := .l2i :: .ireturn :: []
def bk_RM_fell_46 : List Instr := .aload 0 :: .getfield 673 :: bk_RM_fell_48
def bk_RM_fell_40 : List Instr := .iload 1 :: .sipush 1 :: .if_icmp .ne 46 :: .aload 0 :: .getfield 672 :: .goto 48 :: bk_RM_fell_46
def bk_RM_fell_17 : List Instr := .aload 0 :: .invokeinterface 162 1 :: .istore 3 :: .aload 0 :: .iload 3 :: .i2l :: .iload 2 :: .i2l :: .lmul :: .iload 3 :: .i2l :: .ladd :: .iload 2 :: .i2l :: .lsub :: .iload 2 :: .i2l :: .invokeinterface 163 3 :: .iload 1 :: .ifCond .ne 40 :: .iload 3 :: .i2l :: .goto 48 :: bk_RM_fell_40
def bk_RM_fell_8 : List Instr := .aload 0 :: .getfield 663 :: .sipush 0 :: .iaload :: .istore 2 :: .iload 2 :: .ifCond .ne 17 :: .sipush (-2) :: .ireturn :: bk_RM_fell_17
def bk_RM_fell_0 : List Instr := .iload 1 :: .i2l :: .bipush 0 :: .bipush 2 :: .invokeinterface 117 3 :: .ifCond .ne 8 :: .sipush (-1) :: .ireturn :: bk_RM_fell_8
def bk_RM_most_44 : List Instr := .iload 6 :: .ireturn :: []
def bk_RM_most_35 : List Instr := .aload 0 :: .iload 3 :: .iload 6 :: .invokeinterface 166 3 :: .lload 4 :: .lcmp :: .ifCond .ge 44 :: .iinc 6 (-1) :: .goto 35 :: bk_RM_most_44
def bk_RM_most_22 : List Instr := .aload 0 :: .invokeinterface 162 1 :: .istore 3 :: .bipush 1000000000 :: .iload 1 :: .i2l :: .lmul :: .iload 2 :: .i2l :: .ldiv :: .lstore 4 :: .sipush 99999 :: .istore 6 :: bk_RM_most_35
def bk_RM_most_15 : List Instr := .aload 0 :: .getfield 663 :: .sipush 0 :: .iaload :: .ifCond .ne 22 :: .sipush (-2) :: .ireturn :: bk_RM_most_22
def bk_RM_most_13 : List Instr := .sipush (-1) :: .ireturn :: bk_RM_most_15
def bk_RM_most_0 : List Instr := .iload 1 :: .i2l :: .bipush 1 :: .bipush 1000 :: .invokeinterface 117 3 :: .ifCond .eq 13 :: .iload 2 :: .i2l :: .iload 1 :: .i2l :: .bipush 1000 :: .invokeinterface 117 3 :: .ifCond .ne 15 :: bk_RM_most_13
def bk_RM_odds_24 : List Instr := .lload 3 :: .lreturn :: []
def bk_RM_odds_4 : List Instr := .iload 5 :: .aload 0 :: .getfield 663 :: .sipush 0 :: .iaload :: .if_icmp .ge 24 :: .lload 3 :: .iload 1 :: .iload 5 :: .isub :: .i2l :: .lmul :: .iload 2 :: .iload 5 :: .isub :: .i2l :: .ldiv :: .lstore 3 :: .iinc 5 1 :: .goto 4 :: bk_RM_odds_24
def bk_RM_odds_0 : List Instr := .bipush 1000000000 :: .lstore 3 :: .sipush 0 :: .istore 5 :: bk_RM_odds_4
def bk_RM_worn_15 : List Instr := .ireturn :: []
def bk_RM_worn_14 : List Instr := .iload 2 :: bk_RM_worn_15
def bk_RM_worn_0 : List Instr := .iload 0 :: .iload 0 :: .iload 1 :: .imul :: .sipush 100 :: .idiv :: .isub :: .sipush 1 :: .isub :: .istore 2 :: .iload 2 :: .ifCond .ge 14 :: .sipush 0 :: .goto 15 :: bk_RM_worn_14
def bk_RM_isGlass_15 : List Instr := .areturn :: []
def bk_RM_isGlass_14 : List Instr := .sipush 0 :: bk_RM_isGlass_15
def bk_RM_isGlass_0 : List Instr := .iload 0 :: .i2l :: .bipush 1 :: .bipush 999 :: .invokeinterface 117 3 :: .ifCond .eq 14 :: .iload 1 :: .i2l :: .bipush 0 :: .bipush 99 :: .invokeinterface 117 3 :: .ifCond .eq 14 :: .sipush 1 :: .goto 15 :: bk_RM_isGlass_14
def bk_RM_glass_25 : List Instr := .iload 4 :: .ireturn :: []
def bk_RM_glass_16 : List Instr := .iload 5 :: .iload 3 :: .if_icmp .ge 25 :: .iload 4 :: .iload 2 :: .invokeinterface 167 2 :: .istore 4 :: .iinc 5 1 :: .goto 16 :: bk_RM_glass_25
def bk_RM_glass_12 : List Instr := .iload 1 :: .istore 4 :: .sipush 0 :: .istore 5 :: bk_RM_glass_16
def bk_RM_glass_10 : List Instr := .sipush (-1) :: .ireturn :: bk_RM_glass_12
def bk_RM_glass_0 : List Instr := .iload 1 :: .iload 2 :: .invokeinterface 168 2 :: .ifCond .eq 10 :: .iload 3 :: .i2l :: .bipush 0 :: .bipush 99 :: .invokeinterface 117 3 :: .ifCond .ne 12 :: bk_RM_glass_10
def bk_RM_life_18 : List Instr := .iload 4 :: .ireturn :: []
def bk_RM_life_10 : List Instr := .iload 3 :: .ifCond .le 18 :: .iload 3 :: .iload 2 :: .invokeinterface 167 2 :: .istore 3 :: .iinc 4 1 :: .goto 10 :: bk_RM_life_18
def bk_RM_life_6 : List Instr := .iload 1 :: .istore 3 :: .sipush 0 :: .istore 4 :: bk_RM_life_10
def bk_RM_life_0 : List Instr := .iload 1 :: .iload 2 :: .invokeinterface 168 2 :: .ifCond .ne 6 :: .sipush (-1) :: .ireturn :: bk_RM_life_6
def bk_RM_holds_91 : List Instr := .iload 5 :: .areturn :: []
def bk_RM_holds_88 : List Instr := .istore 5 :: .iinc 6 1 :: .goto 4 :: bk_RM_holds_91
def bk_RM_holds_87 : List Instr := .sipush 0 :: bk_RM_holds_88
def bk_RM_holds_85 : List Instr := .sipush 1 :: .goto 88 :: bk_RM_holds_87
def bk_RM_holds_82 : List Instr := .iload 8 :: .iload 9 :: .if_icmp .le 87 :: bk_RM_holds_85
def bk_RM_holds_48 : List Instr := .istore 8 :: .aload 0 :: .getfield 653 :: .sipush 13 :: .iload 1 :: .imul :: .sipush 3 :: .iadd :: .sipush 3 :: .iload 6 :: .imul :: .iadd :: .iaload :: .istore 9 :: .iload 5 :: .ifCond .eq 87 :: .aload 0 :: .getfield 653 :: .sipush 13 :: .iload 1 :: .imul :: .sipush 2 :: .iadd :: .sipush 3 :: .iload 6 :: .imul :: .iadd :: .iaload :: .sipush 60 :: .if_icmp .ne 82 :: .iload 8 :: .iload 9 :: .if_icmp .ge 87 :: .goto 85 :: bk_RM_holds_82
def bk_RM_holds_47 : List Instr := .iload 4 :: bk_RM_holds_48
def bk_RM_holds_42 : List Instr := .iload 7 :: .sipush 99 :: .if_icmp .ne 47 :: .iload 3 :: .goto 48 :: bk_RM_holds_47
def bk_RM_holds_37 : List Instr := .iload 7 :: .sipush 107 :: .if_icmp .ne 42 :: .iload 2 :: .goto 48 :: bk_RM_holds_42
def bk_RM_holds_4 : List Instr := .iload 6 :: .aload 0 :: .getfield 653 :: .sipush 13 :: .iload 1 :: .imul :: .iaload :: .if_icmp .ge 91 :: .aload 0 :: .getfield 653 :: .sipush 13 :: .iload 1 :: .imul :: .sipush 1 :: .iadd :: .sipush 3 :: .iload 6 :: .imul :: .iadd :: .iaload :: .istore 7 :: .iload 7 :: .sipush 119 :: .if_icmp .ne 37 :: .aload 0 :: .getfield 649 :: .sipush 4 :: .iload 2 :: .imul :: .sipush 3 :: .iadd :: .iaload :: .goto 48 :: bk_RM_holds_37
def bk_RM_holds_0 : List Instr := .sipush 1 :: .istore 5 :: .sipush 0 :: .istore 6 :: bk_RM_holds_4
def bk_RM_whose_75 : List Instr := .ireturn :: []
def bk_RM_whose_74 : List Instr := .sipush 0 :: bk_RM_whose_75
def bk_RM_whose_70 : List Instr := .iload 4 :: .ifCond .ne 74 :: .sipush 1 :: .goto 75 :: bk_RM_whose_74
def bk_RM_whose_68 : List Instr := .iinc 5 1 :: .goto 21 :: bk_RM_whose_70
def bk_RM_whose_67 : List Instr := .ireturn :: bk_RM_whose_68
def bk_RM_whose_48 : List Instr := .aload 0 :: .getfield 649 :: .sipush 4 :: .iload 1 :: .imul :: .sipush 3 :: .iadd :: .iaload :: .aload 0 :: .getfield 653 :: .sipush 13 :: .iload 5 :: .imul :: .sipush 12 :: .iadd :: .iaload :: .imul :: .sipush 100 :: .idiv :: bk_RM_whose_67
def bk_RM_whose_21 : List Instr := .iload 5 :: .aload 0 :: .getfield 652 :: .sipush 0 :: .iaload :: .if_icmp .ge 70 :: .aload 0 :: .iload 5 :: .iload 1 :: .iload 2 :: .iload 3 :: .invokeinterface 171 5 :: .ifCond .eq 68 :: .iload 4 :: .sipush 2 :: .if_icmp .ge 48 :: .aload 0 :: .getfield 653 :: .sipush 13 :: .iload 5 :: .imul :: .sipush 10 :: .iadd :: .iload 4 :: .iadd :: .iaload :: .goto 67 :: bk_RM_whose_48
def bk_RM_whose_19 : List Instr := .sipush 0 :: .istore 5 :: bk_RM_whose_21
def bk_RM_whose_17 : List Instr := .sipush (-1) :: .ireturn :: bk_RM_whose_19
def bk_RM_whose_0 : List Instr := .aload 0 :: .iload 1 :: .invokeinterface 131 2 :: .ifCond .eq 17 :: .aload 0 :: .iload 2 :: .invokeinterface 130 2 :: .ifCond .eq 17 :: .iload 3 :: .invokeinterface 133 1 :: .ifCond .eq 17 :: .iload 4 :: .i2l :: .bipush 0 :: .bipush 2 :: .invokeinterface 117 3 :: .ifCond .ne 19 :: bk_RM_whose_17
def bk_RM_two_110 : List Instr := .ireturn :: []
def bk_RM_two_109 : List Instr := .iload 8 :: bk_RM_two_110
def bk_RM_two_104 : List Instr := .iload 5 :: .sipush 2 :: .if_icmp .ne 109 :: .iload 7 :: .goto 110 :: bk_RM_two_109
def bk_RM_two_99 : List Instr := .iload 5 :: .sipush 1 :: .if_icmp .ne 104 :: .iload 6 :: .goto 110 :: bk_RM_two_104
def bk_RM_two_94 : List Instr := .istore 9 :: .iload 5 :: .ifCond .ne 99 :: .iload 9 :: .goto 110 :: bk_RM_two_99
def bk_RM_two_93 : List Instr := .sipush 0 :: bk_RM_two_94
def bk_RM_two_87 : List Instr := .iload 6 :: .iload 8 :: .iadd :: .ifCond .ne 93 :: .sipush 2 :: .goto 94 :: bk_RM_two_93
def bk_RM_two_81 : List Instr := .iload 7 :: .iload 8 :: .iadd :: .ifCond .ne 87 :: .sipush 1 :: .goto 94 :: bk_RM_two_87
def bk_RM_two_79 : List Instr := .iinc 9 1 :: .goto 36 :: bk_RM_two_81
def bk_RM_two_75 : List Instr := .iadd :: .istore 8 :: .iinc 10 1 :: .goto 45 :: bk_RM_two_79
def bk_RM_two_74 : List Instr := .sipush 0 :: bk_RM_two_75
def bk_RM_two_66 : List Instr := .iadd :: .istore 7 :: .iload 8 :: .iload 9 :: .iload 10 :: .if_icmp .ne 74 :: .sipush 1 :: .goto 75 :: bk_RM_two_74
def bk_RM_two_65 : List Instr := .sipush 0 :: bk_RM_two_66
def bk_RM_two_57 : List Instr := .iadd :: .istore 6 :: .iload 7 :: .iload 10 :: .iload 9 :: .if_icmp .ge 65 :: .sipush 1 :: .goto 66 :: bk_RM_two_65
def bk_RM_two_56 : List Instr := .sipush 0 :: bk_RM_two_57
def bk_RM_two_45 : List Instr := .iload 10 :: .iload 3 :: .iload 4 :: .iadd :: .if_icmp .gt 79 :: .iload 6 :: .iload 9 :: .iload 10 :: .if_icmp .ge 56 :: .sipush 1 :: .goto 57 :: bk_RM_two_56
def bk_RM_two_36 : List Instr := .iload 9 :: .iload 1 :: .iload 2 :: .iadd :: .if_icmp .gt 81 :: .iload 3 :: .iload 4 :: .isub :: .istore 10 :: bk_RM_two_45
def bk_RM_two_26 : List Instr := .sipush 0 :: .istore 6 :: .sipush 0 :: .istore 7 :: .sipush 0 :: .istore 8 :: .iload 1 :: .iload 2 :: .isub :: .istore 9 :: bk_RM_two_36
def bk_RM_two_24 : List Instr := .sipush (-1) :: .ireturn :: bk_RM_two_26
def bk_RM_two_0 : List Instr := .iload 1 :: .invokeinterface 133 1 :: .ifCond .eq 24 :: .iload 2 :: .i2l :: .bipush 0 :: .bipush 9 :: .invokeinterface 117 3 :: .ifCond .eq 24 :: .iload 3 :: .invokeinterface 133 1 :: .ifCond .eq 24 :: .iload 4 :: .i2l :: .bipush 0 :: .bipush 9 :: .invokeinterface 117 3 :: .ifCond .eq 24 :: .iload 5 :: .i2l :: .bipush 0 :: .bipush 3 :: .invokeinterface 117 3 :: .ifCond .ne 26 :: bk_RM_two_24
def bk_RM_isTest_0 : List Instr := .iload 0 :: .i2l :: .bipush 0 :: .bipush 5 :: .invokeinterface 117 3 :: .areturn :: []
def bk_RM_show_17 : List Instr := .aload 0 :: .getfield 665 :: .sipush 8 :: .iload 1 :: .imul :: .iload 2 :: .iadd :: .iaload :: .istore 4 :: .aload 0 :: .getfield 665 :: .sipush 8 :: .iload 1 :: .imul :: .iload 2 :: .iadd :: .iload 3 :: .iastore :: .iload 4 :: .ireturn :: []
def bk_RM_show_15 : List Instr := .sipush (-1) :: .ireturn :: bk_RM_show_17
def bk_RM_show_0 : List Instr := .iload 1 :: .invokeinterface 174 1 :: .ifCond .eq 15 :: .iload 2 :: .i2l :: .bipush 0 :: .bipush 7 :: .invokeinterface 117 3 :: .ifCond .eq 15 :: .iload 3 :: .i2l :: .bipush 0 :: .bipush 3 :: .invokeinterface 117 3 :: .ifCond .ne 17 :: bk_RM_show_15
def bk_RM_cost_11 : List Instr := .aload 0 :: .getfield 666 :: .iload 1 :: .iaload :: .istore 3 :: .aload 0 :: .getfield 666 :: .iload 1 :: .iload 2 :: .iastore :: .iload 3 :: .ireturn :: []
def bk_RM_cost_9 : List Instr := .sipush (-1) :: .ireturn :: bk_RM_cost_11
def bk_RM_cost_0 : List Instr := .iload 1 :: .invokeinterface 174 1 :: .ifCond .eq 9 :: .iload 2 :: .i2l :: .bipush 1 :: .bipush 99 :: .invokeinterface 117 3 :: .ifCond .ne 11 :: bk_RM_cost_9
def bk_RM_shownOf_34 : List Instr := .iload 4 :: .ireturn :: []
def bk_RM_shownOf_30 : List Instr := .ior :: .istore 4 :: .iinc 5 1 :: .goto 4 :: bk_RM_shownOf_34
def bk_RM_shownOf_29 : List Instr := .sipush 0 :: bk_RM_shownOf_30
def bk_RM_shownOf_4 : List Instr := .iload 5 :: .sipush 8 :: .if_icmp .ge 34 :: .iload 4 :: .iload 1 :: .iload 5 :: .ishr :: .sipush 1 :: .iand :: .sipush 1 :: .if_icmp .ne 29 :: .aload 0 :: .getfield 665 :: .sipush 8 :: .iload 2 :: .imul :: .iload 5 :: .iadd :: .iaload :: .iload 3 :: .if_icmp .ne 29 :: .sipush 1 :: .iload 5 :: .ishl :: .goto 30 :: bk_RM_shownOf_29
def bk_RM_shownOf_0 : List Instr := .sipush 0 :: .istore 4 :: .sipush 0 :: .istore 5 :: bk_RM_shownOf_4
def bk_RM_byTest_46 : List Instr := .ireturn :: []
def bk_RM_byTest_40 : List Instr := .aload 0 :: .getfield 666 :: .iload 2 :: .iaload :: .iload 3 :: .iadd :: bk_RM_byTest_46
def bk_RM_byTest_35 : List Instr := .iload 3 :: .sipush 1000000 :: .if_icmp .ne 40 :: .sipush 1000000 :: .goto 46 :: bk_RM_byTest_40
def bk_RM_byTest_32 : List Instr := .istore 3 :: .iinc 4 1 :: .goto 4 :: bk_RM_byTest_35
def bk_RM_byTest_31 : List Instr := .iload 3 :: bk_RM_byTest_32
def bk_RM_byTest_18 : List Instr := .iload 5 :: .ifCond .eq 31 :: .aload 0 :: .getfield 670 :: .iload 5 :: .iaload :: .iload 3 :: .if_icmp .le 31 :: .aload 0 :: .getfield 670 :: .iload 5 :: .iaload :: .goto 32 :: bk_RM_byTest_31
def bk_RM_byTest_4 : List Instr := .iload 4 :: .sipush 4 :: .if_icmp .ge 35 :: .aload 0 :: .iload 1 :: .iload 2 :: .iload 4 :: .invokeinterface 177 4 :: .istore 5 :: .iload 5 :: .iload 1 :: .if_icmp .ne 18 :: .sipush 1000000 :: .ireturn :: bk_RM_byTest_18
def bk_RM_byTest_0 : List Instr := .sipush 0 :: .istore 3 :: .sipush 0 :: .istore 4 :: bk_RM_byTest_4
def bk_RM_parting_94 : List Instr := .ireturn :: []
def bk_RM_parting_90 : List Instr := .aload 0 :: .getfield 671 :: .iload 1 :: .iaload :: bk_RM_parting_94
def bk_RM_parting_83 : List Instr := .iload 2 :: .ifCond .ne 90 :: .aload 0 :: .getfield 670 :: .iload 1 :: .iaload :: .goto 94 :: bk_RM_parting_90
def bk_RM_parting_75 : List Instr := .aload 0 :: .getfield 670 :: .iload 1 :: .iaload :: .sipush 1000000 :: .if_icmp .ne 83 :: .sipush (-4) :: .goto 94 :: bk_RM_parting_83
def bk_RM_parting_73 : List Instr := .iinc 3 1 :: .goto 16 :: bk_RM_parting_75
def bk_RM_parting_71 : List Instr := .iinc 5 1 :: .goto 45 :: bk_RM_parting_73
def bk_RM_parting_45 : List Instr := .iload 5 :: .sipush 6 :: .if_icmp .ge 73 :: .iload 4 :: .ifCond .ne 73 :: .aload 0 :: .iload 3 :: .iload 5 :: .invokeinterface 178 3 :: .istore 6 :: .iload 6 :: .aload 0 :: .getfield 670 :: .iload 3 :: .iaload :: .if_icmp .ge 71 :: .aload 0 :: .getfield 670 :: .iload 3 :: .iload 6 :: .iastore :: .aload 0 :: .getfield 671 :: .iload 3 :: .iload 5 :: .iastore :: bk_RM_parting_71
def bk_RM_parting_37 : List Instr := .iastore :: .aload 0 :: .getfield 671 :: .iload 3 :: .sipush (-4) :: .iastore :: .sipush 0 :: .istore 5 :: bk_RM_parting_45
def bk_RM_parting_36 : List Instr := .sipush 1000000 :: bk_RM_parting_37
def bk_RM_parting_28 : List Instr := .istore 4 :: .aload 0 :: .getfield 670 :: .iload 3 :: .iload 4 :: .ifCond .eq 36 :: .sipush 0 :: .goto 37 :: bk_RM_parting_36
def bk_RM_parting_27 : List Instr := .sipush 0 :: bk_RM_parting_28
def bk_RM_parting_16 : List Instr := .iload 3 :: .iload 1 :: .if_icmp .gt 75 :: .iload 3 :: .iload 3 :: .sipush 1 :: .isub :: .iand :: .ifCond .ne 27 :: .sipush 1 :: .goto 28 :: bk_RM_parting_27
def bk_RM_parting_14 : List Instr := .sipush 1 :: .istore 3 :: bk_RM_parting_16
def bk_RM_parting_12 : List Instr := .sipush (-1) :: .ireturn :: bk_RM_parting_14
def bk_RM_parting_0 : List Instr := .iload 1 :: .i2l :: .bipush 1 :: .bipush 255 :: .invokeinterface 117 3 :: .ifCond .eq 12 :: .iload 2 :: .i2l :: .bipush 0 :: .bipush 1 :: .invokeinterface 117 3 :: .ifCond .ne 14 :: bk_RM_parting_12
def bk_RM_shown_22 : List Instr := .ireturn :: []
def bk_RM_shown_21 : List Instr := .sipush (-1) :: bk_RM_shown_22
def bk_RM_shown_0 : List Instr := .iload 1 :: .i2l :: .bipush 1 :: .bipush 255 :: .invokeinterface 117 3 :: .ifCond .eq 21 :: .iload 2 :: .invokeinterface 174 1 :: .ifCond .eq 21 :: .iload 3 :: .i2l :: .bipush 0 :: .bipush 3 :: .invokeinterface 117 3 :: .ifCond .eq 21 :: .aload 0 :: .iload 1 :: .iload 2 :: .iload 3 :: .invokeinterface 177 4 :: .goto 22 :: bk_RM_shown_21
def bk_RM_copies_85 : List Instr := .return_ :: []
def bk_RM_copies_83 : List Instr := .iinc 3 1 :: .goto 26 :: bk_RM_copies_85
def bk_RM_copies_64 : List Instr := .iload 3 :: .sipush 20 :: .if_icmp .ge 83 :: .aload 0 :: .getfield 664 :: .sipush 20 :: .iload 2 :: .imul :: .iload 3 :: .iadd :: .aload 0 :: .getfield 664 :: .sipush 20 :: .iload 1 :: .imul :: .iload 3 :: .iadd :: .iaload :: .iastore :: bk_RM_copies_83
def bk_RM_copies_26 : List Instr := .iload 3 :: .sipush 120 :: .if_icmp .ge 85 :: .aload 0 :: .getfield 662 :: .sipush 120 :: .iload 2 :: .imul :: .iload 3 :: .iadd :: .aload 0 :: .getfield 662 :: .sipush 120 :: .iload 1 :: .imul :: .iload 3 :: .iadd :: .iaload :: .iastore :: .iload 3 :: .sipush 36 :: .if_icmp .ge 64 :: .aload 0 :: .getfield 660 :: .sipush 36 :: .iload 2 :: .imul :: .iload 3 :: .iadd :: .aload 0 :: .getfield 660 :: .sipush 36 :: .iload 1 :: .imul :: .iload 3 :: .iadd :: .iaload :: .iastore :: bk_RM_copies_64
def bk_RM_copies_0 : List Instr := .aload 0 :: .getfield 659 :: .iload 2 :: .aload 0 :: .getfield 659 :: .iload 1 :: .iaload :: .iastore :: .aload 0 :: .getfield 661 :: .iload 2 :: .aload 0 :: .getfield 661 :: .iload 1 :: .iaload :: .iastore :: .aload 0 :: .getfield 663 :: .iload 2 :: .aload 0 :: .getfield 663 :: .iload 1 :: .iaload :: .iastore :: .sipush 0 :: .istore 3 :: bk_RM_copies_26
def bk_RM_keep_6 : List Instr := .aload 0 :: .dup :: .getfield 658 :: .sipush 1 :: .iadd :: .putfield 658 :: .aload 0 :: .sipush 0 :: .aload 0 :: .getfield 658 :: .invokeinterface 181 3 :: .aload 0 :: .getfield 658 :: .ireturn :: []
def bk_RM_keep_0 : List Instr := .aload 0 :: .getfield 658 :: .sipush 2 :: .if_icmp .ne 6 :: .sipush (-3) :: .ireturn :: bk_RM_keep_6
def bk_RM_back_5 : List Instr := .aload 0 :: .aload 0 :: .getfield 658 :: .sipush 0 :: .invokeinterface 181 3 :: .aload 0 :: .dup :: .getfield 658 :: .sipush 1 :: .isub :: .putfield 658 :: .aload 0 :: .getfield 658 :: .ireturn :: []
def bk_RM_back_0 : List Instr := .aload 0 :: .getfield 658 :: .ifCond .ne 5 :: .sipush (-2) :: .ireturn :: bk_RM_back_5
def bk_RM_count_68 : List Instr := .ireturn :: []
def bk_RM_count_67 : List Instr := .sipush (-1) :: bk_RM_count_68
def bk_RM_count_61 : List Instr := .iload 1 :: .sipush 8 :: .if_icmp .ne 67 :: .aload 0 :: .getfield 658 :: .goto 68 :: bk_RM_count_67
def bk_RM_count_55 : List Instr := .iload 1 :: .sipush 7 :: .if_icmp .ne 61 :: .aload 0 :: .getfield 640 :: .goto 68 :: bk_RM_count_61
def bk_RM_count_47 : List Instr := .iload 1 :: .sipush 6 :: .if_icmp .ne 55 :: .aload 0 :: .getfield 652 :: .sipush 0 :: .iaload :: .goto 68 :: bk_RM_count_55
def bk_RM_count_39 : List Instr := .iload 1 :: .sipush 5 :: .if_icmp .ne 47 :: .aload 0 :: .getfield 663 :: .sipush 0 :: .iaload :: .goto 68 :: bk_RM_count_47
def bk_RM_count_31 : List Instr := .iload 1 :: .sipush 4 :: .if_icmp .ne 39 :: .aload 0 :: .getfield 661 :: .sipush 0 :: .iaload :: .goto 68 :: bk_RM_count_39
def bk_RM_count_23 : List Instr := .iload 1 :: .sipush 3 :: .if_icmp .ne 31 :: .aload 0 :: .getfield 659 :: .sipush 0 :: .iaload :: .goto 68 :: bk_RM_count_31
def bk_RM_count_15 : List Instr := .iload 1 :: .sipush 2 :: .if_icmp .ne 23 :: .aload 0 :: .getfield 650 :: .sipush 0 :: .iaload :: .goto 68 :: bk_RM_count_23
def bk_RM_count_7 : List Instr := .iload 1 :: .sipush 1 :: .if_icmp .ne 15 :: .aload 0 :: .getfield 648 :: .sipush 0 :: .iaload :: .goto 68 :: bk_RM_count_15
def bk_RM_count_0 : List Instr := .iload 1 :: .ifCond .ne 7 :: .aload 0 :: .getfield 643 :: .sipush 0 :: .iaload :: .goto 68 :: bk_RM_count_7
def bk_JI_bitCount_0f7a4_0 : List Instr := .iload 0 :: .iload 0 :: .sipush 1 :: .iushr :: .sipush 1431655765 :: .iand :: .isub :: .istore 0 :: .iload 0 :: .sipush 858993459 :: .iand :: .iload 0 :: .sipush 2 :: .iushr :: .sipush 858993459 :: .iand :: .iadd :: .istore 0 :: .iload 0 :: .iload 0 :: .sipush 4 :: .iushr :: .iadd :: .sipush 252645135 :: .iand :: .istore 0 :: .iload 0 :: .iload 0 :: .sipush 8 :: .iushr :: .iadd :: .istore 0 :: .iload 0 :: .iload 0 :: .sipush 16 :: .iushr :: .iadd :: .istore 0 :: .iload 0 :: .sipush 63 :: .iand :: .ireturn :: []
def bk_JA_fill_d0a16_14 : List Instr := .return_ :: []
def bk_JA_fill_d0a16_5 : List Instr := .iload 3 :: .iload 4 :: .if_icmp .ge 14 :: .aload 0 :: .iload 3 :: .lload 1 :: .lastore :: .iinc 3 1 :: .goto 5 :: bk_JA_fill_d0a16_14
def bk_JA_fill_d0a16_0 : List Instr := .sipush 0 :: .istore 3 :: .aload 0 :: .arraylength :: .istore 4 :: bk_JA_fill_d0a16_5
def bk_JA_fill_53178_14 : List Instr := .return_ :: []
def bk_JA_fill_53178_5 : List Instr := .iload 2 :: .iload 3 :: .if_icmp .ge 14 :: .aload 0 :: .iload 2 :: .iload 1 :: .iastore :: .iinc 2 1 :: .goto 5 :: bk_JA_fill_53178_14
def bk_JA_fill_53178_0 : List Instr := .sipush 0 :: .istore 2 :: .aload 0 :: .arraylength :: .istore 3 :: bk_JA_fill_53178_5
def gb_progL : List (List Instr) := [bk_GL_law_0, bk_BE_init_0, bk_BE_worldsOf_0, bk_BE_readFrom_0, bk_BE_readItem_0, bk_BE_readNumbers_0, bk_BE_addCells_0, bk_BE_addTide_0, bk_BE_addWind_0, bk_BE_addKind_0, bk_BE_addLoss_0, bk_LA_init_0, bk_LA_forget_0, bk_LA_release_0, bk_LA_settle_0, bk_LA_howMany_0, bk_LW_init_0, bk_LW_readFrom_0, bk_LW_readConditions_0, bk_LW_readCondition_0, bk_LW_readOutcome_0, bk_LW_firstThatHolds_0, bk_LW_valueOf_0, bk_MA_init_0, bk_MA_solve_0, bk_MA_lowestFor_0, bk_MA_choiceOf_0, bk_OU_init_0, bk_OU_readReports_0, bk_OU_weigh_0, bk_OU_sumOver_0, bk_OU_weighStretches_0, bk_OU_bestStretch_0, bk_OU_joinStretches_0, bk_OU_sumFrom_0, bk_OU_beginOf_0, bk_SC_init_0, bk_SC_append_0, bk_SC_hasMore_0, bk_SC_peek_0, bk_SC_takeByte_0, bk_SC_take_0, bk_SC_takeNumber_0, bk_SH_init_0, bk_SH_clear_0, bk_SH_addKept_0, bk_SH_goBack_0, bk_SH_addFind_0, bk_SH_addReport_0, bk_SH_sawBy_0, bk_SH_sawNoneFrom_0, bk_SH_hasNumber_0, bk_SH_addNumber_0, bk_SH_greatestNumber_0, bk_SU_init_0, bk_SU_setShown_0, bk_SU_part_0, bk_SU_solve_0, bk_SU_leastCost_0, bk_SU_costThrough_0, bk_SU_firstTest_0, bk_WE_init_0, bk_WE_clear_0, bk_WE_addTide_0, bk_WE_addWind_0, bk_WE_makeRoom_0, bk_GB_init_0, bk_GB_write_0, bk_GB_wipe_0, bk_GB_fault_0, bk_GB_lay_0, bk_GB_layLaw_0, bk_GB_layBeach_0, bk_GB_drift_0, bk_GB_worlds_0, bk_GB_ashore_0, bk_GB_find_0, bk_GB_from_0, bk_GB_lossesBehind_0, bk_GB_parted_0, bk_GB_report_0, bk_GB_there_0, bk_GB_missed_0, bk_GB_left_0, bk_GB_hope_0, bk_GB_walk_0, bk_GB_walks_0, bk_GB_weighLosses_0, bk_GB_number_0, bk_GB_fell_0, bk_GB_most_0, bk_GB_greatestLikely_0, bk_GB_oddsOf_0, bk_GB_shortened_0, bk_GB_glass_0, bk_GB_life_0, bk_GB_isGlass_0, bk_GB_wornByAYear_0, bk_GB_whose_0, bk_GB_two_0, bk_GB_show_0, bk_GB_cost_0, bk_GB_parting_0, bk_GB_shown_0, bk_GB_keep_0, bk_GB_back_0, bk_GB_count_0, bk_GB_within_0, bk_GB_isHour_0, bk_GB_isEyes_0, bk_GB_isTest_0, bk_GB_isShown_0, bk_GB_isSet_0, bk_GB_isCell_0, bk_GB_isKind_0, bk_GB_isLoss_0, bk_RM_init_0, bk_RM_in_0, bk_RM_write_0, bk_RM_wipe_0, bk_RM_next_0, bk_RM_value_0, bk_RM_more_0, bk_RM_ends_0, bk_RM_item_0, bk_RM_kindItem_0, bk_RM_lossItem_0, bk_RM_ruleItem_0, bk_RM_fault_0, bk_RM_lay_0, bk_RM_isCell_0, bk_RM_isKind_0, bk_RM_isLoss_0, bk_RM_isHour_0, bk_RM_blows_0, bk_RM_drifts_0, bk_RM_drift_0, bk_RM_laysWorlds_0, bk_RM_counts_0, bk_RM_worlds_0, bk_RM_ashore_0, bk_RM_find_0, bk_RM_fromOf_0, bk_RM_from_0, bk_RM_parts_0, bk_RM_parted_0, bk_RM_report_0, bk_RM_sees_0, bk_RM_isOf_0, bk_RM_isThere_0, bk_RM_isNot_0, bk_RM_there_0, bk_RM_missed_0, bk_RM_isGainsaid_0, bk_RM_leftOf_0, bk_RM_left_0, bk_RM_hopeOf_0, bk_RM_areEyes_0, bk_RM_hope_0, bk_RM_walk_0, bk_RM_walks_0, bk_RM_number_0, bk_RM_greatest_0, bk_RM_lowest_0, bk_RM_fell_0, bk_RM_most_0, bk_RM_odds_0, bk_RM_worn_0, bk_RM_isGlass_0, bk_RM_glass_0, bk_RM_life_0, bk_RM_holds_0, bk_RM_whose_0, bk_RM_two_0, bk_RM_isTest_0, bk_RM_show_0, bk_RM_cost_0, bk_RM_shownOf_0, bk_RM_byTest_0, bk_RM_parting_0, bk_RM_shown_0, bk_RM_copies_0, bk_RM_keep_0, bk_RM_back_0, bk_RM_count_0, bk_JI_bitCount_0f7a4_0, bk_JA_fill_d0a16_0, bk_JA_fill_53178_0]
def gb_prog (m : Nat) : List Instr := gb_progL.getD m []
def gb_tgt (m t : Nat) : List Instr := (gb_prog m).drop t
/-- locals, kind (0 instance, 1 static, 2 constructor), class number and 1 (0 for a static one), arguments, frames, locals of the room -/
def gb_infL : List (Nat × Nat × Nat × Nat × Nat × Nat) := [(4, 1, 0, 1, 8, 177), (1, 2, 1, 1, 2, 43), (3, 0, 1, 2, 0, 0), (4, 0, 1, 2, 5, 109), (2, 0, 1, 2, 4, 88), (4, 0, 1, 3, 3, 65), (1, 0, 1, 1, 1, 22), (1, 0, 1, 1, 1, 22), (1, 0, 1, 1, 2, 46), (1, 0, 1, 1, 2, 42), (1, 0, 1, 1, 2, 42), (1, 2, 2, 1, 1, 23), (2, 0, 2, 1, 0, 0), (15, 0, 2, 6, 0, 0), (7, 0, 2, 3, 1, 34), (8, 0, 2, 6, 1, 22), (1, 2, 3, 1, 1, 23), (4, 0, 3, 2, 5, 112), (3, 0, 3, 2, 4, 90), (6, 0, 3, 3, 3, 65), (3, 0, 3, 2, 3, 65), (10, 0, 3, 5, 1, 24), (5, 1, 0, 5, 0, 0), (1, 2, 4, 1, 1, 23), (4, 0, 4, 2, 1, 24), (5, 0, 4, 3, 0, 0), (5, 0, 4, 2, 1, 24), (1, 2, 5, 1, 1, 23), (6, 0, 5, 3, 1, 23), (10, 0, 5, 5, 1, 23), (12, 0, 5, 5, 0, 0), (5, 0, 5, 4, 1, 31), (4, 0, 5, 2, 0, 0), (6, 0, 5, 4, 1, 25), (6, 0, 5, 4, 0, 0), (10, 0, 5, 5, 1, 25), (1, 2, 6, 1, 1, 23), (5, 0, 6, 3, 0, 0), (1, 0, 6, 1, 0, 0), (1, 0, 6, 1, 0, 0), (2, 0, 6, 1, 1, 20), (2, 0, 6, 2, 1, 20), (5, 0, 6, 2, 2, 41), (1, 2, 7, 1, 1, 23), (1, 0, 7, 1, 0, 0), (1, 0, 7, 1, 0, 0), (1, 0, 7, 1, 0, 0), (4, 0, 7, 4, 0, 0), (6, 0, 7, 6, 0, 0), (5, 0, 7, 4, 0, 0), (6, 0, 7, 5, 0, 0), (3, 0, 7, 2, 0, 0), (2, 0, 7, 2, 0, 0), (3, 0, 7, 1, 1, 23), (2, 2, 8, 1, 1, 23), (5, 0, 8, 4, 0, 0), (4, 0, 8, 4, 0, 0), (3, 0, 8, 2, 3, 71), (4, 0, 8, 2, 2, 48), (6, 0, 8, 3, 1, 23), (3, 0, 8, 2, 2, 48), (1, 2, 9, 1, 1, 23), (1, 0, 9, 1, 0, 0), (3, 0, 9, 3, 0, 0), (5, 0, 9, 4, 1, 22), (3, 0, 9, 2, 0, 0), (1, 2, 10, 1, 3, 63), (4, 0, 10, 3, 1, 24), (2, 0, 10, 1, 0, 0), (2, 0, 10, 2, 6, 135), (2, 0, 10, 2, 7, 156), (2, 0, 10, 1, 6, 135), (2, 0, 10, 1, 6, 132), (6, 0, 10, 6, 2, 42), (5, 0, 10, 3, 2, 60), (5, 0, 10, 5, 2, 60), (4, 0, 10, 4, 2, 43), (2, 0, 10, 2, 3, 83), (4, 0, 10, 2, 2, 60), (3, 0, 10, 2, 3, 83), (6, 0, 10, 6, 2, 43), (4, 0, 10, 4, 2, 43), (6, 0, 10, 2, 1, 24), (2, 0, 10, 2, 2, 60), (5, 0, 10, 5, 3, 82), (6, 0, 10, 5, 3, 82), (6, 0, 10, 6, 3, 82), (3, 0, 10, 2, 2, 60), (2, 0, 10, 2, 1, 22), (5, 0, 10, 2, 2, 45), (3, 0, 10, 3, 2, 52), (8, 1, 0, 3, 1, 25), (6, 1, 0, 3, 0, 0), (4, 1, 0, 3, 0, 0), (6, 0, 10, 4, 2, 44), (5, 0, 10, 3, 2, 44), (2, 1, 0, 2, 1, 22), (2, 1, 0, 2, 1, 23), (7, 0, 10, 5, 2, 53), (10, 0, 10, 6, 2, 42), (4, 0, 10, 4, 2, 42), (4, 0, 10, 3, 2, 42), (3, 0, 10, 3, 4, 93), (4, 0, 10, 4, 2, 42), (1, 0, 10, 1, 1, 20), (1, 0, 10, 1, 1, 20), (2, 0, 10, 2, 0, 0), (3, 1, 0, 3, 0, 0), (1, 1, 0, 1, 1, 22), (1, 1, 0, 1, 1, 22), (1, 1, 0, 1, 1, 22), (1, 1, 0, 1, 1, 22), (1, 1, 0, 1, 1, 22), (2, 0, 10, 2, 1, 22), (2, 0, 10, 2, 1, 22), (2, 0, 10, 2, 1, 22), (1, 2, 11, 1, 1, 23), (6, 1, 0, 3, 0, 0), (5, 0, 11, 3, 1, 25), (2, 0, 11, 1, 0, 0), (1, 0, 11, 1, 0, 0), (6, 0, 11, 3, 1, 25), (3, 0, 11, 3, 2, 50), (1, 0, 11, 1, 1, 20), (5, 0, 11, 1, 4, 98), (6, 0, 11, 1, 3, 72), (7, 0, 11, 1, 3, 72), (7, 0, 11, 1, 3, 72), (3, 0, 11, 2, 5, 122), (3, 0, 11, 2, 6, 144), (2, 0, 11, 2, 1, 25), (2, 0, 11, 2, 1, 25), (2, 0, 11, 2, 1, 25), (1, 1, 0, 1, 1, 25), (5, 0, 11, 3, 0, 0), (9, 0, 11, 5, 1, 25), (7, 0, 11, 6, 2, 53), (6, 0, 11, 2, 2, 53), (10, 0, 11, 7, 3, 70), (4, 0, 11, 3, 4, 99), (5, 0, 11, 5, 4, 99), (5, 0, 11, 4, 2, 46), (5, 0, 11, 2, 4, 99), (2, 0, 11, 2, 5, 123), (6, 0, 11, 1, 5, 123), (2, 0, 11, 2, 6, 148), (7, 0, 11, 6, 2, 46), (3, 0, 11, 3, 0, 0), (4, 0, 11, 4, 0, 0), (6, 0, 11, 4, 1, 23), (6, 0, 11, 4, 1, 23), (4, 0, 11, 4, 2, 48), (5, 0, 11, 2, 2, 48), (3, 0, 11, 3, 2, 48), (4, 0, 11, 2, 3, 70), (2, 0, 11, 2, 4, 93), (11, 0, 11, 5, 4, 99), (1, 1, 0, 1, 1, 25), (5, 0, 11, 5, 5, 129), (11, 0, 11, 5, 5, 129), (14, 0, 11, 6, 5, 129), (3, 0, 11, 2, 1, 25), (3, 0, 11, 1, 0, 0), (11, 0, 11, 3, 0, 0), (4, 0, 11, 2, 1, 30), (7, 0, 11, 3, 1, 25), (6, 0, 11, 3, 0, 0), (3, 1, 0, 2, 0, 0), (2, 1, 0, 2, 1, 25), (6, 0, 11, 4, 2, 46), (5, 0, 11, 3, 2, 46), (10, 0, 11, 5, 0, 0), (6, 0, 11, 5, 2, 46), (11, 0, 11, 6, 2, 45), (1, 1, 0, 1, 1, 25), (5, 0, 11, 4, 2, 45), (4, 0, 11, 3, 2, 45), (6, 0, 11, 4, 0, 0), (6, 0, 11, 3, 1, 25), (7, 0, 11, 3, 2, 50), (4, 0, 11, 4, 2, 45), (4, 0, 11, 3, 0, 0), (1, 0, 11, 1, 1, 23), (1, 0, 11, 1, 1, 23), (2, 0, 11, 2, 0, 0), (1, 1, 0, 1, 0, 0), (5, 1, 0, 2, 0, 0), (4, 1, 0, 2, 0, 0)]
def gb_inf (m : Nat) : Nat × Nat × Nat × Nat × Nat × Nat := gb_infL.getD m (0, 0, 0, 0, 0, 0)
end
section
/-! THE SMALL MACHINE: cells by their order of making, ints, longs and references apart; the script is .retAddr 0; .null is an unset local -/
abbrev gb_Pi : Type := List (Nat × Nat)
abbrev gb_Sg : Type := (Nat → Nat → Int32) × (Nat → Nat → Int64) × (Nat → Nat → Option Nat) × Nat × (Nat → Int32)
def gI (g : gb_Sg) (a k : Nat) : Int32 := g.1 a k
def gL (g : gb_Sg) (a k : Nat) : Int64 := g.2.1 a k
def gR (g : gb_Sg) (a k : Nat) : Option Nat := g.2.2.1 a k
def gN (g : gb_Sg) : Nat := g.2.2.2.1
def gX (g : gb_Sg) : Nat → Int32 := g.2.2.2.2
def sI (g : gb_Sg) (a k : Nat) (v : Int32) : gb_Sg := (fun x y => if x = a ∧ y = k then v else g.1 x y, g.2)
def sL (g : gb_Sg) (a k : Nat) (v : Int64) : gb_Sg := (g.1, fun x y => if x = a ∧ y = k then v else g.2.1 x y, g.2.2)
def sR (g : gb_Sg) (a k : Nat) (v : Option Nat) : gb_Sg := (g.1, g.2.1, fun x y => if x = a ∧ y = k then v else g.2.2.1 x y, g.2.2.2)
/-- a fresh cell's contents -/
def s0 (g : gb_Sg) (a : Nat) : gb_Sg := (fun x y => if x = a then 0 else g.1 x y, fun x y => if x = a then 0 else g.2.1 x y, fun x y => if x = a then none else g.2.2.1 x y, g.2.2.2)
/-- fresh cells a + 1 .. a + n, and a holds them -/
def s2 (g : gb_Sg) (a n : Nat) : gb_Sg := (fun x y => if a ≤ x ∧ x ≤ a + n then 0 else g.1 x y, fun x y => if a ≤ x ∧ x ≤ a + n then 0 else g.2.1 x y,
  fun x y => if x = a then (if y < n then some (a + 1 + y) else none) else if a ≤ x ∧ x ≤ a + n then none else g.2.2.1 x y, g.2.2.2)
def atag (p : gb_Pi) (a : Nat) : Nat := match p[a]? with
  | some q => q.1
  | none => 99
def alen (p : gb_Pi) (a : Nat) : Nat := match p[a]? with
  | some q => q.2
  | none => 0
def oob (i : Int32) (n : Nat) : Bool := decide (i < 0 ∨ n ≤ i.toNatClampNeg)
def ix (i : Int32) : Nat := i.toNatClampNeg
/-- the slots of all cells -/
def gb_msl (p : gb_Pi) : Nat := (p.map (fun q => q.2)).sum
def kil : Value → Value
  | .long _ => .null
  | .double _ => .null
  | v => v
def st1 : List Value → Nat → Value → List Value
  | [], _, _ => []
  | _ :: t, 0, v => v :: t
  | a :: t, 1, v => kil a :: st1 t 0 v
  | a :: t, k + 2, v => a :: st1 t (k + 1) v
def st2 : List Value → Nat → Value → List Value
  | [], _, _ => []
  | [_], _, _ => []
  | _ :: _ :: t, 0, v => v :: .null :: t
  | a :: b :: t, 1, v => kil a :: st2 (b :: t) 0 v
  | a :: b :: t, k + 2, v => a :: st2 (b :: t) (k + 1) v
def gb_cnd : ClassFile.Cond → Int32 → Int32 → Bool
  | .eq, x, y => decide (x = y)
  | .ne, x, y => decide (¬ x = y)
  | .lt, x, y => decide (x < y)
  | .ge, x, y => decide (y ≤ x)
  | .gt, x, y => decide (y < x)
  | .le, x, y => decide (x ≤ y)
abbrev gb_Oc : Type := (List Value × List Value × gb_Pi × gb_Sg) ⊕ (Nat × List Value × List Value) ⊕ Value ⊕ (Nat × Nat × List Value)
abbrev gb_nx (ls st : List Value) (p : gb_Pi) (g : gb_Sg) : Option gb_Oc := some (.inl (ls, st, p, g))
abbrev gb_jp (t : Nat) (ls st : List Value) : Option gb_Oc := some (.inr (.inl (t, ls, st)))
abbrev gb_rt (v : Value) : Option gb_Oc := some (.inr (.inr (.inl v)))
abbrev gb_cl (k n : Nat) (st : List Value) : Option gb_Oc := some (.inr (.inr (.inr (k, n, st))))
/-- the arguments as locals: a long takes two -/
def gb_lex : List Value → List Value
  | [] => []
  | .long x :: r => .long x :: .null :: gb_lex r
  | v :: r => v :: gb_lex r
def gb_ent (n : Nat) (as : List Value) : List Value := gb_lex as ++ List.replicate (n - (gb_lex as).length) .null
def psh (v : Value) (st : List Value) : List Value := match v with
  | .null => st
  | v => v :: st
/-- int, long, ref, the script: what a stack or an argument may hold -/
def gb_ok : Value → Bool
  | .int _ => true
  | .long _ => true
  | .ref _ => true
  | .retAddr _ => true
  | _ => false
def gb_atg : ArrayType → Nat
  | .int => 0
  | .byte => 1
  | .boolean => 2
  | .long => 3
  | _ => 98
/-- may these be the arguments of method k? an instance method's receiver is an object of its class -/
def gb_rcv (k : Nat) (as : List Value) (p : gb_Pi) : Bool :=
  decide (as.length = (gb_inf k).2.2.2.1) && as.all gb_ok && decide ((gb_lex as).length ≤ (gb_inf k).1) && (match (gb_inf k).2.2.1 with
  | 0 => true
  | c + 1 => (match as with
    | .ref a :: _ => decide (atag p a = 10 + c)
    | _ => false))
/-- one instruction -/
def gb_stp (i : Instr) (ls st : List Value) (p : gb_Pi) (g : gb_Sg) : Option gb_Oc :=
  match i with
  | .iload k => (match ls[k]? with
    | some (.int x) => gb_nx ls (.int x :: st) p g
    | _ => none)
  | .lload k => (match ls[k]? with
    | some (.long x) => gb_nx ls (.long x :: st) p g
    | _ => none)
  | .aload k => (match ls[k]? with
    | some (.ref x) => gb_nx ls (.ref x :: st) p g
    | some (.retAddr x) => gb_nx ls (.retAddr x :: st) p g
    | _ => none)
  | .istore k => (match st with
    | .int x :: r => if k < ls.length then gb_nx (st1 ls k (.int x)) r p g else none
    | _ => none)
  | .astore k => (match st with
    | .ref x :: r => if k < ls.length then gb_nx (st1 ls k (.ref x)) r p g else none
    | _ => none)
  | .lstore k => (match st with
    | .long x :: r => if k + 1 < ls.length then gb_nx (st2 ls k (.long x)) r p g else none
    | _ => none)
  | .iinc k c => (match ls[k]? with
    | some (.int x) => gb_nx (st1 ls k (.int (x + Int32.ofInt c))) st p g
    | _ => none)
  | .sipush c => gb_nx ls (.int (Int32.ofInt c) :: st) p g
  | .bipush c => gb_nx ls (.long (Int64.ofInt c) :: st) p g
  | .iadd => (match st with | .int y :: .int x :: r => gb_nx ls (.int (x + y) :: r) p g | _ => none)
  | .isub => (match st with | .int y :: .int x :: r => gb_nx ls (.int (x - y) :: r) p g | _ => none)
  | .imul => (match st with | .int y :: .int x :: r => gb_nx ls (.int (x * y) :: r) p g | _ => none)
  | .iand => (match st with | .int y :: .int x :: r => gb_nx ls (.int (x &&& y) :: r) p g | _ => none)
  | .ior => (match st with | .int y :: .int x :: r => gb_nx ls (.int (x ||| y) :: r) p g | _ => none)
  | .ixor => (match st with | .int y :: .int x :: r => gb_nx ls (.int (x ^^^ y) :: r) p g | _ => none)
  | .idiv => (match st with | .int y :: .int x :: r => if y = 0 then none else gb_nx ls (.int (x / y) :: r) p g | _ => none)
  | .irem => (match st with | .int y :: .int x :: r => if y = 0 then none else gb_nx ls (.int (x - x / y * y) :: r) p g | _ => none)
  | .ineg => (match st with | .int x :: r => gb_nx ls (.int (-x) :: r) p g | _ => none)
  | .ishl => (match st with | .int y :: .int x :: r => gb_nx ls (.int (x <<< (y &&& 31)) :: r) p g | _ => none)
  | .ishr => (match st with | .int y :: .int x :: r => gb_nx ls (.int (x >>> (y &&& 31)) :: r) p g | _ => none)
  | .iushr => (match st with | .int y :: .int x :: r => gb_nx ls (.int (x.toUInt32 >>> (y.toUInt32 &&& Int32.toUInt32 31)).toInt32 :: r) p g | _ => none)
  | .ladd => (match st with | .long y :: .long x :: r => gb_nx ls (.long (x + y) :: r) p g | _ => none)
  | .lsub => (match st with | .long y :: .long x :: r => gb_nx ls (.long (x - y) :: r) p g | _ => none)
  | .lmul => (match st with | .long y :: .long x :: r => gb_nx ls (.long (x * y) :: r) p g | _ => none)
  | .land => (match st with | .long y :: .long x :: r => gb_nx ls (.long (x &&& y) :: r) p g | _ => none)
  | .lor => (match st with | .long y :: .long x :: r => gb_nx ls (.long (x ||| y) :: r) p g | _ => none)
  | .ldiv => (match st with | .long y :: .long x :: r => if y = 0 then none else gb_nx ls (.long (x / y) :: r) p g | _ => none)
  | .lrem => (match st with | .long y :: .long x :: r => if y = 0 then none else gb_nx ls (.long (x - x / y * y) :: r) p g | _ => none)
  | .lushr => (match st with | .int y :: .long x :: r => gb_nx ls (.long (x.toUInt64 >>> (y.toInt64.toUInt64 &&& Int64.toUInt64 63)).toInt64 :: r) p g | _ => none)
  | .lshl => (match st with | .int y :: .long x :: r => gb_nx ls (.long (x <<< (y.toInt64 &&& 63)) :: r) p g | _ => none)
  | .lshr => (match st with | .int y :: .long x :: r => gb_nx ls (.long (x >>> (y.toInt64 &&& 63)) :: r) p g | _ => none)
  | .lcmp => (match st with | .long y :: .long x :: r => gb_nx ls (.int (lg_cmp x y) :: r) p g | _ => none)
  | .i2l => (match st with | .int x :: r => gb_nx ls (.long x.toInt64 :: r) p g | _ => none)
  | .l2i => (match st with | .long x :: r => gb_nx ls (.int x.toInt32 :: r) p g | _ => none)
  | .i2b => (match st with | .int x :: r => gb_nx ls (.int x.toInt8.toInt32 :: r) p g | _ => none)
  | .dup => (match st with
    | .int x :: r => gb_nx ls (.int x :: .int x :: r) p g
    | .ref x :: r => gb_nx ls (.ref x :: .ref x :: r) p g
    | _ => none)
  | .dup2 => (match st with
    | .int x :: .ref a :: r => gb_nx ls (.int x :: .ref a :: .int x :: .ref a :: r) p g
    | _ => none)
  | .fadd => (match st with | .int y :: .int x :: r => if r.length ≤ 4 then gb_nx ls (.int (if x < y then y else x) :: r) p g else none | _ => none)
  | .fsub => (match st with | .int y :: .int x :: r => if r.length ≤ 4 then gb_nx ls (.int (if y < x then y else x) :: r) p g else none | _ => none)
  | .dadd => (match st with | .long y :: .long x :: r => if r.length ≤ 4 then gb_nx ls (.long (if y < x then x else y) :: r) p g else none | _ => none)
  | .pop => (match st with
    | .ref _ :: r => if r.length ≤ 4 then gb_nx ls r p g else none
    | _ => none)
  | .goto t => gb_jp t.toNat ls st
  | .ifCond c t => (match st with
    | .int x :: r => if gb_cnd c x 0 then gb_jp t.toNat ls r else gb_nx ls r p g
    | _ => none)
  | .if_icmp c t => (match st with
    | .int y :: .int x :: r => if gb_cnd c x y then gb_jp t.toNat ls r else gb_nx ls r p g
    | _ => none)
  | .lookupswitch d ps => (match st with
    | .int x :: r => gb_jp (Op.lookupswitch.offset ps.toList d x.toInt).toNat ls r
    | _ => none)
  | .tableswitch d lo hi offs => (match st with
    | .int x :: r => if x.toInt < lo ∨ hi < x.toInt then gb_jp d.toNat ls r else (match offs[(x.toInt - lo).toNat]? with
      | some t => gb_jp t.toNat ls r
      | none => none)
    | _ => none)
  | .getfield n => (match st with
    | .ref a :: r => if atag p a = 10 + n / 64 then (match gb_kd (n / 64) (n % 64) with
      | 0 => gb_nx ls (.int (gI g a (n % 64)) :: r) p g
      | 1 => gb_nx ls (.long (gL g a (n % 64)) :: r) p g
      | 2 => (match gR g a (n % 64) with
        | some b => gb_nx ls (.ref b :: r) p g
        | none => none)
      | 3 => gb_nx ls (.int (gI g a (n % 64)) :: r) p g
      | _ => none) else none
    | _ => none)
  | .putfield n => (match st with
    | .int x :: .ref a :: r => if atag p a = 10 + n / 64 then (match gb_kd (n / 64) (n % 64) with
      | 0 => gb_nx ls r p (sI g a (n % 64) x)
      | 3 => if x = 0 ∨ x = 1 then gb_nx ls r p (sI g a (n % 64) x) else none
      | _ => none) else none
    | .long x :: .ref a :: r => if atag p a = 10 + n / 64 then (match gb_kd (n / 64) (n % 64) with
      | 1 => gb_nx ls r p (sL g a (n % 64) x)
      | _ => none) else none
    | .ref x :: .ref a :: r => if atag p a = 10 + n / 64 then (match gb_kd (n / 64) (n % 64) with
      | 2 => gb_nx ls r p (sR g a (n % 64) (some x))
      | _ => none) else none
    | _ => none)
  | .iaload => (match st with
    | .int i :: .ref a :: r => if atag p a = 0 then (if oob i (alen p a) then none else gb_nx ls (.int (gI g a (ix i)) :: r) p g) else none
    | .int i :: .retAddr _ :: r => if oob i (gN g) then none else gb_nx ls (.int (gX g (ix i)) :: r) p g
    | _ => none)
  | .laload => (match st with
    | .int i :: .ref a :: r => if atag p a = 3 then (if oob i (alen p a) then none else gb_nx ls (.long (gL g a (ix i)) :: r) p g) else none
    | _ => none)
  | .baload => (match st with
    | .int i :: .ref a :: r => if atag p a = 1 ∨ atag p a = 2 then (if oob i (alen p a) then none else gb_nx ls (.int (gI g a (ix i)) :: r) p g) else none
    | _ => none)
  | .aaload => (match st with
    | .int i :: .ref a :: r => if atag p a = 4 ∨ atag p a = 5 then (if oob i (alen p a) then none else (match gR g a (ix i) with
      | some b => gb_nx ls (.ref b :: r) p g
      | none => none)) else none
    | _ => none)
  | .iastore => (match st with
    | .int x :: .int i :: .ref a :: r => if atag p a = 0 then (if oob i (alen p a) then none else gb_nx ls r p (sI g a (ix i) x)) else none
    | _ => none)
  | .lastore => (match st with
    | .long x :: .int i :: .ref a :: r => if atag p a = 3 then (if oob i (alen p a) then none else gb_nx ls r p (sL g a (ix i) x)) else none
    | _ => none)
  | .bastore => (match st with
    | .int x :: .int i :: .ref a :: r => if atag p a = 1 then (if oob i (alen p a) then none else gb_nx ls r p (sI g a (ix i) x.toInt8.toInt32)) else
      if atag p a = 2 then (if oob i (alen p a) then none else gb_nx ls r p (sI g a (ix i) (x &&& 1))) else none
    | _ => none)
  | .arraylength => (match st with
    | .ref a :: r => if atag p a ≤ 5 then gb_nx ls (.int (Int32.ofNat (alen p a)) :: r) p g else none
    | .retAddr _ :: r => gb_nx ls (.int (Int32.ofNat (gN g)) :: r) p g
    | _ => none)
  | .new c => gb_nx ls (.ref p.length :: st) (p ++ [(10 + c, (gb_kds.getD c []).length)]) (s0 g p.length)
  | .newarray t => (match st with
    | .int n :: r => if n < 0 ∨ 100000 < n.toNatClampNeg ∨ 3 < gb_atg t then none else gb_nx ls (.ref p.length :: r) (p ++ [(gb_atg t, n.toNatClampNeg)]) (s0 g p.length)
    | _ => none)
  | .multianewarray t _ => (match st with
    | .int k :: .int n :: r => if k < 0 ∨ n < 0 ∨ 100000 < k.toNatClampNeg ∨ 100000 < n.toNatClampNeg ∨ ¬ (t = 4 ∨ t = 5) then none else
      gb_nx ls (.ref p.length :: r) (p ++ (t, n.toNatClampNeg) :: List.replicate n.toNatClampNeg (if t = 4 then 0 else 3, k.toNatClampNeg)) (s2 g p.length n.toNatClampNeg)
    | _ => none)
  | .ireturn => (match st with | [.int x] => gb_rt (.int x) | _ => none)
  | .areturn => (match st with | [.int x] => if x = 0 ∨ x = 1 then gb_rt (.int x) else none | _ => none)
  | .lreturn => (match st with | [.long x] => gb_rt (.long x) | _ => none)
  | .return_ => (match st with | [] => gb_rt .null | _ => none)
  | .invokeinterface k n => if n ≤ st.length ∧ (st.drop n).length ≤ 4 ∧ gb_rcv k (st.take n).reverse p = true then gb_cl k n st else none
  | _ => none
def gb_run : Nat → Nat → List Instr → List Value → List Value → gb_Pi → gb_Sg → Option (Value × gb_Pi × gb_Sg)
  | 0, _, _, _, _, _, _ => none
  | _ + 1, _, [], _, _, _, _ => none
  | n + 1, m, i :: r, ls, st, p, g =>
    match gb_stp i ls st p g with
    | none => none
    | some (.inl q) => gb_run n m r q.1 q.2.1 q.2.2.1 q.2.2.2
    | some (.inr (.inl q)) => gb_run n m (gb_tgt m q.1) q.2.1 q.2.2 p g
    | some (.inr (.inr (.inl v))) => some (v, p, g)
    | some (.inr (.inr (.inr q))) =>
      match gb_run n q.1 (gb_prog q.1) (gb_ent (gb_inf q.1).1 (q.2.2.take q.2.1).reverse) [] p g with
      | none => none
      | some w => gb_run n m r ls (psh w.1 (q.2.2.drop q.2.1)) w.2.1 w.2.2
theorem gb_run_mono : ∀ (n m : Nat) (r : List Instr) (ls st : List Value) (p : gb_Pi) (g : gb_Sg) (x : Value × gb_Pi × gb_Sg), gb_run n m r ls st p g = some x → gb_run (n + 1) m r ls st p g = some x
  | 0, _, _, _, _, _, _, _, h => by simp [gb_run] at h
  | n + 1, m, [], ls, st, p, g, x, h => by simp [gb_run] at h
  | n + 1, m, i :: r, ls, st, p, g, x, h => by
    rw [gb_run] at h ⊢
    generalize gb_stp i ls st p g = o at h ⊢
    match o, h with
    | some (.inl q), h => exact gb_run_mono n _ _ _ _ _ _ _ h
    | some (.inr (.inl q)), h => exact gb_run_mono n _ _ _ _ _ _ _ h
    | some (.inr (.inr (.inl v))), h => exact h
    | some (.inr (.inr (.inr q))), h =>
      dsimp only at h ⊢
      cases h1 : gb_run n q.1 (gb_prog q.1) (gb_ent (gb_inf q.1).1 (q.2.2.take q.2.1).reverse) [] p g with
      | none => rw [h1] at h; cases h
      | some w =>
        rw [h1] at h
        rw [gb_run_mono n _ _ _ _ _ _ _ h1]
        exact gb_run_mono n _ _ _ _ _ _ _ h
theorem gb_run_le {n k m : Nat} {r : List Instr} {ls st : List Value} {p : gb_Pi} {g : gb_Sg} {x : Value × gb_Pi × gb_Sg} (h : gb_run n m r ls st p g = some x) (hk : n ≤ k) : gb_run k m r ls st p g = some x := by
  induction k with
  | zero => rw [Nat.le_zero.mp hk] at h; exact h
  | succ k ih =>
    rcases Nat.lt_or_ge n (k + 1) with q | q
    · exact gb_run_mono _ _ _ _ _ _ _ _ (ih (by omega))
    · rw [show k + 1 = n by omega]; exact h
/-- what a run comes to, at any fuel -/
noncomputable def gb_ex (m : Nat) (r : List Instr) (ls st : List Value) (p : gb_Pi) (g : gb_Sg) : Option (Value × gb_Pi × gb_Sg) :=
  @dite _ (∃ x n, gb_run n m r ls st p g = some x) (Classical.propDecidable _) (fun h => some h.choose) (fun _ => none)
theorem gb_ex_iff {m : Nat} {r : List Instr} {ls st : List Value} {p : gb_Pi} {g : gb_Sg} {x : Value × gb_Pi × gb_Sg} : gb_ex m r ls st p g = some x ↔ ∃ n, gb_run n m r ls st p g = some x := by
  unfold gb_ex
  by_cases h : ∃ x n, gb_run n m r ls st p g = some x
  · rw [dif_pos h]
    obtain ⟨k, hk⟩ := h.choose_spec
    constructor
    · intro e
      cases e
      exact ⟨k, hk⟩
    · rintro ⟨n, hn⟩
      have h1 := gb_run_le hk (Nat.le_max_left k n)
      have h2 := gb_run_le hn (Nat.le_max_right k n)
      rw [h1] at h2
      exact h2
  · rw [dif_neg h]
    constructor
    · intro e; cases e
    · rintro ⟨n, hn⟩
      exact absurd ⟨x, n, hn⟩ h
theorem gb_opt_ext {α : Type} {a b : Option α} (h : ∀ x, a = some x ↔ b = some x) : a = b := by
  cases a with
  | none =>
    cases b with
    | none => rfl
    | some y => exact absurd ((h y).mpr rfl) (by simp)
  | some x => exact ((h x).mp rfl).symm
/-- an instruction that goes on -/
theorem gb_ex_nx {m : Nat} {i : Instr} {r : List Instr} {ls st ls' st' : List Value} {p p' : gb_Pi} {g g' : gb_Sg} (h : gb_stp i ls st p g = gb_nx ls' st' p' g') : gb_ex m (i :: r) ls st p g = gb_ex m r ls' st' p' g' := by
  refine gb_opt_ext fun x => ?_
  rw [gb_ex_iff, gb_ex_iff]
  constructor
  · rintro ⟨n, hn⟩
    cases n with
    | zero => simp [gb_run] at hn
    | succ n => rw [gb_run, h] at hn; exact ⟨n, hn⟩
  · rintro ⟨n, hn⟩
    exact ⟨n + 1, by rw [gb_run, h]; exact hn⟩
theorem gb_ex_jp {m t : Nat} {i : Instr} {r : List Instr} {ls st ls' st' : List Value} {p : gb_Pi} {g : gb_Sg} (h : gb_stp i ls st p g = gb_jp t ls' st') : gb_ex m (i :: r) ls st p g = gb_ex m (gb_tgt m t) ls' st' p g := by
  refine gb_opt_ext fun x => ?_
  rw [gb_ex_iff, gb_ex_iff]
  constructor
  · rintro ⟨n, hn⟩
    cases n with
    | zero => simp [gb_run] at hn
    | succ n => rw [gb_run, h] at hn; exact ⟨n, hn⟩
  · rintro ⟨n, hn⟩
    exact ⟨n + 1, by rw [gb_run, h]; exact hn⟩
theorem gb_ex_rt {m : Nat} {i : Instr} {r : List Instr} {ls st : List Value} {p : gb_Pi} {g : gb_Sg} {v : Value} (h : gb_stp i ls st p g = gb_rt v) : gb_ex m (i :: r) ls st p g = some (v, p, g) := by
  refine gb_opt_ext fun x => ?_
  rw [gb_ex_iff]
  constructor
  · rintro ⟨n, hn⟩
    cases n with
    | zero => simp [gb_run] at hn
    | succ n => rw [gb_run, h] at hn; exact hn
  · intro e
    exact ⟨1, by rw [gb_run, h]; exact e⟩
theorem gb_ex_no {m : Nat} {i : Instr} {r : List Instr} {ls st : List Value} {p : gb_Pi} {g : gb_Sg} (h : gb_stp i ls st p g = none) : gb_ex m (i :: r) ls st p g = none := by
  refine gb_opt_ext fun x => ?_
  rw [gb_ex_iff]
  constructor
  · rintro ⟨n, hn⟩
    cases n with
    | zero => simp [gb_run] at hn
    | succ n => rw [gb_run, h] at hn; cases hn
  · intro e; cases e
/-- a method by its arguments -/
noncomputable def gb_call (k : Nat) (as : List Value) (p : gb_Pi) (g : gb_Sg) : Option (Value × gb_Pi × gb_Sg) := gb_ex k (gb_prog k) (gb_ent (gb_inf k).1 as) [] p g
theorem gb_ex_cl {m k n : Nat} {i : Instr} {r : List Instr} {ls st st' : List Value} {p : gb_Pi} {g : gb_Sg} (h : gb_stp i ls st p g = gb_cl k n st') :
    gb_ex m (i :: r) ls st p g = (gb_call k (st'.take n).reverse p g).bind (fun w => gb_ex m r ls (psh w.1 (st'.drop n)) w.2.1 w.2.2) := by
  refine gb_opt_ext fun x => ?_
  rw [gb_ex_iff, Option.bind_eq_some_iff]
  constructor
  · rintro ⟨q, hn⟩
    cases q with
    | zero => simp [gb_run] at hn
    | succ q =>
      rw [gb_run, h] at hn
      dsimp only at hn
      cases h1 : gb_run q k (gb_prog k) (gb_ent (gb_inf k).1 (st'.take n).reverse) [] p g with
      | none => rw [h1] at hn; cases hn
      | some w =>
        rw [h1] at hn
        exact ⟨w, gb_ex_iff.mpr ⟨q, h1⟩, gb_ex_iff.mpr ⟨q, hn⟩⟩
  · rintro ⟨w, h1, h2⟩
    obtain ⟨a, ha⟩ := gb_ex_iff.mp h1
    obtain ⟨b, hb⟩ := gb_ex_iff.mp h2
    refine ⟨max a b + 1, ?_⟩
    rw [gb_run, h]
    dsimp only
    rw [gb_run_le ha (Nat.le_max_left a b)]
    exact gb_run_le hb (Nat.le_max_right a b)
end
section
set_option maxRecDepth 100000 in
def gb_pcs_0 : List Nat := [0, 3, 4, 7, 8, 11, 12, 15, 16, 17, 18, 19, 20, 21, 23, 24, 27, 28, 29, 30, 32, 33, 172, 173, 174, 175, 176, 177, 178, 179, 180, 181, 182, 183, 184, 186, 187, 188, 189, 190, 191, 192, 193, 196, 197, 198, 201, 202, 203, 204, 205, 206, 207, 208, 209, 210, 211, 212, 213, 215, 216, 217, 218, 219, 220, 221, 222, 225, 226, 227, 230, 233, 234, 235, 236, 239, 240, 243, 246, 247, 248, 249, 250, 251, 252, 253, 254, 257, 258, 261, 262, 265, 266, 267, 268, 269, 270, 271, 274, 275, 278, 279, 282, 285, 286, 287, 288, 289, 290, 291, 292, 293, 296, 297, 300, 301, 304, 305, 306, 307, 308, 309, 310, 313, 314, 317, 318, 321, 324, 325, 326, 327, 328, 329, 330, 331, 332, 333, 334, 335, 336, 337, 338, 339, 340, 341, 342, 343, 344, 345, 346, 347, 348, 349, 350, 351, 352, 355, 356, 357, 358, 359, 360, 361, 362, 363, 364, 365, 366, 367, 368, 369, 370, 371, 372, 373, 374, 375, 376, 377, 378, 379, 380, 381, 384, 387, 388, 389, 390, 391, 392, 393, 394, 395, 396, 397, 398, 399, 400, 403, 404, 405, 406, 407, 408, 409, 410, 411, 412, 413, 414, 417, 420, 421, 422, 423, 424, 425, 426, 427, 428, 429, 430, 431, 432, 433, 434, 435, 436, 437, 438, 439, 440, 441, 442, 443, 446, 447, 448, 449, 450, 451, 452, 453, 454, 455, 456, 457, 458, 459, 460, 461, 462, 463, 464, 465, 466, 467, 470, 473, 474, 475, 476, 477, 478, 479, 480, 481, 482, 483, 484, 485, 486, 487, 488, 489, 490, 491, 494, 495, 496, 497, 498, 499, 500, 501, 502, 503, 504, 505, 506, 507, 508, 509, 510, 513, 516, 517, 518, 519, 520, 521, 522, 523, 524, 527, 528, 529, 530, 531, 532, 533, 536, 539, 540, 541, 542, 543, 544, 545, 546, 547, 550, 551, 552, 553, 554, 555, 556, 559, 562, 563, 564, 565, 566, 567, 568, 569, 570, 571, 572, 573, 574, 575, 576, 577, 578, 579, 580, 581, 582, 583, 584, 585, 586, 587, 588, 589, 590, 593, 594, 597, 598, 601, 602, 603, 604, 605, 606, 607, 608, 609, 610, 611, 612, 613, 614, 615, 616, 617, 618, 619, 620, 621, 622, 623, 624, 625, 626, 627, 630, 631, 634, 635, 638, 641, 642, 643, 644, 645, 646, 647, 648, 649, 650, 651, 652, 653, 654, 655, 656, 657, 658, 659, 662, 663, 664, 665, 666, 667, 668, 669, 670, 671, 672, 673, 674, 675, 676, 677, 678, 681, 684, 685, 686, 687, 688, 689, 690, 691, 692, 695, 696, 697, 698, 699, 700, 701, 704, 707, 708, 709, 710, 711, 712, 713, 714, 715, 718, 719, 720, 721, 722, 723, 724, 727, 730, 731, 732, 733, 734, 735, 736, 737, 738, 739, 740, 741, 742, 743, 744, 745, 746, 747, 748, 749, 750, 751, 752, 753, 756, 757, 758, 759, 760, 761, 762, 763, 764, 765, 766, 767, 768, 769, 770, 771, 772, 773, 774, 775, 776, 777, 780, 781, 784, 785, 786, 787, 788, 789, 790, 791, 792, 793, 794, 795, 796, 797, 798, 799, 800, 801, 802, 803, 804, 805, 806, 807, 810, 811, 812, 813, 814, 815, 816, 817, 818, 819, 820, 821, 822, 823, 824, 825, 826, 827, 828, 829, 830, 831, 834, 835, 838, 839, 840, 841, 842, 843, 844, 845, 846, 847, 848, 849, 850, 851, 852, 853, 854, 855, 856, 857, 858, 859, 860, 861, 862, 863, 864, 865, 866, 869, 870, 871, 872, 873, 874, 875, 876, 877, 878, 879, 880, 881, 882, 883, 884, 885, 886, 887, 888, 889, 890, 891, 892, 893, 894, 895, 898, 899, 902, 903, 904, 905, 906, 907, 908, 909, 910, 913, 914, 915, 916, 917, 918, 919, 922, 925, 926, 927, 928, 929, 930, 931, 932, 933, 936, 937, 938, 939, 940, 941, 942, 945, 948, 949, 950, 951, 952, 953, 954, 955, 956, 957, 958, 959, 960, 961, 964, 965, 966, 967, 968, 969, 970, 971, 972, 973, 974, 975, 978, 981, 982, 983, 984, 985, 986, 987, 988, 989, 990, 991, 992, 993, 994, 995, 996, 997, 998, 999, 1002, 1003, 1004, 1005, 1006, 1007, 1008, 1009, 1010, 1011, 1012, 1013, 1014, 1015, 1016, 1017, 1018, 1021, 1024, 1025, 1026, 1027, 1028, 1029, 1030, 1031, 1032, 1033, 1034, 1035, 1036, 1037, 1040, 1041, 1042, 1043, 1044, 1045, 1046, 1047, 1048, 1049, 1050, 1051, 1054, 1057, 1058, 1059, 1060, 1061, 1062, 1063, 1064, 1065, 1066, 1067, 1068, 1069, 1070, 1071, 1072, 1073, 1074, 1075, 1076, 1077, 1078, 1079, 1080, 1083, 1084, 1085, 1086, 1087, 1088, 1089, 1090, 1091, 1092, 1093, 1094, 1095, 1096, 1097, 1098, 1099, 1100, 1101, 1102, 1103, 1104, 1107, 1110, 1111, 1112, 1113, 1114, 1115, 1116, 1117, 1118, 1119, 1120, 1121, 1122, 1123, 1124, 1125, 1126, 1127, 1128, 1129, 1130, 1131, 1132, 1133, 1134, 1135, 1136, 1137, 1138, 1141, 1142, 1143, 1144, 1145, 1146, 1147, 1148, 1149, 1150, 1151, 1152, 1153, 1154, 1155, 1156, 1157, 1158, 1159, 1160, 1161, 1162, 1163, 1164, 1165, 1166, 1167, 1170, 1173, 1174, 1175, 1176, 1177, 1178, 1179, 1180, 1181, 1182, 1183, 1184, 1185, 1186, 1187, 1188, 1189, 1190, 1191, 1194, 1195, 1196, 1197, 1198, 1199, 1200, 1201, 1202, 1203, 1204, 1205, 1206, 1207, 1208, 1209, 1210, 1213, 1216, 1217, 1218, 1219, 1220, 1221, 1222, 1223, 1224, 1225, 1226, 1227, 1228, 1229, 1232, 1233, 1234, 1235, 1236, 1237, 1238, 1239, 1240, 1241, 1242, 1243, 1246, 1249, 1250, 1251, 1252, 1253, 1254, 1255, 1256, 1257, 1258, 1259, 1260, 1261, 1262, 1265, 1266, 1267, 1268, 1269, 1270, 1271, 1272, 1273, 1274, 1275, 1276, 1279, 1282, 1283, 1284, 1285, 1286, 1287, 1288, 1289, 1290, 1291, 1292, 1293, 1294, 1295, 1296, 1297, 1298, 1299, 1300, 1303, 1304, 1305, 1306, 1307, 1308, 1309, 1310, 1311, 1312, 1313, 1314, 1315, 1316, 1317, 1318, 1319, 1322, 1325, 1326, 1327, 1328, 1331, 1332, 1335, 1338, 1339, 1340, 1341, 1344, 1345, 1348, 1351, 1352, 1353, 1354, 1355, 1356, 1357, 1358, 1359, 1362, 1363, 1364, 1365, 1366, 1367, 1368, 1371, 1374, 1375, 1376, 1379, 1382, 1383]
set_option maxRecDepth 100000 in
def gb_pcs_1 : List Nat := [0, 1, 4, 5, 6, 8, 11, 12, 14, 17, 18, 21, 22, 25, 28, 29, 30, 33, 34, 36, 38, 41, 42, 44, 46, 49, 50, 52, 54, 57, 58, 60, 62, 65, 66, 67, 70, 71, 73, 75, 78, 79, 81, 83, 86, 87, 89, 91, 94, 95, 97, 99, 102, 103, 105, 107, 110]
set_option maxRecDepth 100000 in
def gb_pcs_2 : List Nat := [0, 1, 4, 5, 6, 7, 8, 11, 12, 13, 14, 17, 18, 19, 20, 21, 22, 23, 26, 27, 28, 29, 32, 33, 34, 35, 36, 37, 38]
set_option maxRecDepth 100000 in
def gb_pcs_3 : List Nat := [0, 1, 3, 6, 7, 10, 13, 14, 15, 18, 19, 20, 23, 24, 25, 28, 29, 30, 31, 34, 37, 38, 41, 44, 45, 48, 49, 50, 51, 54, 57, 58, 59, 62, 65, 67]
set_option maxRecDepth 100000 in
def gb_pcs_4 : List Nat := [0, 1, 4, 72, 73, 74, 75, 78, 81, 82, 85, 88, 89, 92, 93, 94, 95, 96, 97, 100, 103, 104, 107, 110, 111, 114, 115, 116, 117, 118, 119, 122, 125, 126, 129, 132, 133, 136, 137, 138, 139, 140, 141, 144, 147, 148, 151, 154, 155, 158, 159, 160, 161, 162, 163, 166, 169, 170, 173, 176, 177, 180, 181, 182, 183]
set_option maxRecDepth 100000 in
def gb_pcs_5 : List Nat := [0, 1, 2, 3, 4, 7, 8, 9, 12, 13, 16, 17, 18, 21, 24, 25, 26, 27, 30, 31, 32, 35, 36, 37, 38, 39, 40, 41, 44, 46, 49, 51, 54, 57, 58, 59, 62, 65, 66]
set_option maxRecDepth 100000 in
def gb_pcs_6 : List Nat := [0, 1, 4, 5, 6, 7, 9, 12, 15, 16, 17, 18, 19, 22, 23, 24, 27, 28]
set_option maxRecDepth 100000 in
def gb_pcs_7 : List Nat := [0, 1, 4, 7, 9, 12, 13, 16, 17, 18, 20, 22, 25, 28, 29, 32, 33, 34, 36, 38, 41, 44, 45, 46, 47, 50, 51, 54, 55, 56, 57, 60, 61, 62, 65, 66]
set_option maxRecDepth 100000 in
def gb_pcs_8 : List Nat := [0, 1, 4, 7, 9, 12, 13, 16, 17, 18, 21, 24, 25, 28, 29, 30, 32, 34, 37, 40, 41, 44, 45, 46, 48, 50, 53, 56, 57, 58, 59, 62, 63, 66, 67, 68, 69, 72, 73, 74, 75, 78, 79, 80, 83, 84]
set_option maxRecDepth 100000 in
def gb_pcs_9 : List Nat := [0, 1, 4, 6, 9, 10, 13, 14, 15, 16, 18, 21, 24, 25, 28, 29, 30, 31, 34, 35, 36, 38, 41, 44, 45, 48, 49, 50, 53, 56, 57, 60, 61, 62, 63, 66, 69, 72, 73, 74, 75, 78, 79, 82, 83, 86, 87, 88, 89, 90, 93, 94, 97, 98, 101, 102, 103, 104, 105, 108, 109, 112, 113, 116, 117, 118, 119, 120, 123, 124, 127, 128, 131, 132, 133, 134, 135, 136, 139, 140, 141, 144, 145]
set_option maxRecDepth 100000 in
def gb_pcs_10 : List Nat := [0, 1, 4, 6, 9, 10, 13, 14, 15, 16, 17, 20, 21, 22, 25, 28, 29, 32, 33, 34, 35, 38, 41, 44, 45, 48, 49, 50, 51, 53, 56, 59, 60, 63, 64, 65, 68, 71, 72, 75, 76, 77, 80, 83, 84, 87, 88, 89, 90, 93, 94, 95, 96, 99, 100, 101, 103, 104, 107, 110, 111, 112, 113, 116, 117, 120, 121, 124, 125, 126, 127, 128, 131, 132, 135, 136, 139, 140, 141, 142, 143, 146, 147, 150, 151, 154, 155, 156, 157, 158, 161, 162, 165, 166, 169, 170, 171, 172, 173, 176, 177, 180, 181, 184, 185, 186, 187, 188, 189, 192, 193, 194, 197, 198]
set_option maxRecDepth 100000 in
def gb_pcs_11 : List Nat := [0, 1, 4, 5, 6, 9, 10, 11, 14, 15, 17, 19, 22, 23, 25, 27, 31, 34, 35, 37, 39, 43, 46]
set_option maxRecDepth 100000 in
def gb_pcs_12 : List Nat := [0, 1, 2, 3, 5, 8, 9, 12, 13, 14, 15, 18, 21]
set_option maxRecDepth 100000 in
def gb_pcs_13 : List Nat := [0, 1, 4, 6, 7, 9, 10, 12, 13, 15, 16, 18, 19, 21, 23, 24, 27, 28, 29, 30, 32, 33, 34, 37, 38, 39, 42, 44, 46, 48, 51, 54, 56, 58, 61, 64, 66, 69, 71, 72, 74, 77, 79, 81, 84, 86, 87, 88, 90, 91, 93, 95, 97, 100, 102, 103, 104, 106, 107, 109, 112, 115, 117, 120, 123, 125, 127, 130, 131, 133, 135, 137, 140, 142, 143, 144, 146, 148, 150, 153, 155, 156, 157, 159, 161, 163, 164, 166, 168, 170, 171, 173, 175, 178, 180, 182, 185, 187, 189, 192, 193, 195, 198, 199, 201, 203, 204, 207, 208, 210, 211, 212, 215, 216, 219, 222]
set_option maxRecDepth 100000 in
def gb_pcs_14 : List Nat := [0, 1, 4, 5, 6, 9, 10, 11, 14, 15, 16, 17, 18, 20, 21, 24, 25, 26, 28, 30, 31, 34, 35, 36, 39, 40, 43, 44, 45, 47, 49, 50, 53, 54, 55, 58, 60, 62, 65, 66, 67, 68, 71, 72, 73, 74, 77, 78, 79, 81, 83, 86, 87, 90, 91, 92, 94, 95, 98, 99, 100, 103, 104, 105, 107, 108, 111, 112, 115, 118, 121, 124, 127, 128, 131, 132, 133, 134]
set_option maxRecDepth 100000 in
def gb_pcs_15 : List Nat := [0, 1, 3, 4, 6, 8, 9, 12, 14, 16, 19, 20, 23, 24, 25, 27, 28, 29, 32, 33, 36, 37, 38, 40, 41, 43, 45, 48, 51, 54, 57, 60, 62]
set_option maxRecDepth 100000 in
def gb_pcs_16 : List Nat := [0, 1, 4, 5, 6, 9, 10, 12, 14, 17, 18, 20, 21, 25, 28, 29, 31, 32, 36, 39, 40, 42, 43, 47, 50, 51, 53, 55, 58, 59, 61, 63, 66, 67, 69, 71, 74]
set_option maxRecDepth 100000 in
def gb_pcs_17 : List Nat := [0, 1, 2, 5, 6, 7, 10, 11, 12, 13, 16, 19, 20, 23, 26, 27, 30, 31, 32, 35, 37, 40, 41, 42, 45, 48, 49, 50, 53, 56, 57, 58, 59, 60, 63, 64, 65, 68, 71, 74, 76]
set_option maxRecDepth 100000 in
def gb_pcs_18 : List Nat := [0, 1, 4, 5, 8, 9, 10, 11, 13, 16, 19, 20, 21, 22, 23, 24, 25, 28, 29, 30, 31, 34, 37, 38, 39, 40, 43, 44, 47, 48, 49, 50, 51, 52, 54, 57, 60, 61, 62, 63, 65, 68, 71, 72, 73, 76, 79, 80]
set_option maxRecDepth 100000 in
def gb_pcs_19 : List Nat := [0, 1, 4, 5, 6, 9, 11, 12, 14, 17, 18, 20, 23, 24, 26, 29, 30, 32, 35, 36, 39, 40, 42, 44, 47, 49, 51, 54, 56, 58, 61, 62, 63, 66, 69, 70, 71, 72, 75, 76, 79, 80, 81, 82, 83, 84, 87, 88, 91, 92, 93, 95, 96, 97, 100, 101, 104, 105, 106, 107, 110, 111, 112]
set_option maxRecDepth 100000 in
def gb_pcs_20 : List Nat := [0, 1, 4, 5, 6, 9, 10, 13, 14, 16, 19, 20, 23, 24, 26, 29, 30, 33, 34, 35, 36, 38, 41, 42, 44, 47, 48, 50, 53, 54, 55, 58, 61, 62, 63, 64, 67, 68, 71, 72, 75, 76, 77, 79, 82, 85, 86, 87, 90, 93, 94, 97, 99, 102, 103, 104, 105, 108, 109, 112, 113, 116, 117, 118, 120, 123]
set_option maxRecDepth 100000 in
def gb_pcs_21 : List Nat := [0, 1, 3, 5, 6, 9, 12, 13, 15, 16, 18, 20, 21, 24, 26, 27, 30, 31, 34, 36, 37, 39, 40, 41, 42, 43, 45, 48, 50, 51, 54, 56, 57, 59, 60, 62, 64, 67, 68, 71, 73, 74, 76, 77, 79, 82, 84, 86, 89, 92, 94, 96, 99, 100, 103, 104, 106, 109, 112, 114, 117, 119, 120, 123, 126, 128]
set_option maxRecDepth 100000 in
def gb_pcs_22 : List Nat := [0, 1, 36, 37, 38, 39, 40, 41, 42, 44]
set_option maxRecDepth 100000 in
def gb_pcs_23 : List Nat := [0, 1, 4, 5, 7, 9, 12, 13, 16, 18, 21]
set_option maxRecDepth 100000 in
def gb_pcs_24 : List Nat := [0, 3, 4, 5, 8, 9, 12, 13, 14, 17, 18, 19, 20, 23, 24, 25, 28, 29, 30, 31, 34, 37, 38, 41, 42, 43, 46, 49, 50, 53, 54, 55]
set_option maxRecDepth 100000 in
def gb_pcs_25 : List Nat := [0, 1, 4, 5, 6, 7, 8, 9, 10, 11, 12, 14, 16, 18, 21, 22, 24, 25, 26, 27, 28, 31, 32, 35, 36, 37, 39, 40, 41, 42, 45, 47, 48, 51, 54, 56]
set_option maxRecDepth 100000 in
def gb_pcs_26 : List Nat := [0, 1, 2, 4, 5, 6, 8, 10, 11, 14, 15, 17, 18, 21, 22, 23, 26, 28, 29, 30, 31, 32, 33, 34, 35, 38, 41, 42]
set_option maxRecDepth 100000 in
def gb_pcs_27 : List Nat := [0, 1, 4, 5, 7, 9, 13, 16, 17, 19, 21, 24, 25, 27, 29, 33, 36, 37, 39, 41, 44, 45, 46, 48, 52, 55]
set_option maxRecDepth 100000 in
def gb_pcs_28 : List Nat := [0, 1, 2, 3, 5, 8, 9, 12, 13, 14, 15, 18, 21, 24, 25, 26, 27, 28, 31, 34, 35, 38, 39, 40, 42, 43, 46, 47, 48, 50, 51, 54, 55, 56, 59, 60, 63, 64, 65, 66, 69, 71, 72, 75, 76, 79, 81, 82, 84, 85, 88, 90, 91, 93, 94, 95, 98, 99, 100, 103, 104, 107, 110]
set_option maxRecDepth 100000 in
def gb_pcs_29 : List Nat := [0, 1, 4, 5, 8, 9, 10, 11, 13, 14, 15, 18, 20, 21, 24, 25, 26, 27, 30, 31, 34, 35, 36, 37, 38, 40, 42, 44, 47, 49, 51, 54, 55, 58, 59, 60, 62, 63, 65, 66, 69, 70, 71, 73, 74, 76, 78, 79, 82, 83, 86, 87, 88, 89, 90, 91, 92, 95, 97, 99, 101, 102, 105, 106, 109, 110, 111, 112, 113, 114, 115, 117, 119, 122, 123, 126, 127, 128, 130, 131, 132, 133, 134, 135, 138, 141]
set_option maxRecDepth 100000 in
def gb_pcs_30 : List Nat := [0, 1, 3, 4, 6, 8, 9, 12, 15, 16, 19, 21, 22, 24, 25, 28, 30, 31, 33, 36, 37, 40, 42, 43, 46, 47, 49, 50, 52, 54, 55, 58, 60, 62, 65, 67, 68, 71, 73, 74, 76, 77, 78, 79, 81, 84, 87, 89, 90, 93, 95, 96, 97, 99, 100, 103, 104, 105, 108, 110, 111, 112, 113, 114, 116, 119, 122, 124]
set_option maxRecDepth 100000 in
def gb_pcs_31 : List Nat := [0, 1, 3, 5, 6, 7, 8, 11, 14, 15, 18, 20, 21, 22, 24, 26, 27, 28, 29, 30, 31, 34, 35, 38, 41]
set_option maxRecDepth 100000 in
def gb_pcs_32 : List Nat := [0, 1, 2, 3, 4, 5, 6, 9, 10, 12, 15, 16, 19, 20, 21, 22, 25, 26, 27, 28, 31, 32, 33, 36, 39, 40]
set_option maxRecDepth 100000 in
def gb_pcs_33 : List Nat := [0, 1, 3, 5, 6, 9, 11, 12, 15, 16, 19, 21, 22, 25, 28, 29, 30, 31, 33, 35, 38, 39, 42, 44, 45, 47, 48, 51, 53, 54, 56, 57, 58, 59, 60, 62, 63, 65, 68, 71, 72, 75, 78, 81, 84]
set_option maxRecDepth 100000 in
def gb_pcs_34 : List Nat := [0, 1, 4, 5, 6, 7, 8, 9, 10, 11, 12, 14, 16, 17, 18, 21, 24, 27, 28, 31, 32, 33, 35, 36]
set_option maxRecDepth 100000 in
def gb_pcs_35 : List Nat := [0, 1, 3, 4, 6, 8, 10, 13, 15, 16, 19, 20, 22, 23, 25, 27, 29, 32, 33, 36, 37, 38, 40, 42, 43, 46, 48, 49, 50, 53, 55, 56, 58, 59, 61, 63, 64, 65, 66, 69, 70, 72, 73, 75, 78, 80, 81, 84, 87, 90, 93, 96, 98]
set_option maxRecDepth 100000 in
def gb_pcs_36 : List Nat := [0, 1, 4, 5, 8, 10, 13, 14, 15, 18, 19, 20, 23, 24, 25, 28]
set_option maxRecDepth 100000 in
def gb_pcs_37 : List Nat := [0, 1, 2, 3, 5, 7, 10, 11, 14, 17, 20, 21, 24, 25, 28, 29, 31, 33, 34, 35, 36, 37, 38, 39, 40, 43, 44, 45, 48, 51, 54]
set_option maxRecDepth 100000 in
def gb_pcs_38 : List Nat := [0, 1, 4, 5, 8, 11, 12, 15, 16]
set_option maxRecDepth 100000 in
def gb_pcs_39 : List Nat := [0, 1, 4, 5, 8, 11, 12, 15, 18, 21, 22, 25, 26, 29, 30, 33, 34, 37, 38]
set_option maxRecDepth 100000 in
def gb_pcs_40 : List Nat := [0, 1, 4, 5, 6, 7, 10, 11, 12, 15, 16]
set_option maxRecDepth 100000 in
def gb_pcs_41 : List Nat := [0, 1, 4, 5, 8, 9, 10, 11, 12, 15, 16, 17, 20, 21]
set_option maxRecDepth 100000 in
def gb_pcs_42 : List Nat := [0, 1, 4, 5, 7, 10, 13, 14, 17, 18, 19, 20, 21, 22, 23, 26, 27, 30, 32, 33, 34, 37, 39, 41, 43, 46, 49, 50, 52, 53, 56, 57, 59, 60, 62, 63, 66, 67, 68, 71, 72, 73, 76, 79, 80, 83, 85, 88, 89, 92, 93, 96, 97, 100, 103, 104, 105, 106, 107, 110, 111, 114, 115, 118, 119, 122, 125, 126]
set_option maxRecDepth 100000 in
def gb_pcs_43 : List Nat := [0, 1, 4, 5, 6, 9, 10, 12, 14, 17, 18, 20, 22, 25, 26, 28, 30, 33, 34, 35, 38, 39, 41, 43, 46, 47, 49, 51, 54, 55, 57, 59, 62, 63, 65, 67, 70, 71, 73, 75, 78, 79, 80, 83, 84, 86, 88, 91, 92, 93, 96, 97, 98, 100, 103, 104, 105, 107, 110, 111, 112, 114, 117]
set_option maxRecDepth 100000 in
def gb_pcs_44 : List Nat := [0, 1, 2, 5, 6, 7, 10, 11, 12, 15, 16, 17, 20]
set_option maxRecDepth 100000 in
def gb_pcs_45 : List Nat := [0, 1, 4, 5, 8, 9, 12, 13, 14, 17, 18, 21, 22, 25, 26, 27, 30, 31, 34, 35, 38, 39, 40, 41, 44, 45, 46, 49, 50, 53]
set_option maxRecDepth 100000 in
def gb_pcs_46 : List Nat := [0, 1, 2, 5, 6, 7, 10, 11, 12, 15, 16, 19, 20, 23, 24, 25, 28, 29, 32, 33, 36, 37, 38, 41, 42, 45, 46, 49, 50, 53]
set_option maxRecDepth 100000 in
def gb_pcs_47 : List Nat := [0, 1, 4, 5, 8, 9, 10, 11, 14, 15, 18, 19, 20, 21, 24, 25, 28, 29, 30, 31, 32, 35, 36, 37, 40, 41, 44]
set_option maxRecDepth 100000 in
def gb_pcs_48 : List Nat := [0, 1, 4, 5, 8, 9, 10, 11, 14, 15, 18, 19, 20, 21, 24, 25, 28, 29, 30, 31, 34, 35, 38, 40, 41, 42, 45, 46, 49, 51, 52, 53, 54, 57, 58, 59, 62, 63, 66]
set_option maxRecDepth 100000 in
def gb_pcs_49 : List Nat := [0, 1, 3, 5, 6, 9, 12, 13, 16, 18, 19, 22, 23, 26, 28, 29, 30, 33, 34, 37, 39, 40, 41, 44, 45, 48, 50, 51, 52, 55, 56, 57, 60, 63, 64]
set_option maxRecDepth 100000 in
def gb_pcs_50 : List Nat := [0, 1, 3, 5, 6, 9, 12, 13, 16, 18, 19, 22, 23, 26, 28, 29, 30, 33, 34, 37, 39, 40, 41, 44, 45, 48, 50, 51, 52, 55, 56, 59, 61, 62, 64, 67, 68, 69, 72, 75, 76]
set_option maxRecDepth 100000 in
def gb_pcs_51 : List Nat := [0, 1, 2, 3, 4, 7, 10, 11, 14, 15, 16, 17, 20, 21, 22, 25, 28, 29]
set_option maxRecDepth 100000 in
def gb_pcs_52 : List Nat := [0, 1, 4, 5, 8, 9, 10, 11, 12, 15, 16, 17, 20, 21, 24]
set_option maxRecDepth 100000 in
def gb_pcs_53 : List Nat := [0, 1, 2, 3, 4, 5, 6, 9, 12, 13, 14, 17, 18, 19, 22, 23, 26, 29, 30]
set_option maxRecDepth 100000 in
def gb_pcs_54 : List Nat := [0, 1, 4, 5, 7, 9, 13, 16, 17, 19, 20, 24, 27, 28, 30, 32, 35, 36, 39, 41, 44, 45, 46, 47, 49, 52, 53, 56, 57, 58, 59, 62, 63, 64, 67, 68, 69, 70, 73, 76]
set_option maxRecDepth 100000 in
def gb_pcs_55 : List Nat := [0, 1, 4, 5, 6, 7, 8, 10, 11, 14, 15, 16, 18, 19, 20, 21, 22, 23, 24, 25, 26, 27, 28, 31, 32, 33, 34, 35, 36, 37, 38, 39, 40, 41, 42, 45, 46, 47, 48, 49, 50, 52]
set_option maxRecDepth 100000 in
def gb_pcs_56 : List Nat := [0, 1, 2, 5, 6, 7, 8, 9, 10]
set_option maxRecDepth 100000 in
def gb_pcs_57 : List Nat := [0, 1, 2, 3, 4, 7, 8, 11, 14, 15, 16, 17, 18, 19, 22, 23, 26, 27, 28, 31, 32, 35, 36, 39, 40, 41, 44, 45, 48, 51]
set_option maxRecDepth 100000 in
def gb_pcs_58 : List Nat := [0, 2, 3, 4, 5, 6, 8, 11, 12, 13, 14, 15, 18, 21, 22, 25, 28, 29]
set_option maxRecDepth 100000 in
def gb_pcs_59 : List Nat := [0, 1, 2, 3, 5, 7, 8, 11, 12, 13, 14, 16, 19, 21, 23, 24, 27, 29, 30, 32, 35, 36, 37, 40, 42, 43, 46, 47, 50, 53, 54, 56, 59, 61, 64, 65, 66, 69, 70, 71, 72]
set_option maxRecDepth 100000 in
def gb_pcs_60 : List Nat := [0, 1, 2, 3, 5, 8, 9, 10, 11, 14, 15, 18, 19, 20, 23, 24, 25, 28, 31, 33]
set_option maxRecDepth 100000 in
def gb_pcs_61 : List Nat := [0, 1, 4, 5, 6, 9, 10, 12, 14, 17, 18, 20, 22, 25, 26, 27, 30, 31, 32, 35, 36, 38, 40, 43, 44, 46, 48, 51, 52, 54, 56, 59]
set_option maxRecDepth 100000 in
def gb_pcs_62 : List Nat := [0, 1, 2, 5, 6, 7, 10, 11, 12, 15]
set_option maxRecDepth 100000 in
def gb_pcs_63 : List Nat := [0, 1, 4, 5, 8, 9, 10, 11, 14, 15, 18, 19, 20, 21, 22, 25, 26, 27, 30]
set_option maxRecDepth 100000 in
def gb_pcs_64 : List Nat := [0, 1, 2, 5, 6, 7, 10, 11, 13, 15, 16, 19, 22, 23, 26, 28, 29, 30, 33, 36, 39, 41, 42, 45, 48, 49, 52, 54, 55, 56, 59, 60, 62, 65, 66, 69, 71, 72, 73, 74, 77, 79, 80, 81, 82, 85, 87, 88, 89]
set_option maxRecDepth 100000 in
def gb_pcs_65 : List Nat := [0, 1, 4, 5, 6, 7, 10, 11, 14, 15, 16, 19, 20, 21, 22, 23, 24, 25, 28, 29, 30, 33, 34, 35, 36, 37, 38, 39, 42, 43, 44, 47, 48, 49, 50, 51, 52, 55, 58, 59, 60, 63, 64, 65, 68]
set_option maxRecDepth 100000 in
def gb_pcs_66 : List Nat := [0, 1, 4, 5, 8, 9, 12, 15, 16, 19, 20, 23, 26, 27, 30, 31, 34, 37, 38, 41, 42, 45, 48, 49, 52, 53, 56, 59, 60, 63, 64, 67, 70, 71, 74, 75, 78, 81, 82, 85, 86, 89, 92, 93, 96, 97, 100, 103, 104, 107, 108, 111, 114]
set_option maxRecDepth 100000 in
def gb_pcs_67 : List Nat := [0, 1, 2, 4, 7, 10, 11, 12, 13, 16, 19, 20, 21, 24, 27, 29, 30, 31, 34, 35, 36, 39, 40, 43, 46]
set_option maxRecDepth 100000 in
def gb_pcs_68 : List Nat := [0, 1, 4, 7, 8, 9, 12, 13, 16, 17]
set_option maxRecDepth 100000 in
def gb_pcs_69 : List Nat := [0, 1, 4, 5, 8, 9, 12, 15, 18, 19, 22, 23, 26, 29]
set_option maxRecDepth 100000 in
def gb_pcs_70 : List Nat := [0, 1, 4, 5, 8, 11, 12, 15]
set_option maxRecDepth 100000 in
def gb_pcs_71 : List Nat := [0, 1, 4, 5, 8, 11, 13, 16, 18, 19, 20, 23, 24, 25, 26, 29, 32, 33, 34, 37, 38, 41, 44]
set_option maxRecDepth 100000 in
def gb_pcs_72 : List Nat := [0, 1, 4, 5, 8, 11, 13, 16, 18, 19, 20, 23, 24, 25, 26, 29, 32, 33, 34, 37, 38, 41, 44, 45, 48, 51, 52, 55, 58]
set_option maxRecDepth 100000 in
def gb_pcs_73 : List Nat := [0, 1, 2, 4, 5, 8, 11, 12, 13, 14, 17, 20, 21, 22, 24, 27, 30, 31, 34, 37, 39, 40, 42, 45, 48, 50, 51, 52, 55, 58, 59, 60, 61, 64, 65, 68, 69, 70, 71, 73, 76, 77, 80, 83, 84, 87, 89, 90, 92, 95, 96, 99, 102, 105, 106, 109, 112]
set_option maxRecDepth 100000 in
def gb_pcs_74 : List Nat := [0, 1, 2, 5, 8, 9, 10, 11, 14, 17, 18, 19, 20, 23, 24, 27, 28, 31, 32, 35, 36, 39, 40, 41, 44, 45, 46, 47, 50, 51, 52, 53, 54, 57, 60, 62, 63, 64, 67, 68, 70, 71, 74, 76]
set_option maxRecDepth 100000 in
def gb_pcs_75 : List Nat := [0, 1, 2, 5, 8, 9, 10, 13, 16, 17, 20, 23, 25, 28, 31, 32, 34, 37, 38, 39, 40, 43, 44, 47, 48, 51, 52, 55, 56, 57, 60, 61, 64, 65, 66, 68, 71]
set_option maxRecDepth 100000 in
def gb_pcs_76 : List Nat := [0, 1, 2, 5, 8, 9, 10, 13, 16, 17, 20, 23, 24, 25, 26, 29, 32, 34, 37, 39, 40, 41, 44, 45, 46, 47, 50]
set_option maxRecDepth 100000 in
def gb_pcs_77 : List Nat := [0, 1, 2, 3, 6, 9, 10, 11, 14, 17, 18, 19, 22, 25, 26]
set_option maxRecDepth 100000 in
def gb_pcs_78 : List Nat := [0, 1, 2, 3, 4, 5, 6, 9, 12, 15, 16, 19, 22, 23, 24, 25, 28, 31, 32, 33, 36, 37, 40, 41, 44, 45, 48, 49, 52, 53, 54, 57, 58, 61, 62, 65, 68, 69, 70, 71, 72, 75, 78, 79, 80, 83, 86, 87, 88, 89, 90, 91, 92, 95, 98, 99]
set_option maxRecDepth 100000 in
def gb_pcs_79 : List Nat := [0, 1, 2, 3, 6, 9, 10, 11, 14, 17, 18, 19, 20, 23, 26, 28, 31, 33, 34, 35, 36, 37, 38, 41, 44, 47, 48, 51, 54, 55, 56, 57, 60, 61, 64, 67, 68, 71, 72, 75, 78, 81, 84, 86, 87, 88, 91, 92, 95, 96, 99, 100, 103]
set_option maxRecDepth 100000 in
def gb_pcs_80 : List Nat := [0, 1, 2, 5, 8, 9, 12, 15, 16, 19, 22, 23, 25, 28, 31, 32, 33, 34, 37, 40, 42, 45, 47, 48, 49, 52, 53, 54, 55, 57, 59, 62]
set_option maxRecDepth 100000 in
def gb_pcs_81 : List Nat := [0, 1, 2, 5, 8, 9, 10, 13, 16, 17, 20, 23, 24, 25, 26, 29, 30, 31, 32, 35, 38, 39, 40, 41, 44, 45, 46, 47, 48, 51, 54, 55, 56, 59, 62, 63, 66, 67]
set_option maxRecDepth 100000 in
def gb_pcs_82 : List Nat := [0, 1, 2, 3, 6, 9, 10, 11, 12, 13, 14, 15, 16, 17, 20, 23, 26, 27, 30, 33, 34, 35, 37, 38, 41, 44, 45, 46, 47, 50, 53, 55, 56, 59, 60, 63, 64, 66, 67, 70, 73, 74, 75, 78, 80, 81, 82, 85, 86, 89, 90, 93, 94, 97, 99, 100, 103, 106, 107, 108, 109, 112, 115, 116, 117, 120, 123, 124, 125, 126, 127, 128, 129, 132, 135, 136]
set_option maxRecDepth 100000 in
def gb_pcs_83 : List Nat := [0, 1, 2, 5, 8, 9, 10, 11, 14, 15, 18, 19, 22, 25, 26, 29, 30, 33, 34, 37, 38, 41, 42, 45, 46, 49, 50, 53, 56, 57, 60, 63, 64, 65]
set_option maxRecDepth 100000 in
def gb_pcs_84 : List Nat := [0, 1, 2, 5, 8, 9, 10, 13, 16, 17, 18, 21, 22, 25, 28, 30, 33, 36, 39, 40, 41, 42, 45, 46, 49, 50, 53, 54, 55, 57, 60]
set_option maxRecDepth 100000 in
def gb_pcs_85 : List Nat := [0, 1, 2, 3, 6, 9, 12, 15, 16, 19, 22, 23, 26, 29, 31, 32, 33, 36, 39, 42, 43, 44, 45, 48, 49, 52, 53, 56, 57, 58, 61, 62, 65, 66, 69, 72, 73, 74, 77, 79, 81, 84, 86, 87, 90, 91, 94, 97, 99, 100]
set_option maxRecDepth 100000 in
def gb_pcs_86 : List Nat := [0, 1, 2, 3, 6, 9, 12, 15, 16, 17, 18, 21, 24, 25, 28, 31, 33, 36, 39, 41, 42, 45, 48, 49, 51, 52, 55, 56, 57, 58, 59, 62, 65, 68, 71, 72, 73, 74, 77, 78, 81, 82, 85, 86, 88, 91, 92, 95, 96, 99, 102, 103, 104, 107, 109, 112, 113, 116, 119, 120, 121, 122, 123, 126, 127, 130, 131, 134, 137, 138, 139, 141, 144, 145]
set_option maxRecDepth 100000 in
def gb_pcs_87 : List Nat := [0, 1, 4, 5, 8, 9, 12, 15, 16, 17, 18, 19, 22, 25, 28, 29, 32, 33, 36, 37, 40, 41, 44, 45, 48, 49, 52, 53, 54, 57, 60, 63]
set_option maxRecDepth 100000 in
def gb_pcs_88 : List Nat := [0, 1, 2, 5, 8, 11, 12, 13, 14, 17, 18, 21, 24, 26, 27, 28, 31, 34, 36, 39, 41, 42, 43, 46, 47, 50]
set_option maxRecDepth 100000 in
def gb_pcs_89 : List Nat := [0, 1, 2, 3, 6, 9, 10, 11, 12, 15, 18, 19, 20, 21, 24, 26, 27, 28, 31, 34, 35, 36, 39, 40, 41, 42, 43, 44, 45, 46, 47, 48, 50, 51, 52, 55, 57, 59, 60, 63, 66, 67, 69, 70, 73]
set_option maxRecDepth 100000 in
def gb_pcs_90 : List Nat := [0, 1, 2, 5, 8, 11, 12, 13, 16, 19, 22, 23, 24, 27, 28, 29, 30, 33, 36, 37, 40, 42, 43, 44, 47, 50, 51, 54, 57, 60, 61, 62, 63, 64, 65, 66, 69]
set_option maxRecDepth 100000 in
def gb_pcs_91 : List Nat := [0, 1, 3, 6, 8, 9, 11, 13, 15, 18, 20, 22, 25, 27, 29, 31, 32, 33, 34, 35, 37, 38, 39, 41, 44, 45, 46, 49, 51, 53, 56, 58, 59, 60, 62, 65, 68, 70]
set_option maxRecDepth 100000 in
def gb_pcs_92 : List Nat := [0, 3, 4, 5, 7, 9, 10, 13, 15, 16, 19, 20, 21, 23, 24, 25, 26, 27, 29, 30, 31, 32, 33, 36, 39, 40]
set_option maxRecDepth 100000 in
def gb_pcs_93 : List Nat := [0, 1, 2, 3, 4, 7, 8, 9, 10, 13, 14, 15, 16, 19, 20, 21, 22, 23, 26, 29, 30]
set_option maxRecDepth 100000 in
def gb_pcs_94 : List Nat := [0, 1, 2, 5, 8, 9, 10, 12, 15, 18, 19, 20, 21, 23, 24, 26, 28, 29, 32, 34, 35, 38, 40, 43, 46, 48]
set_option maxRecDepth 100000 in
def gb_pcs_95 : List Nat := [0, 1, 2, 5, 8, 9, 10, 11, 12, 13, 15, 16, 19, 21, 22, 25, 26, 27, 30, 31, 34, 37, 39]
set_option maxRecDepth 100000 in
def gb_pcs_96 : List Nat := [0, 1, 2, 5, 8, 11, 12, 13, 15, 18, 21, 22, 25, 26]
set_option maxRecDepth 100000 in
def gb_pcs_97 : List Nat := [0, 1, 2, 3, 4, 5, 7, 8, 9, 10, 11, 14]
set_option maxRecDepth 100000 in
def gb_pcs_98 : List Nat := [0, 1, 2, 5, 8, 9, 10, 13, 16, 17, 20, 23, 25, 26, 27, 30, 33, 34, 35, 36, 39, 42, 43, 44, 46, 47, 50, 52, 53, 54, 55, 58, 60, 62, 65, 67, 70, 71, 74, 75, 76, 78, 79, 82, 84, 85, 88, 91, 93, 94, 95, 97, 98, 99, 101, 104, 105, 108, 111, 113, 114, 117, 118, 121, 124, 126, 127]
set_option maxRecDepth 100000 in
def gb_pcs_99 : List Nat := [0, 1, 4, 7, 8, 9, 11, 14, 17, 18, 21, 24, 26, 27, 29, 32, 35, 37, 38, 39, 42, 45, 46, 47, 49, 52, 53, 54, 55, 56, 58, 59, 62, 63, 66, 67, 69, 70, 71, 72, 73, 76, 77, 80, 81, 82, 83, 85, 86, 87, 88, 90, 92, 93, 94, 95, 98, 99, 101, 102, 104, 106, 107, 109, 110, 113, 115, 117, 120, 121, 124, 126, 128, 131, 132, 135, 136, 138, 140, 142, 145, 148, 151, 154, 157, 160, 162]
set_option maxRecDepth 100000 in
def gb_pcs_100 : List Nat := [0, 1, 4, 7, 8, 9, 11, 14, 17, 18, 21, 24, 25, 26, 27, 30, 31, 32, 33, 36]
set_option maxRecDepth 100000 in
def gb_pcs_101 : List Nat := [0, 1, 4, 7, 8, 9, 11, 14, 17, 18, 19, 20, 23, 26, 27, 28, 29, 30, 33, 36, 37, 38, 39, 40]
set_option maxRecDepth 100000 in
def gb_pcs_102 : List Nat := [0, 1, 4, 7, 8, 9, 10, 13, 16, 17, 18, 19, 22, 23, 26, 27, 30, 33, 34, 35, 38, 41, 43, 44, 45, 48, 49, 52, 55, 56, 57, 60, 61, 64, 65, 68]
set_option maxRecDepth 100000 in
def gb_pcs_103 : List Nat := [0, 1, 4, 7, 8, 11, 14, 15, 18, 21, 22, 23, 24, 27, 28, 29, 30, 33]
set_option maxRecDepth 100000 in
def gb_pcs_104 : List Nat := [0, 1, 4, 7, 8, 11, 13, 14, 15, 18, 21]
set_option maxRecDepth 100000 in
def gb_pcs_105 : List Nat := [0, 1, 4, 7, 8, 11, 13, 14, 15, 18, 21]
set_option maxRecDepth 100000 in
def gb_pcs_106 : List Nat := [0, 1, 52, 53, 56, 59, 60, 61, 64, 67, 68, 69, 72, 75, 76, 77, 80, 83, 84, 85, 88, 91, 92, 93, 96, 99, 100, 101, 104, 107, 108, 109, 112, 115, 116, 117, 120, 123, 124, 125]
set_option maxRecDepth 100000 in
def gb_pcs_107 : List Nat := [0, 1, 2, 5, 6, 7, 10, 11, 14, 15]
set_option maxRecDepth 100000 in
def gb_pcs_108 : List Nat := [0, 1, 2, 5, 8]
set_option maxRecDepth 100000 in
def gb_pcs_109 : List Nat := [0, 1, 2, 4, 7]
set_option maxRecDepth 100000 in
def gb_pcs_110 : List Nat := [0, 1, 2, 3, 6]
set_option maxRecDepth 100000 in
def gb_pcs_111 : List Nat := [0, 1, 2, 3, 6]
set_option maxRecDepth 100000 in
def gb_pcs_112 : List Nat := [0, 1, 2, 5, 8]
set_option maxRecDepth 100000 in
def gb_pcs_113 : List Nat := [0, 1, 2, 3, 6, 9, 10, 11, 14]
set_option maxRecDepth 100000 in
def gb_pcs_114 : List Nat := [0, 1, 2, 3, 6, 9, 10, 11, 14]
set_option maxRecDepth 100000 in
def gb_pcs_115 : List Nat := [0, 1, 2, 3, 6, 9, 10, 11, 14]
set_option maxRecDepth 100000 in
def gb_pcs_116 : List Nat := [0, 1, 4, 5, 8, 10, 13, 14, 15, 17, 18, 19, 21, 22, 23, 24, 26, 27, 30, 31, 32, 34, 37, 38, 40, 42, 45, 46, 47, 49, 52, 53, 55, 57, 60, 61, 62, 64, 67, 68, 70, 72, 75, 76, 77, 79, 82, 83, 85, 87, 90, 91, 92, 94, 97, 98, 101, 103, 106, 107, 109, 111, 114, 115, 118, 120, 123, 124, 127, 129, 132, 133, 134, 136, 139, 140, 142, 144, 147, 148, 149, 151, 154, 155, 158, 160, 163, 164, 165, 167, 170, 171, 173, 175, 178, 179, 181, 183, 186, 187, 189, 191, 192, 193, 194, 195, 196, 197, 198, 199, 200, 201, 202, 203, 204, 205, 206, 207, 208, 209, 210, 211, 212, 213, 214, 215, 218, 219, 221, 223, 226, 227, 228, 230, 233, 234, 235, 237, 240, 241, 244, 246, 249, 250, 253, 255, 258, 259, 261, 263, 266]
set_option maxRecDepth 100000 in
def gb_pcs_117 : List Nat := [0, 1, 2, 3, 6, 7, 9, 10, 13, 14, 17, 18]
set_option maxRecDepth 100000 in
def gb_pcs_118 : List Nat := [0, 1, 2, 3, 6, 9, 12, 13, 14, 15, 18, 19, 20, 23, 26, 28, 29, 30, 31, 32, 34, 36, 39, 40, 43, 44, 47, 48, 50, 52, 53, 54, 55, 56, 57, 58, 59, 62, 63, 64, 67, 70, 73, 74, 77]
set_option maxRecDepth 100000 in
def gb_pcs_119 : List Nat := [0, 1, 4, 5, 6, 7, 10, 11]
set_option maxRecDepth 100000 in
def gb_pcs_120 : List Nat := [0, 1, 4, 5, 8, 11, 12, 15, 16, 19, 20, 23, 24]
set_option maxRecDepth 100000 in
def gb_pcs_121 : List Nat := [0, 1, 4, 6, 9, 10, 13, 14, 15, 16, 17, 20, 21, 24, 25, 28, 29, 30, 33, 34, 36, 37, 39, 40, 43, 44, 47, 50, 53, 56, 58, 59, 62, 64, 66, 67, 68, 71, 72, 74, 75, 78, 80, 82, 85, 86, 87, 90, 91, 92, 95, 98, 99, 100, 103, 106, 108, 109, 110, 113, 116, 119, 120, 123, 125, 128, 129, 132, 133, 136, 137, 140, 142, 143, 146, 148, 150, 151, 152, 155, 158, 160, 161, 162, 163, 164, 165, 168, 171, 172, 175, 176, 179, 181]
set_option maxRecDepth 100000 in
def gb_pcs_122 : List Nat := [0, 1, 2, 5, 8, 9, 12, 14, 17, 18, 21, 22, 25, 26, 27, 30, 31, 32, 35, 36, 39, 42, 43, 44, 45, 48, 51, 52]
set_option maxRecDepth 100000 in
def gb_pcs_123 : List Nat := [0, 1, 2, 5, 8, 9, 12, 14, 17, 18, 21, 22, 25, 26, 27, 30, 31, 32, 35]
set_option maxRecDepth 100000 in
def gb_pcs_124 : List Nat := [0, 1, 4, 5, 6, 7, 10, 11, 12, 15, 16, 18, 21, 22, 23, 25, 28, 29, 30, 33, 34, 37, 38, 39, 42, 45, 46, 49, 50, 53, 54, 55, 56, 59, 60, 62, 65, 66, 68, 70, 73, 74, 75, 77, 79, 82, 83, 84, 87, 88, 89, 92, 95, 96, 99, 100, 101, 103, 106, 107, 110, 111, 114, 115, 118, 121, 122, 125, 127, 128, 129, 132, 133, 134, 135, 136, 137, 138, 139, 142, 144, 145, 146, 149, 150, 151, 152, 153, 154, 155, 156, 159, 160, 161, 162, 163, 164, 165, 168, 169, 171, 174, 175, 176, 179, 182, 183, 184, 186, 188, 191, 192, 193, 195, 197, 200, 202, 203, 206, 207, 208, 211, 214, 215, 218, 219, 220, 222, 225, 226, 229, 230, 233, 234, 237, 240, 241, 244, 246, 247, 248, 251, 252, 253, 254, 255, 256, 257, 258, 261, 263, 264, 265, 268, 269, 270, 271, 272, 273, 274, 275, 278, 280, 281, 282, 285, 286, 287, 288, 289, 291, 292, 293, 296, 297, 298, 299, 300, 301, 302, 305, 306, 308, 311, 312, 315, 318, 319, 321, 324, 325, 328, 331, 332, 333, 336]
set_option maxRecDepth 100000 in
def gb_pcs_125 : List Nat := [0, 1, 2, 4, 7, 8, 9, 10, 12, 15, 16, 17, 18, 20, 23, 24, 25, 26, 29, 32, 34, 35, 38, 39, 40, 43, 46, 47, 48, 51, 52, 55, 56, 57, 59, 62, 63, 66, 67, 70, 71, 74, 77, 79, 80, 81, 84, 85, 86, 87, 88, 90, 91, 94, 96, 97, 98, 99, 102, 104, 105, 106, 107, 108, 109, 112, 114, 115, 116, 117, 118, 119, 122, 124, 125, 126, 128, 129, 130, 133, 134, 135, 136, 137, 138, 139]
set_option maxRecDepth 100000 in
def gb_pcs_126 : List Nat := [0, 1, 2, 3, 6, 7, 8, 9, 10, 13, 14, 15, 16, 19, 22, 23, 24, 25, 27, 30, 31, 32, 33, 36, 39, 41, 42, 43, 46, 49, 51, 52, 55, 56, 57, 60, 63, 65, 66, 68, 69, 71, 73, 74, 75, 78, 81, 82, 85, 86, 87, 89, 92, 93, 96, 97, 100, 101, 104, 107, 109, 110, 111, 114, 115, 116, 117, 118, 120, 121, 124, 126, 127, 128, 129, 132, 134, 135, 136, 137, 138, 139, 142, 144, 145, 146, 147, 148, 149, 152, 154, 155, 156, 158, 159, 160, 163, 165, 166, 167, 169, 170, 171, 174, 175, 176, 177, 178, 179, 180]
set_option maxRecDepth 100000 in
def gb_pcs_127 : List Nat := [0, 1, 2, 5, 6, 7, 9, 12, 13, 16, 17, 20, 23, 25, 26, 29, 30, 31, 32, 33, 34, 35, 36, 37, 40, 43, 44, 47, 49, 52, 53, 56, 57, 58, 59, 62, 63, 66, 68, 69, 70, 73, 74, 75, 78, 79, 82, 84, 85, 86, 89, 90, 91, 94, 95, 96, 97, 100, 102, 104, 107, 109, 111, 114, 116, 118, 121, 123, 125, 128, 130, 132, 135, 137, 139, 142, 143, 146, 147, 150, 153, 156, 159, 160, 163, 164, 167, 168, 171, 174, 175, 176, 179, 182, 185, 186, 188, 189, 192, 195, 196, 199, 200, 201, 202, 203, 204, 205, 206, 208, 209, 210, 213, 214, 215, 216, 217, 218, 219, 220, 222, 223, 224, 227, 228, 229, 230, 231, 232, 233, 234, 236, 237, 240, 241, 244, 247, 248, 251, 253, 256, 257, 260, 261, 262, 263, 264, 267, 268, 271, 272, 275, 276, 277, 280, 283, 284, 285, 288, 291, 292, 295, 297, 300, 301, 304, 305, 308, 309, 310, 313, 314, 315, 318, 319, 322, 324, 325, 326, 329, 330, 331, 334, 335, 336, 339, 342, 344, 346, 349, 351, 353, 356, 358, 360, 363, 364, 367, 368, 371, 374, 377, 380, 381, 384, 385, 388, 389, 392, 395, 396, 397, 400, 403, 406, 407, 409, 410, 413, 416, 417, 418, 420, 423, 426, 427, 429, 430, 433, 434, 437, 440, 441, 444, 445, 446, 447, 448, 451, 452, 454, 455, 457, 459, 462, 463, 466, 468, 470, 473, 474, 477, 478, 479, 480, 483, 484, 486, 487, 489, 490, 491, 494, 495, 497, 498, 500, 501, 502, 505, 506, 507, 508, 509, 510, 511]
set_option maxRecDepth 100000 in
def gb_pcs_128 : List Nat := [0, 1, 2, 5, 6, 9, 10, 12, 13, 14, 17, 18, 19, 20, 21, 24, 25, 26, 27, 28, 31, 32, 33, 34, 35, 38, 39, 40, 41, 42, 45, 46, 47, 48, 49, 52, 53, 56, 59, 60, 63, 64, 65, 66, 69, 70, 73, 74, 77, 80, 81, 84, 85, 88, 91, 92, 93, 96, 98]
set_option maxRecDepth 100000 in
def gb_pcs_129 : List Nat := [0, 1, 2, 5, 7, 10, 12, 13, 14, 17, 18, 21, 22, 23, 26, 27, 28, 29, 30, 31, 32, 35, 38, 39, 42, 43, 44, 47, 50, 51, 52, 53, 54, 57, 60, 61, 64, 65, 66, 67, 68, 71, 72, 73, 76, 77, 78, 79, 80, 83, 84, 85, 88, 89, 90, 91, 92, 95, 96, 97, 100, 101, 102, 103, 104, 107, 108, 109, 112, 113, 114, 115, 116, 119, 120, 121, 124, 125, 126, 127, 128, 129, 130, 132, 135, 136, 139, 140, 141, 144, 146, 147, 148, 149, 150, 151, 153, 156, 157, 160, 161, 162, 165, 167, 168, 169, 170, 171, 172, 175, 176, 177, 180, 182, 183, 184, 185, 186, 187, 189, 192, 193, 196, 197, 198, 201, 203, 204, 205, 206, 207, 210, 213, 214, 217, 218, 219, 220, 221, 224, 225, 226, 227, 228, 231, 232, 233, 234, 235, 236, 239, 240, 241, 242, 243, 246, 247, 248, 251, 252, 253, 256, 259, 262, 263, 266, 267, 268]
set_option maxRecDepth 100000 in
def gb_pcs_130 : List Nat := [0, 1, 2, 3, 4, 7, 8, 9, 10, 11, 12, 15]
set_option maxRecDepth 100000 in
def gb_pcs_131 : List Nat := [0, 1, 2, 3, 4, 7, 8, 9, 10, 11, 12, 15]
set_option maxRecDepth 100000 in
def gb_pcs_132 : List Nat := [0, 1, 2, 3, 4, 7, 8, 9, 10, 11, 12, 15]
set_option maxRecDepth 100000 in
def gb_pcs_133 : List Nat := [0, 1, 2, 3, 6, 9]
set_option maxRecDepth 100000 in
def gb_pcs_134 : List Nat := [0, 1, 2, 3, 5, 7, 8, 11, 12, 13, 16, 17, 20, 21, 23, 24, 25, 26, 29, 30, 33, 34, 37, 38, 40, 41, 42, 43, 46, 47, 48, 49, 50, 53, 55, 58, 59, 60, 63, 66, 67, 70, 71, 74, 75, 78, 79, 80, 81, 82, 83, 84]
set_option maxRecDepth 100000 in
def gb_pcs_135 : List Nat := [0, 1, 3, 4, 6, 7, 9, 11, 14, 17, 18, 21, 22, 23, 26, 27, 30, 32, 33, 36, 37, 38, 39, 41, 43, 44, 47, 48, 49, 52, 53, 56, 57, 60, 61, 63, 64, 65, 67, 68, 70, 71, 74, 75, 77, 78, 79, 80, 82, 84, 85, 88, 89, 90, 93, 94, 97, 98, 101, 102, 104, 105, 106, 107, 108, 110, 111, 113, 114, 117, 118, 120, 121, 122, 123, 125, 127, 128, 129, 131, 132, 135, 136, 137, 138, 139, 140, 141, 144, 147, 149, 151, 154, 155, 156, 158, 161, 162, 164, 165, 166, 169, 171, 173, 174, 175, 178, 181, 182]
set_option maxRecDepth 100000 in
def gb_pcs_136 : List Nat := [0, 1, 2, 3, 5, 6, 9, 10, 11, 12, 13, 14, 15, 18, 21, 22, 23, 24, 27, 30, 33, 34, 37, 40, 42, 43, 44, 47, 50, 53, 55, 56, 57, 58, 61, 64, 65, 66, 67, 68, 69, 70, 72, 75, 77, 79, 82, 84, 87, 89, 92, 94, 97, 98, 101]
set_option maxRecDepth 100000 in
def gb_pcs_137 : List Nat := [0, 1, 4, 5, 6, 7, 8, 9, 10, 11, 12, 15, 16, 17, 18, 19, 21, 23, 24, 27, 28, 29, 30, 31, 32, 33, 36, 37, 40, 41, 42, 43, 44, 45, 46, 48, 50, 51, 54, 55, 56, 57, 58, 59, 60, 63, 64, 67, 69, 70, 71, 72, 73, 74, 75, 78, 79, 80, 81, 82, 83, 84, 85, 88, 89, 90, 91, 92, 93, 94, 96, 98, 101, 102, 103, 106, 108, 109, 110, 111, 112, 113, 116, 117, 120, 123, 126, 129, 132, 133, 136, 137, 138, 139]
set_option maxRecDepth 100000 in
def gb_pcs_138 : List Nat := [0, 1, 3, 5, 6, 7, 9, 11, 13, 14, 15, 16, 19, 20, 21, 22, 25, 26, 29, 31, 32, 33, 34, 35, 36, 37, 40, 43, 44, 47, 49, 50, 51, 53, 54, 56, 57, 60, 63, 64, 67, 68, 70, 72, 74, 77, 79, 82, 83, 84, 86, 89, 92, 93, 96, 97, 98, 100, 103, 106, 108]
set_option maxRecDepth 100000 in
def gb_pcs_139 : List Nat := [0, 1, 2, 5, 8, 9, 10, 11, 14, 17, 20, 21, 22, 23, 24, 25, 27, 28, 31, 32, 35, 36, 37, 40, 41, 44, 45, 46, 49, 50, 51, 54, 55, 58, 59, 62, 63, 64, 65, 66]
set_option maxRecDepth 100000 in
def gb_pcs_140 : List Nat := [0, 1, 2, 5, 8, 9, 10, 13, 16, 17, 20, 23, 25, 28, 31, 32, 34, 37, 38, 39, 40, 41, 42, 44, 45, 48, 51, 52]
set_option maxRecDepth 100000 in
def gb_pcs_141 : List Nat := [0, 1, 2, 5, 8, 9, 10, 13, 16, 17, 20, 23, 24, 25, 26, 29, 30, 31, 33, 35, 37, 40, 42, 43, 44, 47, 48, 50, 51, 52, 53, 54, 57, 58, 60, 61, 62, 63, 64, 65, 66, 69, 70, 72, 73, 74, 75, 76, 77, 78, 81, 82, 83, 84, 85, 86, 87, 88, 91, 92, 93]
set_option maxRecDepth 100000 in
def gb_pcs_142 : List Nat := [0, 1, 2, 3, 4, 5, 6, 9, 10, 11, 14, 15, 18, 19, 20, 21, 22, 23, 24, 26, 27, 28, 31, 32, 33, 34, 35, 36, 39, 40, 41, 42, 43, 46, 47, 48, 50, 52, 53, 54, 57, 58, 59, 60, 61, 62, 63, 64, 67, 70, 71, 72, 73, 76, 77, 78, 79, 82, 85, 86]
set_option maxRecDepth 100000 in
def gb_pcs_143 : List Nat := [0, 1, 2, 3, 4, 7, 8, 9, 10, 11, 12, 15, 18, 19, 20, 23, 26, 27]
set_option maxRecDepth 100000 in
def gb_pcs_144 : List Nat := [0, 1, 4, 5, 6, 7, 8, 9, 10, 11, 12, 15, 16, 17, 18, 19, 22, 23, 24, 27, 28, 29, 32, 33, 34, 37, 38, 39, 42, 43, 44, 45, 46, 47, 50, 51, 52, 53, 54, 57, 58, 59, 60, 61, 63, 64, 65, 68, 69, 70, 71, 72, 74, 76, 78, 81, 83, 85, 86, 87, 88, 91, 94, 97, 99, 101, 104, 107, 110, 111, 114, 115, 117, 118, 119, 120, 122, 123, 124, 125, 128, 129, 130, 133, 134, 137, 138, 139, 140, 143, 144, 145, 148, 149, 152, 153]
set_option maxRecDepth 100000 in
def gb_pcs_145 : List Nat := [0, 1, 2, 5, 6, 7, 8, 9, 12, 13, 14, 15, 16, 17, 20, 23, 24, 25, 26, 29, 32, 34, 37, 38, 41, 42, 45, 46, 49, 50, 51]
set_option maxRecDepth 100000 in
def gb_pcs_146 : List Nat := [0, 1, 2, 5, 8, 9, 12, 15, 16, 17, 18, 21, 24, 27, 28, 30, 33, 36, 37, 38, 39, 42, 43, 44, 46, 48, 50, 53, 55, 56, 57, 60, 61, 63, 64, 65, 66, 67, 70, 71, 73, 74, 75, 76, 77, 78, 79, 82, 83, 85, 86, 87, 88, 89, 90, 91, 94, 95, 97, 98, 99, 100, 102, 103, 104, 107, 108, 110, 111, 112, 113, 115, 118, 119, 122, 123, 124, 125, 128, 129, 130, 131, 132, 133, 134, 135, 138, 139, 140]
set_option maxRecDepth 100000 in
def gb_pcs_147 : List Nat := [0, 1, 2, 5, 6, 7, 8, 9, 10, 11, 14, 15, 18, 19]
set_option maxRecDepth 100000 in
def gb_pcs_148 : List Nat := [0, 1, 4, 5, 6, 7, 8, 9, 12, 13, 16, 17, 18, 19, 20, 21, 22, 23, 26, 27, 30, 31]
set_option maxRecDepth 100000 in
def gb_pcs_149 : List Nat := [0, 1, 3, 4, 6, 8, 9, 12, 13, 14, 17, 19, 22, 23, 25, 26, 27, 30, 33, 34, 37, 38, 40, 41, 42, 43, 44, 45, 48, 49, 52, 53, 55, 56, 57, 58, 59, 60, 63, 64, 67, 68, 70, 73, 76, 78]
set_option maxRecDepth 100000 in
def gb_pcs_150 : List Nat := [0, 1, 3, 4, 6, 8, 9, 12, 13, 14, 17, 19, 22, 23, 25, 26, 27, 30, 33, 34, 37, 38, 40, 41, 42, 43, 44, 47, 48, 51, 52, 54, 55, 56, 57, 58, 59, 62, 63, 64, 67, 68, 70, 71, 72, 73, 74, 75, 78, 81, 82, 85, 86, 88, 91, 94, 96]
set_option maxRecDepth 100000 in
def gb_pcs_151 : List Nat := [0, 1, 2, 5, 8, 9, 10, 13, 16, 17, 20, 23, 24, 25, 26, 27, 28, 29, 32, 35, 36, 39, 40, 41, 42, 43, 46, 49, 50, 53, 54]
set_option maxRecDepth 100000 in
def gb_pcs_152 : List Nat := [0, 1, 2, 3, 4, 7, 10, 11, 12, 13, 14, 15, 16, 17, 18, 21, 22, 23, 26, 27, 30, 31, 32, 33, 34, 35, 36, 39, 40, 41, 44, 45, 46, 47, 48, 49, 50, 51, 54, 55, 56, 57, 58, 59, 62, 63, 64, 65, 66, 67, 68, 71, 74, 75, 78, 79, 81, 82, 84, 87, 88, 89, 92, 93, 94, 95, 96, 97, 98, 99, 102, 103, 104, 105, 106, 107, 108, 111, 112, 113, 116, 117, 120, 121, 124, 125, 126, 127, 130, 131, 132, 133, 136, 139, 140]
set_option maxRecDepth 100000 in
def gb_pcs_153 : List Nat := [0, 1, 4, 5, 6, 9, 10, 11, 14, 15, 16, 17, 18, 19, 22, 23, 24, 25, 28, 29, 30, 33, 36, 37, 40, 41]
set_option maxRecDepth 100000 in
def gb_pcs_154 : List Nat := [0, 1, 2, 4, 5, 6, 7, 8, 10, 11, 12, 13, 16, 17, 18, 19, 22, 23, 24, 25, 26, 29, 32, 33, 36, 37, 38, 39, 42, 45, 46]
set_option maxRecDepth 100000 in
def gb_pcs_155 : List Nat := [0, 1, 2, 5, 8, 9, 10, 13, 16, 17]
set_option maxRecDepth 100000 in
def gb_pcs_156 : List Nat := [0, 1, 3, 4, 6, 8, 9, 12, 13, 14, 17, 18, 21, 22, 24, 25, 26, 28, 29, 31, 33, 36, 39, 40, 42, 45, 46, 49, 50, 52, 54, 56, 57, 58, 61, 62, 65, 66, 69, 70, 72, 73, 74, 75, 76, 77, 78, 80, 81, 82, 83, 84, 85, 88, 89, 90, 93, 94, 96, 97, 98, 100, 103, 106, 108]
set_option maxRecDepth 100000 in
def gb_pcs_157 : List Nat := [0, 1, 2, 3, 6, 9]
set_option maxRecDepth 100000 in
def gb_pcs_158 : List Nat := [0, 1, 2, 5, 8, 9, 10, 13, 16, 17, 18, 21, 22, 25, 28, 30, 33, 36, 37, 38, 39, 40, 42, 45, 48, 51]
set_option maxRecDepth 100000 in
def gb_pcs_159 : List Nat := [0, 1, 2, 3, 4, 7, 8, 9, 10, 13, 16, 17, 20, 23, 24, 27, 30, 32, 33, 34, 35, 38, 41, 44, 45, 46, 48, 51, 53, 54, 56, 58, 59, 60, 61, 64, 65, 66, 69, 70, 72, 74, 75, 76, 77, 78, 79, 80, 83, 85, 87, 89, 90, 93, 95, 98, 100, 102, 104, 106, 107, 110, 112, 115, 117, 119, 122, 125, 127, 130, 132, 133, 136, 138]
set_option maxRecDepth 100000 in
def gb_pcs_160 : List Nat := [0, 1, 2, 3, 4, 7, 8, 9, 10, 13, 16, 17, 18, 19, 22, 25, 28, 29, 32, 35, 37, 40, 43, 45, 46, 49, 52, 53, 54, 56, 58, 59, 60, 61, 64, 65, 66, 69, 70, 73, 75, 76, 78, 80, 81, 82, 83, 84, 85, 87, 90, 91, 94, 97, 100, 102, 103, 106, 107, 108, 109, 110, 112, 113, 115, 117, 119, 122, 123, 124, 127, 129, 130, 131, 134, 135, 137, 139, 140, 141, 144, 146, 149, 150, 153, 154, 155, 158, 160, 161, 162, 165, 166, 168, 170, 171, 172, 175, 177, 180, 181, 184, 185, 188, 190, 191, 192, 193, 196, 197, 200, 202, 203, 206, 207, 208, 209, 210, 213, 214, 217, 219, 220, 223, 224, 225, 227, 229, 231, 232, 235, 237, 239, 240, 243, 244, 246, 247, 248, 251, 252, 254, 255, 256, 259, 260, 262, 263, 266, 269, 272, 275, 278, 281, 283, 284, 285, 288, 290, 291, 294, 297, 300, 302, 305, 307, 310, 311, 314, 316, 317, 318]
set_option maxRecDepth 100000 in
def gb_pcs_161 : List Nat := [0, 1, 2, 3, 6, 9, 12, 13, 14, 15, 16, 17, 18, 21, 22, 23, 26, 27, 30, 31, 32, 33, 36, 38, 39, 42, 45, 46, 49, 50, 51, 53, 56, 58, 59, 60, 63, 64, 67, 68, 69, 70, 71, 72, 75, 76, 77, 78, 79, 80, 81, 82, 85, 86, 87]
set_option maxRecDepth 100000 in
def gb_pcs_162 : List Nat := [0, 1, 2, 3, 4, 5, 6, 9, 10, 11, 14, 15, 18, 19, 20, 21, 24, 25, 28, 29, 30, 33, 34, 35, 38, 41, 42]
set_option maxRecDepth 100000 in
def gb_pcs_163 : List Nat := [0, 1, 3, 4, 6, 8, 9, 10, 13, 15, 17, 18, 20, 22, 24, 26, 28, 31, 32, 33, 35, 36, 39, 40, 41, 43, 44, 47]
set_option maxRecDepth 100000 in
def gb_pcs_164 : List Nat := [0, 1, 2, 3, 6, 9, 12, 13, 14, 15, 18, 19, 20, 21, 22, 25, 27, 28, 29, 32, 33, 34, 35, 36, 37, 38, 39, 40, 41, 42, 43, 44, 45, 46, 47, 50, 51, 54, 55, 56, 59, 60, 61, 64, 65, 68, 71, 72, 75, 76]
set_option maxRecDepth 100000 in
def gb_pcs_165 : List Nat := [0, 1, 2, 3, 6, 9, 12, 13, 14, 15, 16, 19, 22, 25, 26, 27, 28, 31, 32, 33, 36, 38, 39, 40, 43, 44, 47, 48, 49, 50, 51, 52, 53, 55, 58, 60, 61, 62, 64, 67, 69, 70, 73, 76, 79, 81]
set_option maxRecDepth 100000 in
def gb_pcs_166 : List Nat := [0, 3, 4, 5, 7, 9, 10, 13, 14, 15, 18, 19, 20, 22, 23, 24, 25, 26, 28, 29, 30, 31, 32, 35, 38, 39]
set_option maxRecDepth 100000 in
def gb_pcs_167 : List Nat := [0, 1, 2, 3, 4, 6, 7, 8, 9, 10, 11, 12, 15, 16, 19, 20]
set_option maxRecDepth 100000 in
def gb_pcs_168 : List Nat := [0, 1, 2, 3, 6, 9, 12, 13, 14, 15, 18, 21, 24, 25, 28, 29]
set_option maxRecDepth 100000 in
def gb_pcs_169 : List Nat := [0, 1, 2, 5, 8, 9, 10, 11, 14, 17, 20, 21, 22, 23, 25, 26, 28, 30, 31, 34, 36, 37, 40, 42, 45, 48, 50]
set_option maxRecDepth 100000 in
def gb_pcs_170 : List Nat := [0, 1, 2, 5, 8, 9, 10, 11, 12, 13, 15, 16, 19, 20, 21, 24, 25, 28, 31, 33]
set_option maxRecDepth 100000 in
def gb_pcs_171 : List Nat := [0, 1, 3, 4, 6, 8, 9, 12, 14, 15, 16, 17, 20, 21, 24, 26, 27, 28, 29, 30, 31, 33, 34, 35, 36, 38, 40, 42, 45, 46, 49, 50, 51, 52, 53, 54, 55, 58, 60, 62, 65, 66, 69, 71, 73, 76, 77, 80, 82, 84, 85, 88, 90, 91, 92, 93, 94, 95, 97, 98, 99, 100, 102, 104, 107, 108, 111, 113, 114, 115, 116, 117, 118, 120, 121, 122, 123, 125, 128, 130, 132, 135, 138, 140, 142, 145, 146, 149, 150, 152, 155, 158, 160]
set_option maxRecDepth 100000 in
def gb_pcs_172 : List Nat := [0, 1, 2, 5, 8, 9, 10, 13, 16, 17, 20, 23, 25, 26, 27, 30, 33, 36, 37, 38, 39, 41, 43, 44, 47, 48, 49, 52, 53, 55, 56, 57, 58, 61, 64, 66, 67, 70, 71, 74, 76, 78, 79, 81, 82, 84, 85, 86, 89, 90, 93, 94, 95, 96, 97, 98, 99, 100, 103, 105, 107, 108, 110, 111, 112, 113, 115, 116, 117, 120, 123, 125, 128, 129, 132, 133]
set_option maxRecDepth 100000 in
def gb_pcs_173 : List Nat := [0, 1, 4, 7, 8, 9, 10, 13, 16, 19, 20, 23, 26, 28, 29, 30, 33, 36, 39, 41, 42, 43, 46, 49, 52, 53, 54, 55, 57, 58, 60, 61, 63, 64, 65, 66, 68, 70, 71, 72, 73, 76, 77, 79, 80, 82, 84, 85, 87, 88, 91, 93, 95, 97, 100, 101, 104, 105, 106, 108, 110, 112, 114, 117, 118, 121, 122, 123, 125, 127, 129, 131, 134, 135, 138, 139, 140, 142, 145, 148, 151, 154, 156, 158, 159, 162, 163, 166, 168, 170, 171, 174, 175, 178, 179, 181, 183, 186, 188, 191, 193, 194, 197, 199, 202, 204, 205, 208, 210, 213, 215]
set_option maxRecDepth 100000 in
def gb_pcs_174 : List Nat := [0, 1, 2, 3, 6, 9]
set_option maxRecDepth 100000 in
def gb_pcs_175 : List Nat := [0, 1, 4, 7, 8, 9, 10, 13, 16, 19, 20, 21, 22, 25, 28, 31, 32, 33, 34, 37, 39, 40, 41, 42, 43, 44, 46, 47, 50, 52, 53, 54, 55, 56, 57, 58, 60]
set_option maxRecDepth 100000 in
def gb_pcs_176 : List Nat := [0, 1, 4, 7, 8, 9, 10, 13, 16, 19, 20, 21, 22, 25, 26, 27, 28, 29, 32, 33, 34, 35, 36]
set_option maxRecDepth 100000 in
def gb_pcs_177 : List Nat := [0, 1, 3, 4, 6, 8, 10, 13, 15, 16, 18, 19, 20, 21, 22, 25, 26, 29, 31, 32, 33, 35, 36, 37, 38, 41, 42, 44, 45, 48, 49, 50, 52, 55, 58, 60]
set_option maxRecDepth 100000 in
def gb_pcs_178 : List Nat := [0, 1, 2, 3, 5, 7, 8, 11, 12, 13, 14, 16, 19, 21, 23, 24, 27, 30, 31, 33, 36, 37, 40, 42, 43, 44, 47, 48, 51, 53, 54, 57, 58, 59, 62, 65, 66, 69, 72, 75, 78, 79, 82, 83, 84, 85, 86]
set_option maxRecDepth 100000 in
def gb_pcs_179 : List Nat := [0, 1, 2, 3, 6, 9, 12, 13, 14, 15, 16, 19, 22, 23, 24, 25, 26, 27, 28, 31, 32, 33, 34, 35, 36, 39, 40, 43, 44, 46, 47, 50, 51, 53, 56, 57, 60, 63, 64, 65, 68, 69, 71, 72, 73, 75, 77, 79, 82, 84, 87, 88, 89, 91, 94, 96, 98, 99, 102, 103, 104, 107, 108, 111, 112, 114, 115, 116, 119, 120, 122, 123, 126, 129, 132, 135, 136, 139, 140, 141, 144, 147, 149, 152, 153, 156, 157, 160, 161, 162, 165, 166, 169, 170, 171]
set_option maxRecDepth 100000 in
def gb_pcs_180 : List Nat := [0, 1, 2, 3, 6, 9, 12, 13, 16, 19, 20, 21, 22, 25, 28, 31, 32, 33, 34, 35, 38, 41, 42]
set_option maxRecDepth 100000 in
def gb_pcs_181 : List Nat := [0, 1, 4, 5, 6, 9, 10, 11, 12, 13, 16, 17, 18, 21, 22, 23, 24, 25, 28, 29, 30, 33, 34, 35, 36, 37, 38, 39, 41, 44, 45, 48, 50, 51, 52, 53, 54, 55, 58, 60, 61, 62, 63, 64, 65, 66, 67, 69, 72, 73, 76, 78, 79, 80, 81, 82, 83, 86, 88, 89, 90, 91, 92, 93, 94, 95, 97, 100, 101, 104, 106, 107, 108, 109, 110, 111, 114, 116, 117, 118, 119, 120, 121, 122, 125, 128]
set_option maxRecDepth 100000 in
def gb_pcs_182 : List Nat := [0, 1, 4, 5, 8, 10, 11, 12, 13, 16, 17, 18, 21, 22, 23, 24, 27, 30, 31, 34]
set_option maxRecDepth 100000 in
def gb_pcs_183 : List Nat := [0, 1, 4, 7, 9, 10, 11, 12, 15, 16, 19, 20, 21, 24, 25, 26, 29, 30, 33]
set_option maxRecDepth 100000 in
def gb_pcs_184 : List Nat := [0, 1, 4, 5, 8, 9, 10, 13, 14, 15, 18, 19, 22, 23, 24, 27, 28, 29, 32, 33, 36, 37, 38, 41, 42, 43, 46, 47, 50, 51, 52, 55, 56, 57, 60, 61, 64, 65, 66, 69, 70, 71, 74, 75, 78, 79, 80, 83, 84, 86, 89, 90, 93, 94, 95, 98, 99, 101, 104, 105, 108, 111, 112, 114, 117, 118, 121, 124, 125]
set_option maxRecDepth 100000 in
def gb_pcs_185 : List Nat := [0, 1, 2, 3, 4, 7, 8, 9, 10, 11, 14, 15, 16, 17, 18, 21, 22, 23, 24, 25, 26, 27, 28, 29, 32, 33, 34, 35, 36, 38, 39, 40, 41, 42, 43, 45, 46, 47, 48, 49, 51, 52]
set_option maxRecDepth 100000 in
def gb_pcs_186 : List Nat := [0, 1, 2, 3, 4, 6, 7, 9, 12, 13, 14, 15, 16, 19, 22]
set_option maxRecDepth 100000 in
def gb_pcs_187 : List Nat := [0, 1, 2, 3, 4, 5, 6, 7, 10, 11, 12, 13, 14, 17, 20]
def gb_pcsL : List (List Nat) := [gb_pcs_0, gb_pcs_1, gb_pcs_2, gb_pcs_3, gb_pcs_4, gb_pcs_5, gb_pcs_6, gb_pcs_7, gb_pcs_8, gb_pcs_9, gb_pcs_10, gb_pcs_11, gb_pcs_12, gb_pcs_13, gb_pcs_14, gb_pcs_15, gb_pcs_16, gb_pcs_17, gb_pcs_18, gb_pcs_19, gb_pcs_20, gb_pcs_21, gb_pcs_22, gb_pcs_23, gb_pcs_24, gb_pcs_25, gb_pcs_26, gb_pcs_27, gb_pcs_28, gb_pcs_29, gb_pcs_30, gb_pcs_31, gb_pcs_32, gb_pcs_33, gb_pcs_34, gb_pcs_35, gb_pcs_36, gb_pcs_37, gb_pcs_38, gb_pcs_39, gb_pcs_40, gb_pcs_41, gb_pcs_42, gb_pcs_43, gb_pcs_44, gb_pcs_45, gb_pcs_46, gb_pcs_47, gb_pcs_48, gb_pcs_49, gb_pcs_50, gb_pcs_51, gb_pcs_52, gb_pcs_53, gb_pcs_54, gb_pcs_55, gb_pcs_56, gb_pcs_57, gb_pcs_58, gb_pcs_59, gb_pcs_60, gb_pcs_61, gb_pcs_62, gb_pcs_63, gb_pcs_64, gb_pcs_65, gb_pcs_66, gb_pcs_67, gb_pcs_68, gb_pcs_69, gb_pcs_70, gb_pcs_71, gb_pcs_72, gb_pcs_73, gb_pcs_74, gb_pcs_75, gb_pcs_76, gb_pcs_77, gb_pcs_78, gb_pcs_79, gb_pcs_80, gb_pcs_81, gb_pcs_82, gb_pcs_83, gb_pcs_84, gb_pcs_85, gb_pcs_86, gb_pcs_87, gb_pcs_88, gb_pcs_89, gb_pcs_90, gb_pcs_91, gb_pcs_92, gb_pcs_93, gb_pcs_94, gb_pcs_95, gb_pcs_96, gb_pcs_97, gb_pcs_98, gb_pcs_99, gb_pcs_100, gb_pcs_101, gb_pcs_102, gb_pcs_103, gb_pcs_104, gb_pcs_105, gb_pcs_106, gb_pcs_107, gb_pcs_108, gb_pcs_109, gb_pcs_110, gb_pcs_111, gb_pcs_112, gb_pcs_113, gb_pcs_114, gb_pcs_115, gb_pcs_116, gb_pcs_117, gb_pcs_118, gb_pcs_119, gb_pcs_120, gb_pcs_121, gb_pcs_122, gb_pcs_123, gb_pcs_124, gb_pcs_125, gb_pcs_126, gb_pcs_127, gb_pcs_128, gb_pcs_129, gb_pcs_130, gb_pcs_131, gb_pcs_132, gb_pcs_133, gb_pcs_134, gb_pcs_135, gb_pcs_136, gb_pcs_137, gb_pcs_138, gb_pcs_139, gb_pcs_140, gb_pcs_141, gb_pcs_142, gb_pcs_143, gb_pcs_144, gb_pcs_145, gb_pcs_146, gb_pcs_147, gb_pcs_148, gb_pcs_149, gb_pcs_150, gb_pcs_151, gb_pcs_152, gb_pcs_153, gb_pcs_154, gb_pcs_155, gb_pcs_156, gb_pcs_157, gb_pcs_158, gb_pcs_159, gb_pcs_160, gb_pcs_161, gb_pcs_162, gb_pcs_163, gb_pcs_164, gb_pcs_165, gb_pcs_166, gb_pcs_167, gb_pcs_168, gb_pcs_169, gb_pcs_170, gb_pcs_171, gb_pcs_172, gb_pcs_173, gb_pcs_174, gb_pcs_175, gb_pcs_176, gb_pcs_177, gb_pcs_178, gb_pcs_179, gb_pcs_180, gb_pcs_181, gb_pcs_182, gb_pcs_183, gb_pcs_184, gb_pcs_185, gb_pcs_186, gb_pcs_187]
def gb_pcs (k : Nat) : List Nat := gb_pcsL.getD k []
def gb_metL : List (MethodName × ByteArray × Option FieldType) := [(⟨"GaleBeachLaw", "law", "([I)Z"⟩, code, (some .boolean)), (⟨"GaleBeach$Beach", "<init>", "()V"⟩, prog_2_method_1_code, none), (⟨"GaleBeach$Beach", "worldsOf", "(I)I"⟩, prog_2_method_2_code, (some .int)), (⟨"GaleBeach$Beach", "readFrom", "(LGaleBeach$Scroll;)I"⟩, prog_2_method_3_code, (some .int)), (⟨"GaleBeach$Beach", "readItem", "(LGaleBeach$Scroll;)Z"⟩, prog_2_method_4_code, (some .boolean)), (⟨"GaleBeach$Beach", "readNumbers", "(LGaleBeach$Scroll;I)Z"⟩, prog_2_method_5_code, (some .boolean)), (⟨"GaleBeach$Beach", "addCells", "()Z"⟩, prog_2_method_6_code, (some .boolean)), (⟨"GaleBeach$Beach", "addTide", "()Z"⟩, prog_2_method_7_code, (some .boolean)), (⟨"GaleBeach$Beach", "addWind", "()Z"⟩, prog_2_method_8_code, (some .boolean)), (⟨"GaleBeach$Beach", "addKind", "()Z"⟩, prog_2_method_9_code, (some .boolean)), (⟨"GaleBeach$Beach", "addLoss", "()Z"⟩, prog_2_method_10_code, (some .boolean)), (⟨"GaleBeach$Landings", "<init>", "()V"⟩, prog_3_method_1_code, none), (⟨"GaleBeach$Landings", "forget", "()V"⟩, prog_3_method_2_code, none), (⟨"GaleBeach$Landings", "release", "(LGaleBeach$Beach;IIII)V"⟩, prog_3_method_3_code, none), (⟨"GaleBeach$Landings", "settle", "(LGaleBeach$Beach;I)V"⟩, prog_3_method_4_code, none), (⟨"GaleBeach$Landings", "howMany", "(IIIII)I"⟩, prog_3_method_5_code, (some .int)), (⟨"GaleBeach$Law", "<init>", "()V"⟩, prog_4_method_1_code, none), (⟨"GaleBeach$Law", "readFrom", "(LGaleBeach$Scroll;)I"⟩, prog_4_method_2_code, (some .int)), (⟨"GaleBeach$Law", "readConditions", "(LGaleBeach$Scroll;)Z"⟩, prog_4_method_3_code, (some .boolean)), (⟨"GaleBeach$Law", "readCondition", "(LGaleBeach$Scroll;I)Z"⟩, prog_4_method_4_code, (some .boolean)), (⟨"GaleBeach$Law", "readOutcome", "(LGaleBeach$Scroll;)Z"⟩, prog_4_method_5_code, (some .boolean)), (⟨"GaleBeach$Law", "firstThatHolds", "(IIII)I"⟩, prog_4_method_6_code, (some .int)), (⟨"GaleBeach$Law", "valueOf", "(IIIII)I"⟩, prog_4_method_7_code, (some .int)), (⟨"GaleBeach$Matching", "<init>", "()V"⟩, prog_5_method_1_code, none), (⟨"GaleBeach$Matching", "solve", "(I)Z"⟩, prog_5_method_2_code, (some .boolean)), (⟨"GaleBeach$Matching", "lowestFor", "(II)I"⟩, prog_5_method_3_code, (some .int)), (⟨"GaleBeach$Matching", "choiceOf", "(I)I"⟩, prog_5_method_4_code, (some .int)), (⟨"GaleBeach$Outlook", "<init>", "()V"⟩, prog_6_method_1_code, none), (⟨"GaleBeach$Outlook", "readReports", "(LGaleBeach$Beach;LGaleBeach$Shore;)V"⟩, prog_6_method_2_code, none), (⟨"GaleBeach$Outlook", "weigh", "(LGaleBeach$Beach;LGaleBeach$Landings;II)V"⟩, prog_6_method_3_code, none), (⟨"GaleBeach$Outlook", "sumOver", "(LGaleBeach$Beach;III)J"⟩, prog_6_method_4_code, (some .long)), (⟨"GaleBeach$Outlook", "weighStretches", "(LGaleBeach$Beach;II)V"⟩, prog_6_method_5_code, none), (⟨"GaleBeach$Outlook", "bestStretch", "(I)I"⟩, prog_6_method_6_code, (some .int)), (⟨"GaleBeach$Outlook", "joinStretches", "(III)V"⟩, prog_6_method_7_code, none), (⟨"GaleBeach$Outlook", "sumFrom", "(III)J"⟩, prog_6_method_8_code, (some .long)), (⟨"GaleBeach$Outlook", "beginOf", "(IIII)I"⟩, prog_6_method_9_code, (some .int)), (⟨"GaleBeach$Scroll", "<init>", "()V"⟩, prog_7_method_1_code, none), (⟨"GaleBeach$Scroll", "append", "(IJ)V"⟩, prog_7_method_2_code, none), (⟨"GaleBeach$Scroll", "hasMore", "()Z"⟩, prog_7_method_3_code, (some .boolean)), (⟨"GaleBeach$Scroll", "peek", "()I"⟩, prog_7_method_4_code, (some .int)), (⟨"GaleBeach$Scroll", "takeByte", "()I"⟩, prog_7_method_5_code, (some .int)), (⟨"GaleBeach$Scroll", "take", "(I)Z"⟩, prog_7_method_6_code, (some .boolean)), (⟨"GaleBeach$Scroll", "takeNumber", "(Z)Z"⟩, prog_7_method_7_code, (some .boolean)), (⟨"GaleBeach$Shore", "<init>", "()V"⟩, prog_8_method_1_code, none), (⟨"GaleBeach$Shore", "clear", "()V"⟩, prog_8_method_2_code, none), (⟨"GaleBeach$Shore", "addKept", "()I"⟩, prog_8_method_3_code, (some .int)), (⟨"GaleBeach$Shore", "goBack", "()I"⟩, prog_8_method_4_code, (some .int)), (⟨"GaleBeach$Shore", "addFind", "(III)I"⟩, prog_8_method_5_code, (some .int)), (⟨"GaleBeach$Shore", "addReport", "(IIIIZ)I"⟩, prog_8_method_6_code, (some .int)), (⟨"GaleBeach$Shore", "sawBy", "(III)Z"⟩, prog_8_method_7_code, (some .boolean)), (⟨"GaleBeach$Shore", "sawNoneFrom", "(IIII)Z"⟩, prog_8_method_8_code, (some .boolean)), (⟨"GaleBeach$Shore", "hasNumber", "(I)Z"⟩, prog_8_method_9_code, (some .boolean)), (⟨"GaleBeach$Shore", "addNumber", "(I)I"⟩, prog_8_method_10_code, (some .int)), (⟨"GaleBeach$Shore", "greatestNumber", "()I"⟩, prog_8_method_11_code, (some .int)), (⟨"GaleBeach$Stuffs", "<init>", "()V"⟩, prog_9_method_1_code, none), (⟨"GaleBeach$Stuffs", "setShown", "(III)I"⟩, prog_9_method_2_code, (some .int)), (⟨"GaleBeach$Stuffs", "part", "(III)I"⟩, prog_9_method_3_code, (some .int)), (⟨"GaleBeach$Stuffs", "solve", "(I)V"⟩, prog_9_method_4_code, none), (⟨"GaleBeach$Stuffs", "leastCost", "(I)I"⟩, prog_9_method_5_code, (some .int)), (⟨"GaleBeach$Stuffs", "costThrough", "(II)I"⟩, prog_9_method_6_code, (some .int)), (⟨"GaleBeach$Stuffs", "firstTest", "(I)I"⟩, prog_9_method_7_code, (some .int)), (⟨"GaleBeach$Weather", "<init>", "()V"⟩, prog_10_method_1_code, none), (⟨"GaleBeach$Weather", "clear", "()V"⟩, prog_10_method_2_code, none), (⟨"GaleBeach$Weather", "addTide", "(II)V"⟩, prog_10_method_3_code, none), (⟨"GaleBeach$Weather", "addWind", "(III)V"⟩, prog_10_method_4_code, none), (⟨"GaleBeach$Weather", "makeRoom", "(I)V"⟩, prog_10_method_5_code, none), (⟨"GaleBeach", "<init>", "()V"⟩, prog_1_method_1_code, none), (⟨"GaleBeach", "write", "(IJ)I"⟩, prog_1_method_2_code, (some .int)), (⟨"GaleBeach", "wipe", "()I"⟩, prog_1_method_3_code, (some .int)), (⟨"GaleBeach", "fault", "(Z)I"⟩, prog_1_method_4_code, (some .int)), (⟨"GaleBeach", "lay", "(Z)I"⟩, prog_1_method_5_code, (some .int)), (⟨"GaleBeach", "layLaw", "()I"⟩, prog_1_method_6_code, (some .int)), (⟨"GaleBeach", "layBeach", "()I"⟩, prog_1_method_7_code, (some .int)), (⟨"GaleBeach", "drift", "(IIIII)I"⟩, prog_1_method_8_code, (some .int)), (⟨"GaleBeach", "worlds", "(II)I"⟩, prog_1_method_9_code, (some .int)), (⟨"GaleBeach", "ashore", "(IIII)I"⟩, prog_1_method_10_code, (some .int)), (⟨"GaleBeach", "find", "(III)I"⟩, prog_1_method_11_code, (some .int)), (⟨"GaleBeach", "from", "(I)I"⟩, prog_1_method_12_code, (some .int)), (⟨"GaleBeach", "lossesBehind", "(I)I"⟩, prog_1_method_13_code, (some .int)), (⟨"GaleBeach", "parted", "(I)I"⟩, prog_1_method_14_code, (some .int)), (⟨"GaleBeach", "report", "(IIIIZ)I"⟩, prog_1_method_15_code, (some .int)), (⟨"GaleBeach", "there", "(III)I"⟩, prog_1_method_16_code, (some .int)), (⟨"GaleBeach", "missed", "(I)I"⟩, prog_1_method_17_code, (some .int)), (⟨"GaleBeach", "left", "(I)I"⟩, prog_1_method_18_code, (some .int)), (⟨"GaleBeach", "hope", "(IIII)J"⟩, prog_1_method_19_code, (some .long)), (⟨"GaleBeach", "walk", "(IIII)J"⟩, prog_1_method_20_code, (some .long)), (⟨"GaleBeach", "walks", "(IIIII)J"⟩, prog_1_method_21_code, (some .long)), (⟨"GaleBeach", "weighLosses", "(I)V"⟩, prog_1_method_22_code, none), (⟨"GaleBeach", "number", "(I)I"⟩, prog_1_method_23_code, (some .int)), (⟨"GaleBeach", "fell", "(I)I"⟩, prog_1_method_24_code, (some .int)), (⟨"GaleBeach", "most", "(II)I"⟩, prog_1_method_25_code, (some .int)), (⟨"GaleBeach", "greatestLikely", "(IIJ)I"⟩, prog_1_method_26_code, (some .int)), (⟨"GaleBeach", "oddsOf", "(III)J"⟩, prog_1_method_27_code, (some .long)), (⟨"GaleBeach", "shortened", "(III)I"⟩, prog_1_method_28_code, (some .int)), (⟨"GaleBeach", "glass", "(III)I"⟩, prog_1_method_29_code, (some .int)), (⟨"GaleBeach", "life", "(II)I"⟩, prog_1_method_30_code, (some .int)), (⟨"GaleBeach", "isGlass", "(II)Z"⟩, prog_1_method_31_code, (some .boolean)), (⟨"GaleBeach", "wornByAYear", "(II)I"⟩, prog_1_method_32_code, (some .int)), (⟨"GaleBeach", "whose", "(IIII)I"⟩, prog_1_method_33_code, (some .int)), (⟨"GaleBeach", "two", "(IIIII)I"⟩, prog_1_method_34_code, (some .int)), (⟨"GaleBeach", "show", "(III)I"⟩, prog_1_method_35_code, (some .int)), (⟨"GaleBeach", "cost", "(II)I"⟩, prog_1_method_36_code, (some .int)), (⟨"GaleBeach", "parting", "(II)I"⟩, prog_1_method_37_code, (some .int)), (⟨"GaleBeach", "shown", "(III)I"⟩, prog_1_method_38_code, (some .int)), (⟨"GaleBeach", "keep", "()I"⟩, prog_1_method_39_code, (some .int)), (⟨"GaleBeach", "back", "()I"⟩, prog_1_method_40_code, (some .int)), (⟨"GaleBeach", "count", "(I)I"⟩, prog_1_method_41_code, (some .int)), (⟨"GaleBeach", "within", "(III)Z"⟩, prog_1_method_42_code, (some .boolean)), (⟨"GaleBeach", "isHour", "(I)Z"⟩, prog_1_method_43_code, (some .boolean)), (⟨"GaleBeach", "isEyes", "(I)Z"⟩, prog_1_method_44_code, (some .boolean)), (⟨"GaleBeach", "isTest", "(I)Z"⟩, prog_1_method_45_code, (some .boolean)), (⟨"GaleBeach", "isShown", "(I)Z"⟩, prog_1_method_46_code, (some .boolean)), (⟨"GaleBeach", "isSet", "(I)Z"⟩, prog_1_method_47_code, (some .boolean)), (⟨"GaleBeach", "isCell", "(I)Z"⟩, prog_1_method_48_code, (some .boolean)), (⟨"GaleBeach", "isKind", "(I)Z"⟩, prog_1_method_49_code, (some .boolean)), (⟨"GaleBeach", "isLoss", "(I)Z"⟩, prog_1_method_50_code, (some .boolean)), (⟨"GaleBeachModel", "<init>", "()V"⟩, prog_12_method_1_code, none), (⟨"GaleBeachModel", "in", "(JJJ)Z"⟩, prog_12_method_2_code, (some .boolean)), (⟨"GaleBeachModel", "write", "(IJ)I"⟩, prog_12_method_3_code, (some .int)), (⟨"GaleBeachModel", "wipe", "()I"⟩, prog_12_method_4_code, (some .int)), (⟨"GaleBeachModel", "next", "()I"⟩, prog_12_method_5_code, (some .int)), (⟨"GaleBeachModel", "value", "(II)I"⟩, prog_12_method_6_code, (some .int)), (⟨"GaleBeachModel", "more", "(II)I"⟩, prog_12_method_7_code, (some .int)), (⟨"GaleBeachModel", "ends", "()V"⟩, prog_12_method_8_code, none), (⟨"GaleBeachModel", "item", "()V"⟩, prog_12_method_9_code, none), (⟨"GaleBeachModel", "kindItem", "()V"⟩, prog_12_method_10_code, none), (⟨"GaleBeachModel", "lossItem", "()V"⟩, prog_12_method_11_code, none), (⟨"GaleBeachModel", "ruleItem", "()V"⟩, prog_12_method_12_code, none), (⟨"GaleBeachModel", "fault", "(Z)I"⟩, prog_12_method_13_code, (some .int)), (⟨"GaleBeachModel", "lay", "(Z)I"⟩, prog_12_method_14_code, (some .int)), (⟨"GaleBeachModel", "isCell", "(I)Z"⟩, prog_12_method_15_code, (some .boolean)), (⟨"GaleBeachModel", "isKind", "(I)Z"⟩, prog_12_method_16_code, (some .boolean)), (⟨"GaleBeachModel", "isLoss", "(I)Z"⟩, prog_12_method_17_code, (some .boolean)), (⟨"GaleBeachModel", "isHour", "(I)Z"⟩, prog_12_method_18_code, (some .boolean)), (⟨"GaleBeachModel", "blows", "(II)I"⟩, prog_12_method_19_code, (some .int)), (⟨"GaleBeachModel", "drifts", "(IIII)I"⟩, prog_12_method_20_code, (some .int)), (⟨"GaleBeachModel", "drift", "(IIIII)I"⟩, prog_12_method_21_code, (some .int)), (⟨"GaleBeachModel", "laysWorlds", "(I)V"⟩, prog_12_method_22_code, none), (⟨"GaleBeachModel", "counts", "(IIIIIZ)I"⟩, prog_12_method_23_code, (some .int)), (⟨"GaleBeachModel", "worlds", "(II)I"⟩, prog_12_method_24_code, (some .int)), (⟨"GaleBeachModel", "ashore", "(IIII)I"⟩, prog_12_method_25_code, (some .int)), (⟨"GaleBeachModel", "find", "(III)I"⟩, prog_12_method_26_code, (some .int)), (⟨"GaleBeachModel", "fromOf", "(I)I"⟩, prog_12_method_27_code, (some .int)), (⟨"GaleBeachModel", "from", "(I)I"⟩, prog_12_method_28_code, (some .int)), (⟨"GaleBeachModel", "parts", "()Z"⟩, prog_12_method_29_code, (some .boolean)), (⟨"GaleBeachModel", "parted", "(I)I"⟩, prog_12_method_30_code, (some .int)), (⟨"GaleBeachModel", "report", "(IIIIZ)I"⟩, prog_12_method_31_code, (some .int)), (⟨"GaleBeachModel", "sees", "(II)Z"⟩, prog_12_method_32_code, (some .boolean)), (⟨"GaleBeachModel", "isOf", "(III)Z"⟩, prog_12_method_33_code, (some .boolean)), (⟨"GaleBeachModel", "isThere", "(III)Z"⟩, prog_12_method_34_code, (some .boolean)), (⟨"GaleBeachModel", "isNot", "(III)Z"⟩, prog_12_method_35_code, (some .boolean)), (⟨"GaleBeachModel", "there", "(III)I"⟩, prog_12_method_36_code, (some .int)), (⟨"GaleBeachModel", "missed", "(I)I"⟩, prog_12_method_37_code, (some .int)), (⟨"GaleBeachModel", "isGainsaid", "(II)Z"⟩, prog_12_method_38_code, (some .boolean)), (⟨"GaleBeachModel", "leftOf", "(I)I"⟩, prog_12_method_39_code, (some .int)), (⟨"GaleBeachModel", "left", "(I)I"⟩, prog_12_method_40_code, (some .int)), (⟨"GaleBeachModel", "hopeOf", "(IIII)J"⟩, prog_12_method_41_code, (some .long)), (⟨"GaleBeachModel", "areEyes", "(I)Z"⟩, prog_12_method_42_code, (some .boolean)), (⟨"GaleBeachModel", "hope", "(IIII)J"⟩, prog_12_method_43_code, (some .long)), (⟨"GaleBeachModel", "walk", "(IIII)J"⟩, prog_12_method_44_code, (some .long)), (⟨"GaleBeachModel", "walks", "(IIIII)J"⟩, prog_12_method_45_code, (some .long)), (⟨"GaleBeachModel", "number", "(I)I"⟩, prog_12_method_46_code, (some .int)), (⟨"GaleBeachModel", "greatest", "()I"⟩, prog_12_method_47_code, (some .int)), (⟨"GaleBeachModel", "lowest", "(JJ)V"⟩, prog_12_method_48_code, none), (⟨"GaleBeachModel", "fell", "(I)I"⟩, prog_12_method_49_code, (some .int)), (⟨"GaleBeachModel", "most", "(II)I"⟩, prog_12_method_50_code, (some .int)), (⟨"GaleBeachModel", "odds", "(II)J"⟩, prog_12_method_51_code, (some .long)), (⟨"GaleBeachModel", "worn", "(II)I"⟩, prog_12_method_52_code, (some .int)), (⟨"GaleBeachModel", "isGlass", "(II)Z"⟩, prog_12_method_53_code, (some .boolean)), (⟨"GaleBeachModel", "glass", "(III)I"⟩, prog_12_method_54_code, (some .int)), (⟨"GaleBeachModel", "life", "(II)I"⟩, prog_12_method_55_code, (some .int)), (⟨"GaleBeachModel", "holds", "(IIII)Z"⟩, prog_12_method_56_code, (some .boolean)), (⟨"GaleBeachModel", "whose", "(IIII)I"⟩, prog_12_method_57_code, (some .int)), (⟨"GaleBeachModel", "two", "(IIIII)I"⟩, prog_12_method_58_code, (some .int)), (⟨"GaleBeachModel", "isTest", "(I)Z"⟩, prog_12_method_59_code, (some .boolean)), (⟨"GaleBeachModel", "show", "(III)I"⟩, prog_12_method_60_code, (some .int)), (⟨"GaleBeachModel", "cost", "(II)I"⟩, prog_12_method_61_code, (some .int)), (⟨"GaleBeachModel", "shownOf", "(III)I"⟩, prog_12_method_62_code, (some .int)), (⟨"GaleBeachModel", "byTest", "(II)I"⟩, prog_12_method_63_code, (some .int)), (⟨"GaleBeachModel", "parting", "(II)I"⟩, prog_12_method_64_code, (some .int)), (⟨"GaleBeachModel", "shown", "(III)I"⟩, prog_12_method_65_code, (some .int)), (⟨"GaleBeachModel", "copies", "(II)V"⟩, prog_12_method_66_code, none), (⟨"GaleBeachModel", "keep", "()I"⟩, prog_12_method_67_code, (some .int)), (⟨"GaleBeachModel", "back", "()I"⟩, prog_12_method_68_code, (some .int)), (⟨"GaleBeachModel", "count", "(I)I"⟩, prog_12_method_69_code, (some .int)), (⟨"java/lang/Integer", "bitCount", "(I)I"⟩, prog_13_method_49_code, (some .int)), (⟨"java/util/Arrays", "fill", "([JJ)V"⟩, prog_15_method_101_code, none), (⟨"java/util/Arrays", "fill", "([II)V"⟩, prog_15_method_103_code, none)]
def gb_met (k : Nat) : MethodName × ByteArray × Option FieldType := gb_metL.getD k (⟨"", "", ""⟩, code, none)
def gb_moL : List Nat := [14, 0, 0, 0, 0, 0, 0, 0, 0, 0, 0, 1, 1, 1, 1, 1, 2, 2, 2, 2, 2, 2, 2, 3, 3, 3, 3, 4, 4, 4, 4, 4, 4, 4, 4, 4, 5, 5, 5, 5, 5, 5, 5, 6, 6, 6, 6, 6, 6, 6, 6, 6, 6, 6, 7, 7, 7, 7, 7, 7, 7, 8, 8, 8, 8, 8, 9, 9, 9, 9, 9, 9, 9, 9, 9, 9, 9, 9, 9, 9, 9, 9, 9, 9, 9, 9, 9, 9, 9, 9, 9, 9, 9, 9, 9, 9, 9, 9, 9, 9, 9, 9, 9, 9, 9, 9, 9, 9, 9, 9, 9, 9, 9, 9, 9, 9, 10, 10, 10, 10, 10, 10, 10, 10, 10, 10, 10, 10, 10, 10, 10, 10, 10, 10, 10, 10, 10, 10, 10, 10, 10, 10, 10, 10, 10, 10, 10, 10, 10, 10, 10, 10, 10, 10, 10, 10, 10, 10, 10, 10, 10, 10, 10, 10, 10, 10, 10, 10, 10, 10, 10, 10, 10, 10, 10, 10, 10, 10, 10, 10, 10, 10, 10, 10, 10, 11, 13, 13]
def gb_mo (k : Nat) : Nat := gb_moL.getD k 0
def gb_ftab : List ((Nat × Nat) × Nat × Nat) := [((0, 9), 0, 0), ((0, 15), 0, 1), ((0, 22), 0, 2), ((0, 26), 0, 3), ((0, 29), 0, 4), ((0, 32), 0, 5), ((0, 35), 0, 6), ((0, 38), 0, 7), ((0, 41), 0, 8), ((0, 44), 0, 9), ((0, 47), 0, 10), ((0, 50), 0, 11), ((0, 53), 0, 12), ((0, 56), 0, 13), ((0, 62), 5, 2), ((0, 102), 5, 3), ((0, 113), 8, 0), ((0, 119), 8, 3), ((1, 11), 1, 0), ((1, 15), 1, 1), ((1, 18), 1, 2), ((1, 24), 1, 3), ((1, 27), 1, 4), ((1, 30), 0, 2), ((1, 36), 0, 1), ((1, 38), 8, 4), ((1, 43), 8, 5), ((1, 47), 8, 6), ((1, 50), 8, 7), ((1, 53), 8, 0), ((1, 56), 8, 1), ((1, 59), 8, 2), ((1, 62), 0, 9), ((1, 65), 0, 4), ((1, 68), 0, 5), ((1, 71), 0, 12), ((1, 74), 0, 13), ((1, 77), 0, 10), ((1, 80), 0, 11), ((2, 9), 2, 0), ((2, 15), 2, 1), ((2, 21), 2, 2), ((2, 24), 2, 3), ((2, 27), 2, 4), ((2, 30), 2, 5), ((2, 33), 2, 6), ((2, 36), 2, 7), ((2, 39), 5, 2), ((2, 71), 5, 3), ((3, 9), 3, 0), ((3, 15), 3, 1), ((4, 11), 4, 0), ((4, 16), 4, 1), ((4, 20), 4, 2), ((4, 23), 4, 3), ((4, 29), 4, 4), ((4, 38), 6, 4), ((4, 44), 6, 8), ((4, 47), 6, 5), ((4, 50), 6, 9), ((4, 54), 6, 7), ((4, 57), 0, 6), ((4, 62), 6, 6), ((4, 71), 0, 9), ((4, 80), 1, 3), ((4, 83), 1, 4), ((4, 86), 0, 8), ((4, 89), 0, 7), ((4, 94), 0, 1), ((5, 9), 5, 0), ((5, 15), 5, 1), ((5, 19), 5, 2), ((5, 22), 5, 3), ((6, 9), 6, 0), ((6, 15), 6, 1), ((6, 19), 6, 2), ((6, 22), 6, 3), ((6, 25), 6, 4), ((6, 28), 6, 5), ((6, 31), 6, 6), ((6, 34), 6, 7), ((6, 37), 6, 8), ((6, 40), 6, 9), ((6, 44), 6, 10), ((6, 47), 6, 11), ((6, 50), 6, 12), ((6, 53), 6, 13), ((6, 56), 6, 14), ((6, 59), 6, 15), ((7, 13), 7, 0), ((7, 16), 7, 1), ((7, 19), 7, 2), ((7, 23), 7, 3), ((8, 7), 8, 0), ((8, 15), 8, 1), ((8, 19), 8, 2), ((8, 22), 8, 3), ((8, 25), 8, 4), ((8, 28), 8, 5), ((8, 31), 8, 6), ((8, 34), 8, 7), ((9, 10), 9, 0), ((9, 19), 9, 1), ((9, 26), 9, 2), ((9, 33), 9, 3), ((9, 40), 9, 4), ((9, 47), 9, 5), ((9, 54), 9, 6), ((9, 58), 9, 7), ((9, 64), 9, 8), ((9, 68), 9, 9), ((9, 75), 5, 1), ((9, 95), 2, 0), ((9, 104), 0, 1), ((9, 115), 1, 0), ((9, 118), 1, 1), ((9, 142), 6, 0), ((9, 152), 0, 8), ((9, 155), 0, 9), ((9, 159), 6, 1), ((9, 162), 6, 2), ((9, 165), 6, 3), ((9, 168), 3, 0), ((9, 180), 6, 4), ((9, 190), 0, 6), ((9, 197), 6, 8), ((9, 200), 6, 7), ((9, 203), 6, 9), ((9, 207), 6, 5), ((9, 210), 6, 6), ((9, 221), 4, 1), ((9, 241), 4, 3), ((9, 251), 4, 4), ((9, 262), 6, 10), ((9, 298), 0, 7), ((9, 304), 2, 7), ((9, 307), 2, 5), ((9, 310), 2, 6), ((9, 322), 7, 2), ((9, 330), 7, 3), ((9, 340), 6, 12), ((9, 349), 0, 3), ((10, 7), 10, 1), ((10, 13), 10, 3), ((10, 17), 10, 4), ((10, 20), 10, 5), ((10, 23), 10, 6), ((10, 26), 10, 7), ((10, 29), 10, 8), ((10, 32), 10, 9), ((10, 35), 10, 10), ((10, 38), 10, 11), ((10, 41), 10, 12), ((10, 44), 10, 13), ((10, 47), 10, 14), ((10, 50), 10, 15), ((10, 53), 10, 16), ((10, 56), 10, 19), ((10, 59), 10, 20), ((10, 62), 10, 21), ((10, 65), 10, 22), ((10, 68), 10, 23), ((10, 71), 10, 24), ((10, 74), 10, 25), ((10, 77), 10, 26), ((10, 80), 10, 27), ((10, 83), 10, 28), ((10, 86), 10, 29), ((10, 89), 10, 30), ((10, 92), 10, 31), ((10, 95), 10, 35), ((10, 105), 10, 0), ((10, 109), 10, 2), ((10, 120), 10, 34), ((10, 152), 10, 18), ((10, 164), 10, 17), ((10, 239), 10, 32), ((10, 243), 10, 33)]
def gb_ftabP : List Nat := [315, 316, 320, 322, 324, 326, 328, 331, 334, 337, 341, 343, 345, 347, 87, 90, 283, 289, 109, 111, 113, 114, 116, 321, 317, 291, 293, 295, 297, 282, 285, 287, 339, 325, 327, 346, 348, 342, 344, 385, 387, 388, 389, 390, 391, 393, 395, 86, 89, 210, 212, 227, 228, 230, 231, 233, 146, 158, 149, 161, 155, 329, 152, 338, 115, 117, 335, 332, 318, 82, 83, 85, 88, 137, 139, 141, 143, 145, 148, 151, 154, 157, 160, 163, 165, 166, 168, 169, 170, 254, 255, 256, 258, 281, 284, 286, 288, 290, 292, 294, 296, 414, 415, 416, 417, 418, 419, 420, 421, 422, 423, 84, 386, 319, 110, 112, 138, 336, 340, 140, 142, 144, 211, 147, 330, 159, 156, 162, 150, 153, 229, 232, 234, 164, 333, 396, 392, 394, 257, 259, 167, 323, 907, 909, 910, 911, 912, 913, 914, 915, 916, 917, 918, 919, 920, 921, 922, 925, 926, 927, 928, 929, 930, 931, 932, 933, 934, 935, 936, 937, 941, 906, 908, 940, 924, 923, 938, 939]
def gb_mtab : List ((Nat × Nat) × Nat × Bool) := [((14, 9), 66, false), ((14, 12), 116, false), ((14, 15), 67, false), ((14, 19), 118, false), ((14, 20), 68, false), ((14, 24), 119, false), ((14, 25), 69, false), ((14, 29), 128, false), ((14, 30), 70, false), ((14, 33), 129, false), ((14, 34), 73, false), ((14, 38), 136, false), ((14, 39), 74, false), ((14, 43), 139, false), ((14, 44), 75, false), ((14, 48), 140, false), ((14, 49), 76, false), ((14, 53), 141, false), ((14, 54), 77, false), ((14, 58), 143, false), ((14, 59), 79, false), ((14, 62), 145, false), ((14, 63), 80, false), ((14, 67), 146, false), ((14, 68), 81, false), ((14, 71), 151, false), ((14, 72), 82, false), ((14, 75), 152, false), ((14, 76), 83, false), ((14, 79), 155, false), ((14, 80), 84, false), ((14, 84), 158, false), ((14, 85), 85, false), ((14, 88), 159, false), ((14, 89), 86, false), ((14, 93), 160, false), ((14, 94), 88, false), ((14, 97), 161, false), ((14, 98), 89, false), ((14, 101), 164, false), ((14, 102), 90, false), ((14, 105), 165, false), ((14, 106), 94, false), ((14, 109), 169, false), ((14, 110), 95, false), ((14, 113), 170, false), ((14, 114), 98, false), ((14, 117), 172, false), ((14, 118), 99, false), ((14, 121), 173, false), ((14, 122), 100, false), ((14, 125), 175, false), ((14, 126), 101, false), ((14, 129), 176, false), ((14, 130), 102, false), ((14, 133), 179, false), ((14, 134), 103, false), ((14, 137), 180, false), ((14, 138), 104, false), ((14, 141), 182, false), ((14, 142), 105, false), ((14, 145), 183, false), ((14, 146), 106, false), ((14, 149), 184, false), ((0, 21), 61, true), ((0, 59), 62, false), ((0, 67), 38, false), ((0, 71), 4, false), ((0, 75), 40, false), ((0, 79), 5, false), ((0, 83), 6, false), ((0, 86), 7, false), ((0, 89), 8, false), ((0, 92), 9, false), ((0, 95), 10, false), ((0, 98), 42, false), ((0, 105), 41, false), ((0, 109), 107, true), ((0, 116), 63, false), ((0, 122), 108, true), ((0, 125), 64, false), ((0, 128), 109, true), ((1, 83), 13, false), ((1, 87), 107, true), ((2, 44), 38, false), ((2, 48), 18, false), ((2, 52), 20, false), ((2, 55), 41, false), ((2, 59), 19, false), ((2, 63), 40, false), ((2, 67), 42, false), ((2, 74), 22, false), ((3, 19), 185, false), ((3, 25), 25, false), ((4, 32), 187, false), ((4, 74), 2, false), ((4, 96), 30, false), ((4, 102), 186, false), ((4, 105), 34, false), ((5, 25), 39, false), ((5, 29), 41, false), ((5, 33), 107, true), ((7, 26), 185, false), ((7, 32), 58, false), ((7, 36), 59, false), ((7, 45), 56, false), ((8, 37), 65, false), ((9, 9), 36, true), ((9, 18), 11, true), ((9, 25), 43, true), ((9, 32), 23, true), ((9, 39), 27, true), ((9, 46), 54, false), ((9, 53), 1, true), ((9, 63), 16, true), ((9, 71), 107, false), ((9, 79), 37, false), ((9, 83), 17, false), ((9, 87), 3, false), ((9, 88), 71, false), ((9, 92), 72, false), ((9, 98), 12, false), ((9, 101), 44, false), ((9, 107), 108, false), ((9, 111), 13, false), ((9, 121), 115, false), ((9, 124), 14, false), ((9, 128), 2, false), ((9, 132), 15, false), ((9, 136), 113, false), ((9, 139), 114, false), ((9, 145), 47, false), ((9, 149), 78, false), ((9, 171), 24, false), ((9, 174), 26, false), ((9, 177), 109, false), ((9, 183), 48, false), ((9, 187), 49, false), ((9, 193), 50, false), ((9, 213), 28, false), ((9, 217), 29, false), ((9, 226), 87, false), ((9, 230), 30, false), ((9, 234), 31, false), ((9, 238), 32, false), ((9, 247), 33, false), ((9, 255), 35, false), ((9, 259), 51, false), ((9, 265), 52, false), ((9, 268), 53, false), ((9, 271), 93, false), ((9, 276), 91, false), ((9, 281), 92, false), ((9, 285), 96, false), ((9, 289), 97, false), ((9, 301), 21, false), ((9, 313), 110, false), ((9, 316), 111, false), ((9, 319), 55, false), ((9, 325), 112, false), ((9, 328), 57, false), ((9, 334), 60, false), ((9, 337), 56, false), ((9, 343), 45, false), ((9, 346), 46, false), ((10, 101), 117, false), ((10, 112), 120, false), ((10, 126), 121, false), ((10, 130), 123, false), ((10, 133), 122, false), ((10, 136), 125, false), ((10, 139), 126, false), ((10, 142), 127, false), ((10, 145), 124, false), ((10, 148), 128, false), ((10, 155), 137, false), ((10, 161), 134, false), ((10, 169), 133, false), ((10, 175), 135, false), ((10, 179), 153, false), ((10, 183), 132, false), ((10, 188), 138, false), ((10, 192), 130, false), ((10, 195), 131, false), ((10, 198), 142, false), ((10, 202), 144, false), ((10, 208), 148, false), ((10, 212), 147, false), ((10, 215), 149, false), ((10, 218), 150, false), ((10, 221), 154, false), ((10, 226), 157, false), ((10, 229), 156, false), ((10, 246), 162, false), ((10, 249), 163, false), ((10, 258), 166, false), ((10, 262), 168, false), ((10, 265), 167, false), ((10, 268), 171, false), ((10, 274), 174, false), ((10, 279), 177, false), ((10, 286), 178, false), ((10, 289), 181, false)]
def gb_mtabP : List Nat := [70, 902, 445, 1015, 456, 1023, 460, 1027, 561, 1066, 581, 1083, 590, 1093, 612, 1122, 620, 1130, 632, 1138, 640, 1146, 662, 1154, 671, 1159, 683, 1167, 687, 1171, 706, 1179, 720, 1192, 733, 1196, 757, 1201, 769, 1206, 781, 1218, 793, 1229, 804, 1239, 808, 1243, 819, 1251, 823, 1255, 837, 1264, 841, 1268, 875, 1282, 880, 1286, 888, 1294, 896, 1298, 277, 506, 510, 511, 515, 516, 522, 527, 535, 550, 557, 520, 521, 526, 531, 539, 542, 554, 602, 611, 468, 472, 498, 476, 484, 488, 492, 816, 648, 654, 695, 705, 728, 743, 746, 480, 496, 497, 852, 853, 858, 862, 546, 78, 103, 133, 206, 220, 249, 271, 380, 449, 452, 464, 502, 565, 569, 573, 577, 585, 586, 594, 598, 603, 607, 616, 624, 628, 636, 644, 658, 666, 667, 675, 679, 691, 701, 711, 715, 724, 729, 738, 753, 761, 765, 773, 778, 786, 790, 797, 800, 812, 827, 830, 833, 845, 848, 871, 879, 884, 892, 1020, 1035, 1041, 1050, 1046, 1058, 1062, 1031, 1054, 1070, 1071, 1079, 1088, 1075, 1106, 1097, 1102, 1126, 1134, 1142, 1150, 1114, 1118, 1163, 1110, 1175, 1183, 1186, 1210, 1214, 1225, 1233, 1236, 1247, 1259, 1278, 1274, 1290]
def gb_otab : List (Nat × Nat) := [(0, 3), (1, 3), (2, 3), (3, 3), (4, 3), (5, 3), (6, 3), (7, 5), (8, 1), (9, 1), (10, 1)]
def gb_otabP : List Nat := [274, 106, 383, 209, 223, 81, 136, 252, 280, 73, 905]
def gb_ctab : List ((Nat × Nat) × Int32) := [((7, 35), 1000000), ((9, 280), 99999), ((9, 333), 1000000), ((10, 257), 99999), ((10, 283), 1000000), ((11, 265), 1431655765), ((11, 266), 858993459), ((11, 267), 252645135)]
def gb_ctabP : List Nat := [857, 789, 870, 1224, 1273, 651, 652, 653]
def gb_ltab : List ((Nat × Nat) × Int64) := [((14, 13), 4294967295), ((4, 92), 1000000), ((4, 100), -1), ((9, 224), -1), ((9, 245), -4), ((9, 274), 1000000000), ((10, 99), 8), ((10, 116), 48), ((10, 118), 57), ((10, 124), 3), ((10, 159), 999), ((10, 167), 99), ((10, 173), 10), ((10, 186), 2), ((10, 206), 9), ((10, 224), 1000000), ((10, 233), -1), ((10, 235), -4), ((10, 237), 9999), ((10, 253), 1000), ((10, 255), 1000000000), ((10, 272), 5), ((10, 277), 7), ((10, 284), 255)]
def gb_ltabP : List Nat := [1302, 719, 742, 710, 737, 785, 1019, 1039, 1040, 1045, 1091, 1087, 1092, 1101, 1158, 1190, 1191, 1200, 1205, 1222, 1223, 1262, 1263, 1272]
def gb_ktab : List ((Nat × Nat) × Nat) := [((14, 7), 9), ((14, 10), 10), ((0, 19), 8), ((9, 7), 5), ((9, 16), 1), ((9, 23), 6), ((9, 30), 3), ((9, 37), 4), ((9, 44), 7), ((9, 51), 0), ((9, 61), 2)]
def gb_ktabP : List Nat := [68, 900, 275, 76, 101, 131, 204, 218, 247, 269, 378]
def gb_ntab : List ((Nat × Nat) × Nat) := [((1, 22), 4), ((2, 19), 4), ((4, 9), 4), ((4, 27), 5), ((7, 11), 4)]
def gb_ntabP : List Nat := [107, 384, 224, 225, 253]
def gb_jtab : List ((Nat × Nat) × Nat) := [((4, 65), 0), ((4, 109), 2), ((6, 62), 0), ((7, 40), 1), ((7, 49), 0), ((9, 293), 0)]
def gb_jtabP : List Nat := [698, 750, 777, 867, 866, 803]
theorem gb_tabP {α : Type} {tab : List α} {f : α → Cond} {ps : List Nat} (h : tab.map (fun e => some (f e)) = ps.map (fun i => lw_tbl[i]?)) : ∀ e ∈ tab, f e ∈ lw_tbl := by
  intro e he
  have h1 : some (f e) ∈ tab.map (fun e => some (f e)) := List.mem_map.mpr ⟨e, he, rfl⟩
  rw [h] at h1
  obtain ⟨i, -, hi⟩ := List.mem_map.mp h1
  exact List.mem_of_getElem? hi
theorem gb_lk {α β : Type} [BEq α] [LawfulBEq α] {tab : List (α × β)} {a : α} {b : β} (h : tab.lookup a = some b) : (a, b) ∈ tab := by
  induction tab with
  | nil => simp at h
  | cons x r ih =>
    obtain ⟨x1, x2⟩ := x
    rw [List.lookup_cons] at h
    by_cases e : a = x1
    · subst e
      simp at h
      subst h
      exact List.mem_cons_self
    · have : (a == x1) = false := by simp [e]
      rw [this] at h
      exact List.mem_cons_of_mem _ (ih h)
def gb_T (c : Nat) : u_T := match gb_cls[c]? with
  | some q => q.2.1
  | none => TX0
def gb_wF (e : (Nat × Nat) × Nat × Nat) : Cond := .fieldLink (gb_own e.1.1) e.1.2 (gb_T e.2.1 e.2.2).1 (gb_T e.2.1 e.2.2).2.1 (gb_T e.2.1 e.2.2).2.2.1
theorem gb_ftab_ok : ∀ e ∈ gb_ftab, gb_wF e ∈ lw_tbl := gb_tabP (ps := gb_ftabP) (by decide +kernel)
def gb_wM (e : (Nat × Nat) × Nat × Bool) : Cond := if e.2.2 then .methodLinkNest (gb_own e.1.1) e.1.2 (gb_met e.2.1).1 "GaleBeach" else .methodLink (gb_own e.1.1) e.1.2 (gb_met e.2.1).1
theorem gb_mtab_ok : ∀ e ∈ gb_mtab, gb_wM e ∈ lw_tbl := gb_tabP (ps := gb_mtabP) (by decide +kernel)
def gb_wO (e : Nat × Nat) : Cond := .methodLink (gb_own e.1) e.2 objectInit
theorem gb_otab_ok : ∀ e ∈ gb_otab, gb_wO e ∈ lw_tbl := gb_tabP (ps := gb_otabP) (by decide +kernel)
def gb_wC (e : (Nat × Nat) × Int32) : Cond := .constant (gb_own e.1.1) e.1.2 e.2
theorem gb_ctab_ok : ∀ e ∈ gb_ctab, gb_wC e ∈ lw_tbl := gb_tabP (ps := gb_ctabP) (by decide +kernel)
def gb_wL (e : (Nat × Nat) × Int64) : Cond := .constantLong (gb_own e.1.1) e.1.2 e.2
theorem gb_ltab_ok : ∀ e ∈ gb_ltab, gb_wL e ∈ lw_tbl := gb_tabP (ps := gb_ltabP) (by decide +kernel)
def gb_wK (e : (Nat × Nat) × Nat) : Cond := .classLink (gb_own e.1.1) e.1.2 (gb_own e.2)
theorem gb_ktab_ok : ∀ e ∈ gb_ktab, gb_wK e ∈ lw_tbl := gb_tabP (ps := gb_ktabP) (by decide +kernel)
def gb_wN (e : (Nat × Nat) × Nat) : Cond := .classLink (gb_own e.1.1) e.1.2 (if e.2 = 4 then "[[I" else "[[J")
theorem gb_ntab_ok : ∀ e ∈ gb_ntab, gb_wN e ∈ lw_tbl := gb_tabP (ps := gb_ntabP) (by decide +kernel)

def gb_wJ (e : (Nat × Nat) × Nat) : Cond := .methodLink (gb_own e.1.1) e.1.2 (if e.2 = 0 then Lib.Math.max.name else if e.2 = 1 then Lib.Math.min.name else Lib.MathLoose.max_long.x)
theorem gb_jtab_ok : ∀ e ∈ gb_jtab, gb_wJ e ∈ lw_tbl := gb_tabP (ps := gb_jtabP) (by decide +kernel)
theorem gb_math_max : Cond.static Lib.Math.max.name ∈ lw_tbl ∧ Cond.code Lib.Math.max.name Lib.Math.max.code 2 (some .int) ∈ lw_tbl := ⟨List.mem_of_getElem? (i := 699) (by decide +kernel), List.mem_of_getElem? (i := 700) (by decide +kernel)⟩
theorem gb_math_min : Cond.static Lib.Math.min.name ∈ lw_tbl ∧ Cond.code Lib.Math.min.name Lib.Math.min.code 2 (some .int) ∈ lw_tbl := ⟨List.mem_of_getElem? (i := 868) (by decide +kernel), List.mem_of_getElem? (i := 869) (by decide +kernel)⟩
theorem gb_math_maxl : Cond.static Lib.MathLoose.max_long.x ∈ lw_tbl ∧ Cond.code Lib.MathLoose.max_long.x Lib.MathLoose.max_long.code 4 (some .long) ∈ lw_tbl := ⟨List.mem_of_getElem? (i := 751) (by decide +kernel), List.mem_of_getElem? (i := 752) (by decide +kernel)⟩
theorem gb_obj_ok : Cond.instanceMethod objectInit ∈ lw_tbl ∧ Cond.code objectInit ⟨#[0xb1]⟩ 1 none ∈ lw_tbl := ⟨List.mem_of_getElem? (i := 74) (by decide +kernel), List.mem_of_getElem? (i := 75) (by decide +kernel)⟩
theorem gb_arr_int : Cond.arrayClass .int ∈ lw_tbl := List.mem_of_getElem? (i := 130) (by decide +kernel)
theorem gb_arr_byte : Cond.arrayClass .byte ∈ lw_tbl := List.mem_of_getElem? (i := 100) (by decide +kernel)
theorem gb_arr_boolean : Cond.arrayClass .boolean ∈ lw_tbl := List.mem_of_getElem? (i := 129) (by decide +kernel)
theorem gb_arr_long : Cond.arrayClass .long ∈ lw_tbl := List.mem_of_getElem? (i := 246) (by decide +kernel)
theorem gb_ovr_int : Cond.arrayOver (.array .int) ∈ lw_tbl := List.mem_of_getElem? (i := 108) (by decide +kernel)
theorem gb_ovr_long : Cond.arrayOver (.array .long) ∈ lw_tbl := List.mem_of_getElem? (i := 226) (by decide +kernel)
def gb_insP : List Nat := [270, 102, 379, 205, 219, 77, 132, 248, 276, 69, 901]
theorem gb_ins_ok : ∀ c ∈ List.range 11, Cond.instantiable (gb_own c) (gb_kds.getD c []).length ∈ lw_tbl := gb_tabP (ps := gb_insP) (f := fun c => Cond.instantiable (gb_own c) (gb_kds.getD c []).length) (by decide +kernel)
def gb_iniP : List Nat := [61, 56, 63, 58, 59, 55, 57, 60, 62, 54, 64, 65, 67, 66, 53]
theorem gb_ini_ok : ∀ c ∈ List.range 15, Cond.initialized (gb_own c) ∈ lw_tbl := gb_tabP (ps := gb_iniP) (f := fun c => Cond.initialized (gb_own c)) (by decide +kernel)
def gb_codP : List Nat := [273, 606, 505, 514, 519, 525, 530, 538, 553, 560, 105, 576, 589, 601, 610, 382, 467, 475, 487, 501, 815, 818, 208, 647, 657, 661, 222, 694, 704, 718, 727, 732, 741, 749, 756, 80, 455, 471, 483, 491, 479, 495, 135, 580, 887, 895, 631, 670, 678, 682, 764, 768, 776, 251, 836, 865, 851, 856, 861, 874, 279, 509, 534, 545, 549, 72, 448, 459, 463, 564, 568, 572, 584, 593, 615, 623, 635, 639, 643, 665, 674, 686, 690, 709, 723, 736, 714, 760, 772, 784, 788, 792, 780, 796, 807, 799, 802, 811, 822, 826, 840, 844, 878, 883, 891, 899, 451, 541, 556, 829, 832, 847, 619, 627, 597, 904, 1022, 1018, 1026, 1038, 1044, 1049, 1053, 1057, 1061, 1065, 1034, 1030, 1069, 1129, 1137, 1100, 1090, 1082, 1078, 1086, 1074, 1105, 1096, 1125, 1133, 1145, 1141, 1153, 1149, 1157, 1121, 1117, 1166, 1113, 1162, 1170, 1109, 1178, 1174, 1189, 1185, 1182, 1195, 1199, 1204, 1213, 1217, 1209, 1221, 1228, 1238, 1235, 1232, 1242, 1250, 1246, 1254, 1261, 1258, 1267, 1281, 1277, 1271, 1285, 1293, 1289, 1297, 1301, 650, 745, 697]
set_option maxRecDepth 100000 in
theorem gb_cod_ok : ∀ k ∈ (List.range 187).map (fun i => i + 1), Cond.code (gb_met k).1 (gb_met k).2.1 (gb_inf k).1 (gb_met k).2.2 ∈ lw_tbl := gb_tabP (ps := gb_codP) (f := fun k => Cond.code (gb_met k).1 (gb_met k).2.1 (gb_inf k).1 (gb_met k).2.2) (by rfl)
def gb_insM : List Nat := [1, 2, 3, 4, 5, 6, 7, 8, 9, 10, 11, 12, 13, 14, 15, 16, 17, 18, 19, 20, 21, 23, 24, 25, 26, 27, 28, 29, 30, 31, 32, 33, 34, 35, 36, 37, 38, 39, 40, 41, 42, 43, 44, 45, 46, 47, 48, 49, 50, 51, 52, 53, 54, 55, 56, 57, 58, 59, 60, 61, 62, 63, 64, 65, 66, 67, 68, 69, 70, 71, 72, 73, 74, 75, 76, 77, 78, 79, 80, 81, 82, 83, 84, 85, 86, 87, 88, 89, 90, 94, 95, 98, 99, 100, 101, 102, 103, 104, 105, 106, 113, 114, 115, 116, 118, 119, 120, 121, 122, 123, 124, 125, 126, 127, 128, 129, 130, 131, 132, 134, 135, 136, 137, 138, 139, 140, 141, 142, 143, 144, 145, 146, 147, 148, 149, 150, 151, 152, 153, 154, 155, 156, 158, 159, 160, 161, 162, 163, 164, 165, 166, 169, 170, 171, 172, 173, 175, 176, 177, 178, 179, 180, 181, 182, 183, 184]
def gb_insMP : List Nat := [272, 604, 503, 513, 518, 524, 529, 537, 552, 559, 104, 574, 587, 599, 608, 381, 465, 474, 486, 500, 813, 207, 645, 656, 659, 221, 692, 702, 716, 725, 730, 739, 748, 754, 79, 453, 469, 481, 489, 477, 493, 134, 578, 885, 893, 629, 668, 676, 680, 762, 766, 774, 250, 834, 863, 849, 855, 860, 872, 278, 507, 532, 543, 548, 71, 446, 457, 461, 562, 567, 571, 582, 591, 613, 621, 633, 638, 641, 663, 672, 684, 688, 707, 721, 734, 713, 758, 770, 782, 794, 805, 809, 820, 824, 838, 842, 876, 881, 889, 897, 618, 626, 596, 903, 1016, 1024, 1037, 1043, 1048, 1052, 1056, 1060, 1064, 1033, 1028, 1067, 1128, 1136, 1099, 1081, 1077, 1084, 1073, 1104, 1094, 1123, 1131, 1144, 1139, 1152, 1147, 1155, 1120, 1116, 1165, 1112, 1160, 1168, 1108, 1177, 1172, 1188, 1180, 1193, 1197, 1202, 1212, 1216, 1207, 1219, 1227, 1230, 1240, 1249, 1244, 1252, 1256, 1265, 1280, 1276, 1269, 1283, 1292, 1287, 1295, 1299]
theorem gb_insM_ok : ∀ k ∈ gb_insM, Cond.instanceMethod (gb_met k).1 ∈ lw_tbl := gb_tabP (ps := gb_insMP) (f := fun k => Cond.instanceMethod (gb_met k).1) (by decide +kernel)
def gb_virM : List Nat := [2, 3, 4, 5, 6, 7, 8, 9, 10, 12, 13, 14, 15, 17, 18, 19, 20, 21, 24, 25, 26, 28, 29, 30, 31, 32, 33, 34, 35, 37, 38, 39, 40, 41, 42, 44, 45, 46, 47, 48, 49, 50, 51, 52, 53, 55, 56, 57, 58, 59, 60, 62, 63, 64, 65, 67, 68, 69, 70, 71, 72, 73, 74, 75, 76, 77, 78, 79, 80, 81, 82, 83, 84, 85, 86, 87, 88, 89, 90, 94, 95, 98, 99, 100, 101, 102, 103, 104, 105, 106, 113, 114, 115, 118, 119, 120, 121, 122, 123, 124, 125, 126, 127, 128, 129, 130, 131, 132, 134, 135, 136, 137, 138, 139, 140, 141, 142, 143, 144, 145, 146, 147, 148, 149, 150, 151, 152, 153, 154, 155, 156, 158, 159, 160, 161, 162, 163, 164, 165, 166, 169, 170, 171, 172, 173, 175, 176, 177, 178, 179, 180, 181, 182, 183, 184]
def gb_virMP : List Nat := [605, 504, 3, 4, 5, 6, 7, 9, 10, 575, 588, 600, 609, 466, 0, 1, 2, 814, 646, 17, 660, 693, 703, 717, 726, 731, 740, 19, 755, 454, 470, 482, 490, 478, 494, 579, 886, 894, 630, 669, 677, 681, 763, 767, 775, 835, 864, 850, 20, 21, 873, 508, 533, 544, 8, 447, 458, 462, 563, 11, 12, 583, 592, 614, 622, 634, 16, 642, 664, 673, 685, 689, 708, 722, 735, 18, 759, 771, 783, 795, 806, 810, 821, 825, 839, 843, 877, 882, 890, 898, 14, 15, 13, 1017, 1025, 23, 24, 25, 26, 27, 28, 29, 22, 1029, 1068, 39, 40, 33, 32, 31, 1085, 30, 34, 1095, 1124, 1132, 41, 1140, 42, 1148, 1156, 38, 37, 43, 36, 1161, 1169, 35, 44, 1173, 45, 1181, 1194, 1198, 1203, 46, 47, 1208, 1220, 48, 1231, 1241, 49, 1245, 1253, 1257, 1266, 51, 50, 1270, 1284, 52, 1288, 1296, 1300]
theorem gb_virM_ok : ∀ k ∈ gb_virM, Cond.selects (gb_met k).1.cls (gb_met k).1 (gb_met k).1 ∈ lw_tbl := gb_tabP (ps := gb_virMP) (f := fun k => Cond.selects (gb_met k).1.cls (gb_met k).1 (gb_met k).1) (by decide +kernel)
def gb_staM : List Nat := [22, 91, 92, 93, 96, 97, 107, 108, 109, 110, 111, 112, 117, 133, 157, 167, 168, 174, 185, 186, 187]
def gb_staMP : List Nat := [817, 787, 791, 779, 798, 801, 450, 540, 555, 828, 831, 846, 1021, 1089, 1184, 1237, 1234, 1260, 649, 744, 696]
theorem gb_staM_ok : ∀ k ∈ gb_staM, Cond.static (gb_met k).1 ∈ lw_tbl := gb_tabP (ps := gb_staMP) (f := fun k => Cond.static (gb_met k).1) (by decide +kernel)
/-- what is the same for every method but the law -/
def gb_mOK (k : Nat) : Bool := decide ((gb_met k).1.cls = gb_own (gb_mo k)) && decide (gb_mo k < 15) && plainName (gb_met k).1.cls && decide ((gb_met k).1.cls ≠ "java/lang/invoke/MethodHandle" ∧ (gb_met k).1.cls ≠ "java/lang/invoke/VarHandle") &&
  decide ((parseMethodDescriptor (gb_met k).1.desc).map (fun d => d.parameters.length) = some ((gb_inf k).2.2.2.1 - (if (gb_inf k).2.1 = 1 then 0 else 1))) &&
  (match (gb_inf k).2.1 with
  | 0 => decide (k ∈ gb_virM) && decide (k ∈ gb_insM) && decide ((gb_inf k).2.2.1 = gb_mo k + 1) && decide (gb_mo k < 11) && decide (1 ≤ (gb_inf k).2.2.2.1)
  | 1 => decide (k ∈ gb_staM) && decide ((gb_inf k).2.2.1 = 0)
  | _ => decide (k ∈ gb_insM) && decide ((gb_met k).1.name = "<init>") && decide ((gb_met k).2.2 = none) && decide ((gb_inf k).2.2.1 = gb_mo k + 1) && decide (gb_mo k < 11) && decide (1 ≤ (gb_inf k).2.2.2.1))
theorem gb_mOK_ok : (List.range 187).all (fun k => gb_mOK (k + 1)) = true := by decide +kernel
end
section
/-! an instruction of the small machine against the decoded one -/
def gb_tg (pcs : List Nat) (t : Int) (pc : Nat) (off : Int) : Bool := decide (0 ≤ t) && (match pcs[t.toNat]? with
  | some q => decide ((pc : Int) + off = (q : Int))
  | none => false)
def gb_chkI (k : Nat) (pcs : List Nat) (pc nx : Nat) (ai ci : Instr) (len : Nat) : Bool :=
  let o := gb_mo k
  match ai with
  | .iload i => (match ci with
    | .iload i' => decide (i' = i ∧ len = 2 ∧ nx = pc + 2)
    | .iload_n i' => decide (i'.val = i ∧ len = 1 ∧ nx = pc + 1)
    | _ => false)
  | .lload i => (match ci with
    | .lload i' => decide (i' = i ∧ len = 2 ∧ nx = pc + 2)
    | .lload_n i' => decide (i'.val = i ∧ len = 1 ∧ nx = pc + 1)
    | _ => false)
  | .aload i => (match ci with
    | .aload i' => decide (i' = i ∧ len = 2 ∧ nx = pc + 2)
    | .aload_n i' => decide (i'.val = i ∧ len = 1 ∧ nx = pc + 1)
    | _ => false)
  | .istore i => (match ci with
    | .istore i' => decide (i' = i ∧ len = 2 ∧ nx = pc + 2)
    | .istore_n i' => decide (i'.val = i ∧ len = 1 ∧ nx = pc + 1)
    | _ => false)
  | .lstore i => (match ci with
    | .lstore i' => decide (i' = i ∧ len = 2 ∧ nx = pc + 2)
    | .lstore_n i' => decide (i'.val = i ∧ len = 1 ∧ nx = pc + 1)
    | _ => false)
  | .astore i => (match ci with
    | .astore i' => decide (i' = i ∧ len = 2 ∧ nx = pc + 2)
    | .astore_n i' => decide (i'.val = i ∧ len = 1 ∧ nx = pc + 1)
    | _ => false)
  | .iinc i c => (match ci with
    | .iinc i' c' => decide (i' = i ∧ c' = c ∧ len = 3 ∧ nx = pc + 3)
    | _ => false)
  | .sipush c => (match ci with
    | .iconst n => decide (n = c ∧ len = 1 ∧ nx = pc + 1)
    | .bipush n => decide ((Int8.ofInt n).toInt32 = Int32.ofInt c ∧ len = 2 ∧ nx = pc + 2)
    | .sipush n => decide ((Int16.ofInt n).toInt32 = Int32.ofInt c ∧ len = 3 ∧ nx = pc + 3)
    | .ldc i => decide (gb_ctab.lookup (o, i) = some (Int32.ofInt c) ∧ len = 2 ∧ nx = pc + 2)
    | .ldc_w i => decide (gb_ctab.lookup (o, i) = some (Int32.ofInt c) ∧ len = 3 ∧ nx = pc + 3)
    | _ => false)
  | .bipush c => (match ci with
    | .lconst n => decide (Int64.ofNat n.val = Int64.ofInt c ∧ len = 1 ∧ nx = pc + 1)
    | .ldc2_w i => decide (gb_ltab.lookup (o, i) = some (Int64.ofInt c) ∧ len = 3 ∧ nx = pc + 3)
    | _ => false)
  | .goto t => (match ci with
    | .goto off => gb_tg pcs t pc off && decide (len = 3)
    | _ => false)
  | .ifCond c t => (match ci with
    | .ifCond c' off => decide (c' = c) && gb_tg pcs t pc off && decide (len = 3 ∧ nx = pc + 3)
    | _ => false)
  | .if_icmp c t => (match ci with
    | .if_icmp c' off => decide (c' = c) && gb_tg pcs t pc off && decide (len = 3 ∧ nx = pc + 3)
    | _ => false)
  | .lookupswitch d ps => (match ci with
    | .lookupswitch d' ps' => gb_tg pcs d pc d' && decide (ps.toList.length = ps'.toList.length) && (ps.toList.zip ps'.toList).all (fun q => decide (q.1.1 = q.2.1) && gb_tg pcs q.1.2 pc q.2.2) && (ps'.toList.zip (ps'.toList.drop 1)).all (fun (a, next) => a.1 < next.1)
    | _ => false)
  | .tableswitch d lo hi offs => (match ci with
    | .tableswitch d' lo' hi' offs' => gb_tg pcs d pc d' && decide (lo' = lo ∧ hi' = hi) && decide (offs.toList.length = offs'.toList.length) && (offs.toList.zip offs'.toList).all (fun q => gb_tg pcs q.1 pc q.2)
    | _ => false)
  | .getfield n => (match ci with
    | .getfield i => decide (gb_ftab.lookup (o, i) = some (n / 64, n % 64) ∧ len = 3 ∧ nx = pc + 3) && decide (n / 64 < gb_cls.length) && decide (n % 64 < (gb_kds.getD (n / 64) []).length)
    | _ => false)
  | .putfield n => (match ci with
    | .putfield i => decide (gb_ftab.lookup (o, i) = some (n / 64, n % 64) ∧ len = 3 ∧ nx = pc + 3) && decide (n / 64 < gb_cls.length) && decide (n % 64 < (gb_kds.getD (n / 64) []).length) && (decide ((gb_T (n / 64) (n % 64)).2.2.2 = false) || (decide (gb_own o = (gb_T (n / 64) (n % 64)).1) && decide ((gb_inf k).2.1 = 2)))
    | _ => false)
  | .new c => (match ci with
    | .new i => decide (gb_ktab.lookup (o, i) = some c ∧ len = 3 ∧ nx = pc + 3) && decide (c < gb_cls.length)
    | _ => false)
  | .newarray t => (match ci with
    | .newarray t' => decide (t' = t ∧ len = 2 ∧ nx = pc + 2)
    | _ => false)
  | .multianewarray t _ => (match ci with
    | .multianewarray i q => decide (gb_ntab.lookup (o, i) = some t ∧ q = 2 ∧ len = 4 ∧ nx = pc + 4)
    | _ => false)
  | .fadd => (match ci with
    | .invokestatic i => decide (gb_jtab.lookup (o, i) = some 0 ∧ len = 3 ∧ nx = pc + 3) && decide (1 ≤ (gb_inf k).2.2.2.2.1 ∧ 23 ≤ (gb_inf k).2.2.2.2.2)
    | _ => false)
  | .fsub => (match ci with
    | .invokestatic i => decide (gb_jtab.lookup (o, i) = some 1 ∧ len = 3 ∧ nx = pc + 3) && decide (1 ≤ (gb_inf k).2.2.2.2.1 ∧ 23 ≤ (gb_inf k).2.2.2.2.2)
    | _ => false)
  | .dadd => (match ci with
    | .invokestatic i => decide (gb_jtab.lookup (o, i) = some 2 ∧ len = 3 ∧ nx = pc + 3) && decide (1 ≤ (gb_inf k).2.2.2.2.1 ∧ 23 ≤ (gb_inf k).2.2.2.2.2)
    | _ => false)
  | .pop => (match ci with
    | .invokespecial i => decide ((o, i) ∈ gb_otab ∧ len = 3 ∧ nx = pc + 3) && decide (1 ≤ (gb_inf k).2.2.2.2.1 ∧ 23 ≤ (gb_inf k).2.2.2.2.2)
    | _ => false)
  | .invokeinterface y n => decide (1 ≤ y ∧ y < gb_metL.length ∧ n = (gb_inf y).2.2.2.1 ∧ (gb_inf y).2.2.2.2.1 + 1 ≤ (gb_inf k).2.2.2.2.1 ∧ 8 + ((gb_inf y).1 + 11) + (gb_inf y).2.2.2.2.2 ≤ (gb_inf k).2.2.2.2.2 ∧ len = 3 ∧ nx = pc + 3) && (match ci with
    | .invokevirtual i => decide ((gb_inf y).2.1 = 0) && (decide (gb_mtab.lookup (o, i) = some (y, false)) || decide (gb_mtab.lookup (o, i) = some (y, true)))
    | .invokestatic i => decide ((gb_inf y).2.1 = 1) && (decide (gb_mtab.lookup (o, i) = some (y, false)) || decide (gb_mtab.lookup (o, i) = some (y, true)))
    | .invokespecial i => decide ((gb_inf y).2.1 = 2) && (decide (gb_mtab.lookup (o, i) = some (y, false)) || decide (gb_mtab.lookup (o, i) = some (y, true)))
    | _ => false)
  | .ireturn => decide (ci = .ireturn ∧ len = 1) && decide ((gb_met k).2.2 = some .int)
  | .areturn => decide (ci = .ireturn ∧ len = 1) && decide ((gb_met k).2.2 = some .boolean)
  | .lreturn => decide (ci = .lreturn ∧ len = 1) && decide ((gb_met k).2.2 = some .long)
  | .return_ => decide (ci = .return_ ∧ len = 1) && decide ((gb_met k).2.2 = none)
  | ai => decide (ci = ai ∧ len = 1 ∧ nx = pc + 1)
def gb_chk (k : Nat) (q : Instr × Nat × Nat) : Bool := match decode (gb_met k).2.1 q.2.1 with
  | .ok (ci, len) => gb_chkI k (gb_pcs k) q.2.1 q.2.2 q.1 ci len
  | .error _ => false
def gb_rows (k : Nat) : List (Instr × Nat × Nat) := (gb_prog k).zip ((gb_pcs k).zip ((gb_pcs k).drop 1 ++ [0]))
def gb_rowsOK (k : Nat) : Bool := decide ((gb_pcs k).length = (gb_prog k).length) && decide ((gb_pcs k)[0]? = some 0) && (gb_rows k).all (gb_chk k)
theorem gb_all_cut {α : Type} {l : List α} {f : α → Bool} (a n : Nat) (h1 : ((l.drop a).take n).all f = true) (h2 : (l.drop (a + n)).all f = true) : (l.drop a).all f = true := by
  rw [← List.take_append_drop n (l.drop a), List.all_append, h1, List.drop_drop, h2]
  rfl
theorem gb_rowsOK_of {k : Nat} (h1 : (decide ((gb_pcs k).length = (gb_prog k).length) && decide ((gb_pcs k)[0]? = some 0)) = true) (h2 : ((gb_rows k).drop 0).all (gb_chk k) = true) : gb_rowsOK k = true := by
  unfold gb_rowsOK
  rw [h1]
  exact h2
theorem gb_row_0_0 : (((gb_rows 0).drop 0).take 25).all (gb_chk 0) = true := by decide +kernel
theorem gb_row_0_25 : (((gb_rows 0).drop 25).take 25).all (gb_chk 0) = true := by decide +kernel
theorem gb_row_0_50 : (((gb_rows 0).drop 50).take 25).all (gb_chk 0) = true := by decide +kernel
theorem gb_row_0_75 : (((gb_rows 0).drop 75).take 25).all (gb_chk 0) = true := by decide +kernel
theorem gb_row_0_100 : (((gb_rows 0).drop 100).take 25).all (gb_chk 0) = true := by decide +kernel
theorem gb_row_0_125 : (((gb_rows 0).drop 125).take 25).all (gb_chk 0) = true := by decide +kernel
theorem gb_row_0_150 : (((gb_rows 0).drop 150).take 25).all (gb_chk 0) = true := by decide +kernel
theorem gb_row_0_175 : (((gb_rows 0).drop 175).take 25).all (gb_chk 0) = true := by decide +kernel
theorem gb_row_0_200 : (((gb_rows 0).drop 200).take 25).all (gb_chk 0) = true := by decide +kernel
theorem gb_row_0_225 : (((gb_rows 0).drop 225).take 25).all (gb_chk 0) = true := by decide +kernel
theorem gb_row_0_250 : (((gb_rows 0).drop 250).take 25).all (gb_chk 0) = true := by decide +kernel
theorem gb_row_0_275 : (((gb_rows 0).drop 275).take 25).all (gb_chk 0) = true := by decide +kernel
theorem gb_row_0_300 : (((gb_rows 0).drop 300).take 25).all (gb_chk 0) = true := by decide +kernel
theorem gb_row_0_325 : (((gb_rows 0).drop 325).take 25).all (gb_chk 0) = true := by decide +kernel
theorem gb_row_0_350 : (((gb_rows 0).drop 350).take 25).all (gb_chk 0) = true := by decide +kernel
theorem gb_row_0_375 : (((gb_rows 0).drop 375).take 25).all (gb_chk 0) = true := by decide +kernel
theorem gb_row_0_400 : (((gb_rows 0).drop 400).take 25).all (gb_chk 0) = true := by decide +kernel
theorem gb_row_0_425 : (((gb_rows 0).drop 425).take 25).all (gb_chk 0) = true := by decide +kernel
theorem gb_row_0_450 : (((gb_rows 0).drop 450).take 25).all (gb_chk 0) = true := by decide +kernel
theorem gb_row_0_475 : (((gb_rows 0).drop 475).take 25).all (gb_chk 0) = true := by decide +kernel
theorem gb_row_0_500 : (((gb_rows 0).drop 500).take 25).all (gb_chk 0) = true := by decide +kernel
theorem gb_row_0_525 : (((gb_rows 0).drop 525).take 25).all (gb_chk 0) = true := by decide +kernel
theorem gb_row_0_550 : (((gb_rows 0).drop 550).take 25).all (gb_chk 0) = true := by decide +kernel
theorem gb_row_0_575 : (((gb_rows 0).drop 575).take 25).all (gb_chk 0) = true := by decide +kernel
theorem gb_row_0_600 : (((gb_rows 0).drop 600).take 25).all (gb_chk 0) = true := by decide +kernel
theorem gb_row_0_625 : (((gb_rows 0).drop 625).take 25).all (gb_chk 0) = true := by decide +kernel
theorem gb_row_0_650 : (((gb_rows 0).drop 650).take 25).all (gb_chk 0) = true := by decide +kernel
theorem gb_row_0_675 : (((gb_rows 0).drop 675).take 25).all (gb_chk 0) = true := by decide +kernel
theorem gb_row_0_700 : (((gb_rows 0).drop 700).take 25).all (gb_chk 0) = true := by decide +kernel
theorem gb_row_0_725 : (((gb_rows 0).drop 725).take 25).all (gb_chk 0) = true := by decide +kernel
theorem gb_row_0_750 : (((gb_rows 0).drop 750).take 25).all (gb_chk 0) = true := by decide +kernel
theorem gb_row_0_775 : (((gb_rows 0).drop 775).take 25).all (gb_chk 0) = true := by decide +kernel
theorem gb_row_0_800 : (((gb_rows 0).drop 800).take 25).all (gb_chk 0) = true := by decide +kernel
theorem gb_row_0_825 : (((gb_rows 0).drop 825).take 25).all (gb_chk 0) = true := by decide +kernel
theorem gb_row_0_850 : (((gb_rows 0).drop 850).take 25).all (gb_chk 0) = true := by decide +kernel
theorem gb_row_0_875 : (((gb_rows 0).drop 875).take 25).all (gb_chk 0) = true := by decide +kernel
theorem gb_row_0_900 : (((gb_rows 0).drop 900).take 25).all (gb_chk 0) = true := by decide +kernel
theorem gb_row_0_925 : (((gb_rows 0).drop 925).take 25).all (gb_chk 0) = true := by decide +kernel
theorem gb_row_0_950 : (((gb_rows 0).drop 950).take 25).all (gb_chk 0) = true := by decide +kernel
theorem gb_row_0_975 : (((gb_rows 0).drop 975).take 25).all (gb_chk 0) = true := by decide +kernel
theorem gb_row_0_1000 : (((gb_rows 0).drop 1000).take 25).all (gb_chk 0) = true := by decide +kernel
theorem gb_row_0 : gb_rowsOK 0 = true := gb_rowsOK_of (by decide +kernel) (gb_all_cut 0 25 gb_row_0_0 (gb_all_cut 25 25 gb_row_0_25 (gb_all_cut 50 25 gb_row_0_50 (gb_all_cut 75 25 gb_row_0_75 (gb_all_cut 100 25 gb_row_0_100 (gb_all_cut 125 25 gb_row_0_125 (gb_all_cut 150 25 gb_row_0_150 (gb_all_cut 175 25 gb_row_0_175 (gb_all_cut 200 25 gb_row_0_200 (gb_all_cut 225 25 gb_row_0_225 (gb_all_cut 250 25 gb_row_0_250 (gb_all_cut 275 25 gb_row_0_275 (gb_all_cut 300 25 gb_row_0_300 (gb_all_cut 325 25 gb_row_0_325 (gb_all_cut 350 25 gb_row_0_350 (gb_all_cut 375 25 gb_row_0_375 (gb_all_cut 400 25 gb_row_0_400 (gb_all_cut 425 25 gb_row_0_425 (gb_all_cut 450 25 gb_row_0_450 (gb_all_cut 475 25 gb_row_0_475 (gb_all_cut 500 25 gb_row_0_500 (gb_all_cut 525 25 gb_row_0_525 (gb_all_cut 550 25 gb_row_0_550 (gb_all_cut 575 25 gb_row_0_575 (gb_all_cut 600 25 gb_row_0_600 (gb_all_cut 625 25 gb_row_0_625 (gb_all_cut 650 25 gb_row_0_650 (gb_all_cut 675 25 gb_row_0_675 (gb_all_cut 700 25 gb_row_0_700 (gb_all_cut 725 25 gb_row_0_725 (gb_all_cut 750 25 gb_row_0_750 (gb_all_cut 775 25 gb_row_0_775 (gb_all_cut 800 25 gb_row_0_800 (gb_all_cut 825 25 gb_row_0_825 (gb_all_cut 850 25 gb_row_0_850 (gb_all_cut 875 25 gb_row_0_875 (gb_all_cut 900 25 gb_row_0_900 (gb_all_cut 925 25 gb_row_0_925 (gb_all_cut 950 25 gb_row_0_950 (gb_all_cut 975 25 gb_row_0_975 (gb_all_cut 1000 25 gb_row_0_1000 ((by decide +kernel)))))))))))))))))))))))))))))))))))))))))))
theorem gb_row_1 : gb_rowsOK 1 = true := by decide +kernel
theorem gb_row_2 : gb_rowsOK 2 = true := by decide +kernel
theorem gb_row_3 : gb_rowsOK 3 = true := by decide +kernel
theorem gb_row_4_0 : (((gb_rows 4).drop 0).take 25).all (gb_chk 4) = true := by decide +kernel
theorem gb_row_4_25 : (((gb_rows 4).drop 25).take 25).all (gb_chk 4) = true := by decide +kernel
theorem gb_row_4_50 : (((gb_rows 4).drop 50).take 25).all (gb_chk 4) = true := by decide +kernel
theorem gb_row_4 : gb_rowsOK 4 = true := gb_rowsOK_of (by decide +kernel) (gb_all_cut 0 25 gb_row_4_0 (gb_all_cut 25 25 gb_row_4_25 (gb_all_cut 50 25 gb_row_4_50 ((by decide +kernel)))))
theorem gb_row_5 : gb_rowsOK 5 = true := by decide +kernel
theorem gb_row_6 : gb_rowsOK 6 = true := by decide +kernel
theorem gb_row_7 : gb_rowsOK 7 = true := by decide +kernel
theorem gb_row_8 : gb_rowsOK 8 = true := by decide +kernel
theorem gb_row_9_0 : (((gb_rows 9).drop 0).take 25).all (gb_chk 9) = true := by decide +kernel
theorem gb_row_9_25 : (((gb_rows 9).drop 25).take 25).all (gb_chk 9) = true := by decide +kernel
theorem gb_row_9_50 : (((gb_rows 9).drop 50).take 25).all (gb_chk 9) = true := by decide +kernel
theorem gb_row_9_75 : (((gb_rows 9).drop 75).take 25).all (gb_chk 9) = true := by decide +kernel
theorem gb_row_9 : gb_rowsOK 9 = true := gb_rowsOK_of (by decide +kernel) (gb_all_cut 0 25 gb_row_9_0 (gb_all_cut 25 25 gb_row_9_25 (gb_all_cut 50 25 gb_row_9_50 (gb_all_cut 75 25 gb_row_9_75 ((by decide +kernel))))))
theorem gb_row_10_0 : (((gb_rows 10).drop 0).take 25).all (gb_chk 10) = true := by decide +kernel
theorem gb_row_10_25 : (((gb_rows 10).drop 25).take 25).all (gb_chk 10) = true := by decide +kernel
theorem gb_row_10_50 : (((gb_rows 10).drop 50).take 25).all (gb_chk 10) = true := by decide +kernel
theorem gb_row_10_75 : (((gb_rows 10).drop 75).take 25).all (gb_chk 10) = true := by decide +kernel
theorem gb_row_10_100 : (((gb_rows 10).drop 100).take 25).all (gb_chk 10) = true := by decide +kernel
theorem gb_row_10 : gb_rowsOK 10 = true := gb_rowsOK_of (by decide +kernel) (gb_all_cut 0 25 gb_row_10_0 (gb_all_cut 25 25 gb_row_10_25 (gb_all_cut 50 25 gb_row_10_50 (gb_all_cut 75 25 gb_row_10_75 (gb_all_cut 100 25 gb_row_10_100 ((by decide +kernel)))))))
theorem gb_row_11 : gb_rowsOK 11 = true := by decide +kernel
theorem gb_row_12 : gb_rowsOK 12 = true := by decide +kernel
theorem gb_row_13_0 : (((gb_rows 13).drop 0).take 25).all (gb_chk 13) = true := by decide +kernel
theorem gb_row_13_25 : (((gb_rows 13).drop 25).take 25).all (gb_chk 13) = true := by decide +kernel
theorem gb_row_13_50 : (((gb_rows 13).drop 50).take 25).all (gb_chk 13) = true := by decide +kernel
theorem gb_row_13_75 : (((gb_rows 13).drop 75).take 25).all (gb_chk 13) = true := by decide +kernel
theorem gb_row_13_100 : (((gb_rows 13).drop 100).take 25).all (gb_chk 13) = true := by decide +kernel
theorem gb_row_13 : gb_rowsOK 13 = true := gb_rowsOK_of (by decide +kernel) (gb_all_cut 0 25 gb_row_13_0 (gb_all_cut 25 25 gb_row_13_25 (gb_all_cut 50 25 gb_row_13_50 (gb_all_cut 75 25 gb_row_13_75 (gb_all_cut 100 25 gb_row_13_100 ((by decide +kernel)))))))
theorem gb_row_14_0 : (((gb_rows 14).drop 0).take 25).all (gb_chk 14) = true := by decide +kernel
theorem gb_row_14_25 : (((gb_rows 14).drop 25).take 25).all (gb_chk 14) = true := by decide +kernel
theorem gb_row_14_50 : (((gb_rows 14).drop 50).take 25).all (gb_chk 14) = true := by decide +kernel
theorem gb_row_14_75 : (((gb_rows 14).drop 75).take 25).all (gb_chk 14) = true := by decide +kernel
theorem gb_row_14 : gb_rowsOK 14 = true := gb_rowsOK_of (by decide +kernel) (gb_all_cut 0 25 gb_row_14_0 (gb_all_cut 25 25 gb_row_14_25 (gb_all_cut 50 25 gb_row_14_50 (gb_all_cut 75 25 gb_row_14_75 ((by decide +kernel))))))
theorem gb_row_15 : gb_rowsOK 15 = true := by decide +kernel
theorem gb_row_16 : gb_rowsOK 16 = true := by decide +kernel
theorem gb_row_17 : gb_rowsOK 17 = true := by decide +kernel
theorem gb_row_18 : gb_rowsOK 18 = true := by decide +kernel
theorem gb_row_19_0 : (((gb_rows 19).drop 0).take 25).all (gb_chk 19) = true := by decide +kernel
theorem gb_row_19_25 : (((gb_rows 19).drop 25).take 25).all (gb_chk 19) = true := by decide +kernel
theorem gb_row_19_50 : (((gb_rows 19).drop 50).take 25).all (gb_chk 19) = true := by decide +kernel
theorem gb_row_19 : gb_rowsOK 19 = true := gb_rowsOK_of (by decide +kernel) (gb_all_cut 0 25 gb_row_19_0 (gb_all_cut 25 25 gb_row_19_25 (gb_all_cut 50 25 gb_row_19_50 ((by decide +kernel)))))
theorem gb_row_20_0 : (((gb_rows 20).drop 0).take 25).all (gb_chk 20) = true := by decide +kernel
theorem gb_row_20_25 : (((gb_rows 20).drop 25).take 25).all (gb_chk 20) = true := by decide +kernel
theorem gb_row_20_50 : (((gb_rows 20).drop 50).take 25).all (gb_chk 20) = true := by decide +kernel
theorem gb_row_20 : gb_rowsOK 20 = true := gb_rowsOK_of (by decide +kernel) (gb_all_cut 0 25 gb_row_20_0 (gb_all_cut 25 25 gb_row_20_25 (gb_all_cut 50 25 gb_row_20_50 ((by decide +kernel)))))
theorem gb_row_21_0 : (((gb_rows 21).drop 0).take 25).all (gb_chk 21) = true := by decide +kernel
theorem gb_row_21_25 : (((gb_rows 21).drop 25).take 25).all (gb_chk 21) = true := by decide +kernel
theorem gb_row_21_50 : (((gb_rows 21).drop 50).take 25).all (gb_chk 21) = true := by decide +kernel
theorem gb_row_21 : gb_rowsOK 21 = true := gb_rowsOK_of (by decide +kernel) (gb_all_cut 0 25 gb_row_21_0 (gb_all_cut 25 25 gb_row_21_25 (gb_all_cut 50 25 gb_row_21_50 ((by decide +kernel)))))
theorem gb_row_22 : gb_rowsOK 22 = true := by decide +kernel
theorem gb_row_23 : gb_rowsOK 23 = true := by decide +kernel
theorem gb_row_24 : gb_rowsOK 24 = true := by decide +kernel
theorem gb_row_25 : gb_rowsOK 25 = true := by decide +kernel
theorem gb_row_26 : gb_rowsOK 26 = true := by decide +kernel
theorem gb_row_27 : gb_rowsOK 27 = true := by decide +kernel
theorem gb_row_28_0 : (((gb_rows 28).drop 0).take 25).all (gb_chk 28) = true := by decide +kernel
theorem gb_row_28_25 : (((gb_rows 28).drop 25).take 25).all (gb_chk 28) = true := by decide +kernel
theorem gb_row_28_50 : (((gb_rows 28).drop 50).take 25).all (gb_chk 28) = true := by decide +kernel
theorem gb_row_28 : gb_rowsOK 28 = true := gb_rowsOK_of (by decide +kernel) (gb_all_cut 0 25 gb_row_28_0 (gb_all_cut 25 25 gb_row_28_25 (gb_all_cut 50 25 gb_row_28_50 ((by decide +kernel)))))
theorem gb_row_29_0 : (((gb_rows 29).drop 0).take 25).all (gb_chk 29) = true := by decide +kernel
theorem gb_row_29_25 : (((gb_rows 29).drop 25).take 25).all (gb_chk 29) = true := by decide +kernel
theorem gb_row_29_50 : (((gb_rows 29).drop 50).take 25).all (gb_chk 29) = true := by decide +kernel
theorem gb_row_29_75 : (((gb_rows 29).drop 75).take 25).all (gb_chk 29) = true := by decide +kernel
theorem gb_row_29 : gb_rowsOK 29 = true := gb_rowsOK_of (by decide +kernel) (gb_all_cut 0 25 gb_row_29_0 (gb_all_cut 25 25 gb_row_29_25 (gb_all_cut 50 25 gb_row_29_50 (gb_all_cut 75 25 gb_row_29_75 ((by decide +kernel))))))
theorem gb_row_30_0 : (((gb_rows 30).drop 0).take 25).all (gb_chk 30) = true := by decide +kernel
theorem gb_row_30_25 : (((gb_rows 30).drop 25).take 25).all (gb_chk 30) = true := by decide +kernel
theorem gb_row_30_50 : (((gb_rows 30).drop 50).take 25).all (gb_chk 30) = true := by decide +kernel
theorem gb_row_30 : gb_rowsOK 30 = true := gb_rowsOK_of (by decide +kernel) (gb_all_cut 0 25 gb_row_30_0 (gb_all_cut 25 25 gb_row_30_25 (gb_all_cut 50 25 gb_row_30_50 ((by decide +kernel)))))
theorem gb_row_31 : gb_rowsOK 31 = true := by decide +kernel
theorem gb_row_32 : gb_rowsOK 32 = true := by decide +kernel
theorem gb_row_33 : gb_rowsOK 33 = true := by decide +kernel
theorem gb_row_34 : gb_rowsOK 34 = true := by decide +kernel
theorem gb_row_35 : gb_rowsOK 35 = true := by decide +kernel
theorem gb_row_36 : gb_rowsOK 36 = true := by decide +kernel
theorem gb_row_37 : gb_rowsOK 37 = true := by decide +kernel
theorem gb_row_38 : gb_rowsOK 38 = true := by decide +kernel
theorem gb_row_39 : gb_rowsOK 39 = true := by decide +kernel
theorem gb_row_40 : gb_rowsOK 40 = true := by decide +kernel
theorem gb_row_41 : gb_rowsOK 41 = true := by decide +kernel
theorem gb_row_42_0 : (((gb_rows 42).drop 0).take 25).all (gb_chk 42) = true := by decide +kernel
theorem gb_row_42_25 : (((gb_rows 42).drop 25).take 25).all (gb_chk 42) = true := by decide +kernel
theorem gb_row_42_50 : (((gb_rows 42).drop 50).take 25).all (gb_chk 42) = true := by decide +kernel
theorem gb_row_42 : gb_rowsOK 42 = true := gb_rowsOK_of (by decide +kernel) (gb_all_cut 0 25 gb_row_42_0 (gb_all_cut 25 25 gb_row_42_25 (gb_all_cut 50 25 gb_row_42_50 ((by decide +kernel)))))
theorem gb_row_43_0 : (((gb_rows 43).drop 0).take 25).all (gb_chk 43) = true := by decide +kernel
theorem gb_row_43_25 : (((gb_rows 43).drop 25).take 25).all (gb_chk 43) = true := by decide +kernel
theorem gb_row_43_50 : (((gb_rows 43).drop 50).take 25).all (gb_chk 43) = true := by decide +kernel
theorem gb_row_43 : gb_rowsOK 43 = true := gb_rowsOK_of (by decide +kernel) (gb_all_cut 0 25 gb_row_43_0 (gb_all_cut 25 25 gb_row_43_25 (gb_all_cut 50 25 gb_row_43_50 ((by decide +kernel)))))
theorem gb_row_44 : gb_rowsOK 44 = true := by decide +kernel
theorem gb_row_45 : gb_rowsOK 45 = true := by decide +kernel
theorem gb_row_46 : gb_rowsOK 46 = true := by decide +kernel
theorem gb_row_47 : gb_rowsOK 47 = true := by decide +kernel
theorem gb_row_48 : gb_rowsOK 48 = true := by decide +kernel
theorem gb_row_49 : gb_rowsOK 49 = true := by decide +kernel
theorem gb_row_50 : gb_rowsOK 50 = true := by decide +kernel
theorem gb_row_51 : gb_rowsOK 51 = true := by decide +kernel
theorem gb_row_52 : gb_rowsOK 52 = true := by decide +kernel
theorem gb_row_53 : gb_rowsOK 53 = true := by decide +kernel
theorem gb_row_54 : gb_rowsOK 54 = true := by decide +kernel
theorem gb_row_55 : gb_rowsOK 55 = true := by decide +kernel
theorem gb_row_56 : gb_rowsOK 56 = true := by decide +kernel
theorem gb_row_57 : gb_rowsOK 57 = true := by decide +kernel
theorem gb_row_58 : gb_rowsOK 58 = true := by decide +kernel
theorem gb_row_59 : gb_rowsOK 59 = true := by decide +kernel
theorem gb_row_60 : gb_rowsOK 60 = true := by decide +kernel
theorem gb_row_61 : gb_rowsOK 61 = true := by decide +kernel
theorem gb_row_62 : gb_rowsOK 62 = true := by decide +kernel
theorem gb_row_63 : gb_rowsOK 63 = true := by decide +kernel
theorem gb_row_64 : gb_rowsOK 64 = true := by decide +kernel
theorem gb_row_65 : gb_rowsOK 65 = true := by decide +kernel
theorem gb_row_66 : gb_rowsOK 66 = true := by decide +kernel
theorem gb_row_67 : gb_rowsOK 67 = true := by decide +kernel
theorem gb_row_68 : gb_rowsOK 68 = true := by decide +kernel
theorem gb_row_69 : gb_rowsOK 69 = true := by decide +kernel
theorem gb_row_70 : gb_rowsOK 70 = true := by decide +kernel
theorem gb_row_71 : gb_rowsOK 71 = true := by decide +kernel
theorem gb_row_72 : gb_rowsOK 72 = true := by decide +kernel
theorem gb_row_73 : gb_rowsOK 73 = true := by decide +kernel
theorem gb_row_74 : gb_rowsOK 74 = true := by decide +kernel
theorem gb_row_75 : gb_rowsOK 75 = true := by decide +kernel
theorem gb_row_76 : gb_rowsOK 76 = true := by decide +kernel
theorem gb_row_77 : gb_rowsOK 77 = true := by decide +kernel
theorem gb_row_78 : gb_rowsOK 78 = true := by decide +kernel
theorem gb_row_79 : gb_rowsOK 79 = true := by decide +kernel
theorem gb_row_80 : gb_rowsOK 80 = true := by decide +kernel
theorem gb_row_81 : gb_rowsOK 81 = true := by decide +kernel
theorem gb_row_82_0 : (((gb_rows 82).drop 0).take 25).all (gb_chk 82) = true := by decide +kernel
theorem gb_row_82_25 : (((gb_rows 82).drop 25).take 25).all (gb_chk 82) = true := by decide +kernel
theorem gb_row_82_50 : (((gb_rows 82).drop 50).take 25).all (gb_chk 82) = true := by decide +kernel
theorem gb_row_82_75 : (((gb_rows 82).drop 75).take 25).all (gb_chk 82) = true := by decide +kernel
theorem gb_row_82 : gb_rowsOK 82 = true := gb_rowsOK_of (by decide +kernel) (gb_all_cut 0 25 gb_row_82_0 (gb_all_cut 25 25 gb_row_82_25 (gb_all_cut 50 25 gb_row_82_50 (gb_all_cut 75 25 gb_row_82_75 ((by decide +kernel))))))
theorem gb_row_83 : gb_rowsOK 83 = true := by decide +kernel
theorem gb_row_84 : gb_rowsOK 84 = true := by decide +kernel
theorem gb_row_85 : gb_rowsOK 85 = true := by decide +kernel
theorem gb_row_86_0 : (((gb_rows 86).drop 0).take 25).all (gb_chk 86) = true := by decide +kernel
theorem gb_row_86_25 : (((gb_rows 86).drop 25).take 25).all (gb_chk 86) = true := by decide +kernel
theorem gb_row_86_50 : (((gb_rows 86).drop 50).take 25).all (gb_chk 86) = true := by decide +kernel
theorem gb_row_86 : gb_rowsOK 86 = true := gb_rowsOK_of (by decide +kernel) (gb_all_cut 0 25 gb_row_86_0 (gb_all_cut 25 25 gb_row_86_25 (gb_all_cut 50 25 gb_row_86_50 ((by decide +kernel)))))
theorem gb_row_87 : gb_rowsOK 87 = true := by decide +kernel
theorem gb_row_88 : gb_rowsOK 88 = true := by decide +kernel
theorem gb_row_89 : gb_rowsOK 89 = true := by decide +kernel
theorem gb_row_90 : gb_rowsOK 90 = true := by decide +kernel
theorem gb_row_91 : gb_rowsOK 91 = true := by decide +kernel
theorem gb_row_92 : gb_rowsOK 92 = true := by decide +kernel
theorem gb_row_93 : gb_rowsOK 93 = true := by decide +kernel
theorem gb_row_94 : gb_rowsOK 94 = true := by decide +kernel
theorem gb_row_95 : gb_rowsOK 95 = true := by decide +kernel
theorem gb_row_96 : gb_rowsOK 96 = true := by decide +kernel
theorem gb_row_97 : gb_rowsOK 97 = true := by decide +kernel
theorem gb_row_98_0 : (((gb_rows 98).drop 0).take 25).all (gb_chk 98) = true := by decide +kernel
theorem gb_row_98_25 : (((gb_rows 98).drop 25).take 25).all (gb_chk 98) = true := by decide +kernel
theorem gb_row_98_50 : (((gb_rows 98).drop 50).take 25).all (gb_chk 98) = true := by decide +kernel
theorem gb_row_98 : gb_rowsOK 98 = true := gb_rowsOK_of (by decide +kernel) (gb_all_cut 0 25 gb_row_98_0 (gb_all_cut 25 25 gb_row_98_25 (gb_all_cut 50 25 gb_row_98_50 ((by decide +kernel)))))
theorem gb_row_99_0 : (((gb_rows 99).drop 0).take 25).all (gb_chk 99) = true := by decide +kernel
theorem gb_row_99_25 : (((gb_rows 99).drop 25).take 25).all (gb_chk 99) = true := by decide +kernel
theorem gb_row_99_50 : (((gb_rows 99).drop 50).take 25).all (gb_chk 99) = true := by decide +kernel
theorem gb_row_99_75 : (((gb_rows 99).drop 75).take 25).all (gb_chk 99) = true := by decide +kernel
theorem gb_row_99 : gb_rowsOK 99 = true := gb_rowsOK_of (by decide +kernel) (gb_all_cut 0 25 gb_row_99_0 (gb_all_cut 25 25 gb_row_99_25 (gb_all_cut 50 25 gb_row_99_50 (gb_all_cut 75 25 gb_row_99_75 ((by decide +kernel))))))
theorem gb_row_100 : gb_rowsOK 100 = true := by decide +kernel
theorem gb_row_101 : gb_rowsOK 101 = true := by decide +kernel
theorem gb_row_102 : gb_rowsOK 102 = true := by decide +kernel
theorem gb_row_103 : gb_rowsOK 103 = true := by decide +kernel
theorem gb_row_104 : gb_rowsOK 104 = true := by decide +kernel
theorem gb_row_105 : gb_rowsOK 105 = true := by decide +kernel
theorem gb_row_106 : gb_rowsOK 106 = true := by decide +kernel
theorem gb_row_107 : gb_rowsOK 107 = true := by decide +kernel
theorem gb_row_108 : gb_rowsOK 108 = true := by decide +kernel
theorem gb_row_109 : gb_rowsOK 109 = true := by decide +kernel
theorem gb_row_110 : gb_rowsOK 110 = true := by decide +kernel
theorem gb_row_111 : gb_rowsOK 111 = true := by decide +kernel
theorem gb_row_112 : gb_rowsOK 112 = true := by decide +kernel
theorem gb_row_113 : gb_rowsOK 113 = true := by decide +kernel
theorem gb_row_114 : gb_rowsOK 114 = true := by decide +kernel
theorem gb_row_115 : gb_rowsOK 115 = true := by decide +kernel
theorem gb_row_116_0 : (((gb_rows 116).drop 0).take 25).all (gb_chk 116) = true := by decide +kernel
theorem gb_row_116_25 : (((gb_rows 116).drop 25).take 25).all (gb_chk 116) = true := by decide +kernel
theorem gb_row_116_50 : (((gb_rows 116).drop 50).take 25).all (gb_chk 116) = true := by decide +kernel
theorem gb_row_116_75 : (((gb_rows 116).drop 75).take 25).all (gb_chk 116) = true := by decide +kernel
theorem gb_row_116_100 : (((gb_rows 116).drop 100).take 25).all (gb_chk 116) = true := by decide +kernel
theorem gb_row_116_125 : (((gb_rows 116).drop 125).take 25).all (gb_chk 116) = true := by decide +kernel
theorem gb_row_116_150 : (((gb_rows 116).drop 150).take 25).all (gb_chk 116) = true := by decide +kernel
theorem gb_row_116 : gb_rowsOK 116 = true := gb_rowsOK_of (by decide +kernel) (gb_all_cut 0 25 gb_row_116_0 (gb_all_cut 25 25 gb_row_116_25 (gb_all_cut 50 25 gb_row_116_50 (gb_all_cut 75 25 gb_row_116_75 (gb_all_cut 100 25 gb_row_116_100 (gb_all_cut 125 25 gb_row_116_125 (gb_all_cut 150 25 gb_row_116_150 ((by decide +kernel)))))))))
theorem gb_row_117 : gb_rowsOK 117 = true := by decide +kernel
theorem gb_row_118 : gb_rowsOK 118 = true := by decide +kernel
theorem gb_row_119 : gb_rowsOK 119 = true := by decide +kernel
theorem gb_row_120 : gb_rowsOK 120 = true := by decide +kernel
theorem gb_row_121_0 : (((gb_rows 121).drop 0).take 25).all (gb_chk 121) = true := by decide +kernel
theorem gb_row_121_25 : (((gb_rows 121).drop 25).take 25).all (gb_chk 121) = true := by decide +kernel
theorem gb_row_121_50 : (((gb_rows 121).drop 50).take 25).all (gb_chk 121) = true := by decide +kernel
theorem gb_row_121_75 : (((gb_rows 121).drop 75).take 25).all (gb_chk 121) = true := by decide +kernel
theorem gb_row_121 : gb_rowsOK 121 = true := gb_rowsOK_of (by decide +kernel) (gb_all_cut 0 25 gb_row_121_0 (gb_all_cut 25 25 gb_row_121_25 (gb_all_cut 50 25 gb_row_121_50 (gb_all_cut 75 25 gb_row_121_75 ((by decide +kernel))))))
theorem gb_row_122 : gb_rowsOK 122 = true := by decide +kernel
theorem gb_row_123 : gb_rowsOK 123 = true := by decide +kernel
theorem gb_row_124_0 : (((gb_rows 124).drop 0).take 25).all (gb_chk 124) = true := by decide +kernel
theorem gb_row_124_25 : (((gb_rows 124).drop 25).take 25).all (gb_chk 124) = true := by decide +kernel
theorem gb_row_124_50 : (((gb_rows 124).drop 50).take 25).all (gb_chk 124) = true := by decide +kernel
theorem gb_row_124_75 : (((gb_rows 124).drop 75).take 25).all (gb_chk 124) = true := by decide +kernel
theorem gb_row_124_100 : (((gb_rows 124).drop 100).take 25).all (gb_chk 124) = true := by decide +kernel
theorem gb_row_124_125 : (((gb_rows 124).drop 125).take 25).all (gb_chk 124) = true := by decide +kernel
theorem gb_row_124_150 : (((gb_rows 124).drop 150).take 25).all (gb_chk 124) = true := by decide +kernel
theorem gb_row_124_175 : (((gb_rows 124).drop 175).take 25).all (gb_chk 124) = true := by decide +kernel
theorem gb_row_124 : gb_rowsOK 124 = true := gb_rowsOK_of (by decide +kernel) (gb_all_cut 0 25 gb_row_124_0 (gb_all_cut 25 25 gb_row_124_25 (gb_all_cut 50 25 gb_row_124_50 (gb_all_cut 75 25 gb_row_124_75 (gb_all_cut 100 25 gb_row_124_100 (gb_all_cut 125 25 gb_row_124_125 (gb_all_cut 150 25 gb_row_124_150 (gb_all_cut 175 25 gb_row_124_175 ((by decide +kernel))))))))))
theorem gb_row_125_0 : (((gb_rows 125).drop 0).take 25).all (gb_chk 125) = true := by decide +kernel
theorem gb_row_125_25 : (((gb_rows 125).drop 25).take 25).all (gb_chk 125) = true := by decide +kernel
theorem gb_row_125_50 : (((gb_rows 125).drop 50).take 25).all (gb_chk 125) = true := by decide +kernel
theorem gb_row_125_75 : (((gb_rows 125).drop 75).take 25).all (gb_chk 125) = true := by decide +kernel
theorem gb_row_125 : gb_rowsOK 125 = true := gb_rowsOK_of (by decide +kernel) (gb_all_cut 0 25 gb_row_125_0 (gb_all_cut 25 25 gb_row_125_25 (gb_all_cut 50 25 gb_row_125_50 (gb_all_cut 75 25 gb_row_125_75 ((by decide +kernel))))))
theorem gb_row_126_0 : (((gb_rows 126).drop 0).take 25).all (gb_chk 126) = true := by decide +kernel
theorem gb_row_126_25 : (((gb_rows 126).drop 25).take 25).all (gb_chk 126) = true := by decide +kernel
theorem gb_row_126_50 : (((gb_rows 126).drop 50).take 25).all (gb_chk 126) = true := by decide +kernel
theorem gb_row_126_75 : (((gb_rows 126).drop 75).take 25).all (gb_chk 126) = true := by decide +kernel
theorem gb_row_126_100 : (((gb_rows 126).drop 100).take 25).all (gb_chk 126) = true := by decide +kernel
theorem gb_row_126 : gb_rowsOK 126 = true := gb_rowsOK_of (by decide +kernel) (gb_all_cut 0 25 gb_row_126_0 (gb_all_cut 25 25 gb_row_126_25 (gb_all_cut 50 25 gb_row_126_50 (gb_all_cut 75 25 gb_row_126_75 (gb_all_cut 100 25 gb_row_126_100 ((by decide +kernel)))))))
theorem gb_row_127_0 : (((gb_rows 127).drop 0).take 25).all (gb_chk 127) = true := by decide +kernel
theorem gb_row_127_25 : (((gb_rows 127).drop 25).take 25).all (gb_chk 127) = true := by decide +kernel
theorem gb_row_127_50 : (((gb_rows 127).drop 50).take 25).all (gb_chk 127) = true := by decide +kernel
theorem gb_row_127_75 : (((gb_rows 127).drop 75).take 25).all (gb_chk 127) = true := by decide +kernel
theorem gb_row_127_100 : (((gb_rows 127).drop 100).take 25).all (gb_chk 127) = true := by decide +kernel
theorem gb_row_127_125 : (((gb_rows 127).drop 125).take 25).all (gb_chk 127) = true := by decide +kernel
theorem gb_row_127_150 : (((gb_rows 127).drop 150).take 25).all (gb_chk 127) = true := by decide +kernel
theorem gb_row_127_175 : (((gb_rows 127).drop 175).take 25).all (gb_chk 127) = true := by decide +kernel
theorem gb_row_127_200 : (((gb_rows 127).drop 200).take 25).all (gb_chk 127) = true := by decide +kernel
theorem gb_row_127_225 : (((gb_rows 127).drop 225).take 25).all (gb_chk 127) = true := by decide +kernel
theorem gb_row_127_250 : (((gb_rows 127).drop 250).take 25).all (gb_chk 127) = true := by decide +kernel
theorem gb_row_127_275 : (((gb_rows 127).drop 275).take 25).all (gb_chk 127) = true := by decide +kernel
theorem gb_row_127 : gb_rowsOK 127 = true := gb_rowsOK_of (by decide +kernel) (gb_all_cut 0 25 gb_row_127_0 (gb_all_cut 25 25 gb_row_127_25 (gb_all_cut 50 25 gb_row_127_50 (gb_all_cut 75 25 gb_row_127_75 (gb_all_cut 100 25 gb_row_127_100 (gb_all_cut 125 25 gb_row_127_125 (gb_all_cut 150 25 gb_row_127_150 (gb_all_cut 175 25 gb_row_127_175 (gb_all_cut 200 25 gb_row_127_200 (gb_all_cut 225 25 gb_row_127_225 (gb_all_cut 250 25 gb_row_127_250 (gb_all_cut 275 25 gb_row_127_275 ((by decide +kernel))))))))))))))
theorem gb_row_128 : gb_rowsOK 128 = true := by decide +kernel
theorem gb_row_129_0 : (((gb_rows 129).drop 0).take 25).all (gb_chk 129) = true := by decide +kernel
theorem gb_row_129_25 : (((gb_rows 129).drop 25).take 25).all (gb_chk 129) = true := by decide +kernel
theorem gb_row_129_50 : (((gb_rows 129).drop 50).take 25).all (gb_chk 129) = true := by decide +kernel
theorem gb_row_129_75 : (((gb_rows 129).drop 75).take 25).all (gb_chk 129) = true := by decide +kernel
theorem gb_row_129_100 : (((gb_rows 129).drop 100).take 25).all (gb_chk 129) = true := by decide +kernel
theorem gb_row_129_125 : (((gb_rows 129).drop 125).take 25).all (gb_chk 129) = true := by decide +kernel
theorem gb_row_129_150 : (((gb_rows 129).drop 150).take 25).all (gb_chk 129) = true := by decide +kernel
theorem gb_row_129 : gb_rowsOK 129 = true := gb_rowsOK_of (by decide +kernel) (gb_all_cut 0 25 gb_row_129_0 (gb_all_cut 25 25 gb_row_129_25 (gb_all_cut 50 25 gb_row_129_50 (gb_all_cut 75 25 gb_row_129_75 (gb_all_cut 100 25 gb_row_129_100 (gb_all_cut 125 25 gb_row_129_125 (gb_all_cut 150 25 gb_row_129_150 ((by decide +kernel)))))))))
theorem gb_row_130 : gb_rowsOK 130 = true := by decide +kernel
theorem gb_row_131 : gb_rowsOK 131 = true := by decide +kernel
theorem gb_row_132 : gb_rowsOK 132 = true := by decide +kernel
theorem gb_row_133 : gb_rowsOK 133 = true := by decide +kernel
theorem gb_row_134 : gb_rowsOK 134 = true := by decide +kernel
theorem gb_row_135_0 : (((gb_rows 135).drop 0).take 25).all (gb_chk 135) = true := by decide +kernel
theorem gb_row_135_25 : (((gb_rows 135).drop 25).take 25).all (gb_chk 135) = true := by decide +kernel
theorem gb_row_135_50 : (((gb_rows 135).drop 50).take 25).all (gb_chk 135) = true := by decide +kernel
theorem gb_row_135_75 : (((gb_rows 135).drop 75).take 25).all (gb_chk 135) = true := by decide +kernel
theorem gb_row_135_100 : (((gb_rows 135).drop 100).take 25).all (gb_chk 135) = true := by decide +kernel
theorem gb_row_135 : gb_rowsOK 135 = true := gb_rowsOK_of (by decide +kernel) (gb_all_cut 0 25 gb_row_135_0 (gb_all_cut 25 25 gb_row_135_25 (gb_all_cut 50 25 gb_row_135_50 (gb_all_cut 75 25 gb_row_135_75 (gb_all_cut 100 25 gb_row_135_100 ((by decide +kernel)))))))
theorem gb_row_136 : gb_rowsOK 136 = true := by decide +kernel
theorem gb_row_137_0 : (((gb_rows 137).drop 0).take 25).all (gb_chk 137) = true := by decide +kernel
theorem gb_row_137_25 : (((gb_rows 137).drop 25).take 25).all (gb_chk 137) = true := by decide +kernel
theorem gb_row_137_50 : (((gb_rows 137).drop 50).take 25).all (gb_chk 137) = true := by decide +kernel
theorem gb_row_137_75 : (((gb_rows 137).drop 75).take 25).all (gb_chk 137) = true := by decide +kernel
theorem gb_row_137 : gb_rowsOK 137 = true := gb_rowsOK_of (by decide +kernel) (gb_all_cut 0 25 gb_row_137_0 (gb_all_cut 25 25 gb_row_137_25 (gb_all_cut 50 25 gb_row_137_50 (gb_all_cut 75 25 gb_row_137_75 ((by decide +kernel))))))
theorem gb_row_138_0 : (((gb_rows 138).drop 0).take 25).all (gb_chk 138) = true := by decide +kernel
theorem gb_row_138_25 : (((gb_rows 138).drop 25).take 25).all (gb_chk 138) = true := by decide +kernel
theorem gb_row_138_50 : (((gb_rows 138).drop 50).take 25).all (gb_chk 138) = true := by decide +kernel
theorem gb_row_138 : gb_rowsOK 138 = true := gb_rowsOK_of (by decide +kernel) (gb_all_cut 0 25 gb_row_138_0 (gb_all_cut 25 25 gb_row_138_25 (gb_all_cut 50 25 gb_row_138_50 ((by decide +kernel)))))
theorem gb_row_139 : gb_rowsOK 139 = true := by decide +kernel
theorem gb_row_140 : gb_rowsOK 140 = true := by decide +kernel
theorem gb_row_141_0 : (((gb_rows 141).drop 0).take 25).all (gb_chk 141) = true := by decide +kernel
theorem gb_row_141_25 : (((gb_rows 141).drop 25).take 25).all (gb_chk 141) = true := by decide +kernel
theorem gb_row_141_50 : (((gb_rows 141).drop 50).take 25).all (gb_chk 141) = true := by decide +kernel
theorem gb_row_141 : gb_rowsOK 141 = true := gb_rowsOK_of (by decide +kernel) (gb_all_cut 0 25 gb_row_141_0 (gb_all_cut 25 25 gb_row_141_25 (gb_all_cut 50 25 gb_row_141_50 ((by decide +kernel)))))
theorem gb_row_142 : gb_rowsOK 142 = true := by decide +kernel
theorem gb_row_143 : gb_rowsOK 143 = true := by decide +kernel
theorem gb_row_144_0 : (((gb_rows 144).drop 0).take 25).all (gb_chk 144) = true := by decide +kernel
theorem gb_row_144_25 : (((gb_rows 144).drop 25).take 25).all (gb_chk 144) = true := by decide +kernel
theorem gb_row_144_50 : (((gb_rows 144).drop 50).take 25).all (gb_chk 144) = true := by decide +kernel
theorem gb_row_144_75 : (((gb_rows 144).drop 75).take 25).all (gb_chk 144) = true := by decide +kernel
theorem gb_row_144 : gb_rowsOK 144 = true := gb_rowsOK_of (by decide +kernel) (gb_all_cut 0 25 gb_row_144_0 (gb_all_cut 25 25 gb_row_144_25 (gb_all_cut 50 25 gb_row_144_50 (gb_all_cut 75 25 gb_row_144_75 ((by decide +kernel))))))
theorem gb_row_145 : gb_rowsOK 145 = true := by decide +kernel
theorem gb_row_146_0 : (((gb_rows 146).drop 0).take 25).all (gb_chk 146) = true := by decide +kernel
theorem gb_row_146_25 : (((gb_rows 146).drop 25).take 25).all (gb_chk 146) = true := by decide +kernel
theorem gb_row_146_50 : (((gb_rows 146).drop 50).take 25).all (gb_chk 146) = true := by decide +kernel
theorem gb_row_146_75 : (((gb_rows 146).drop 75).take 25).all (gb_chk 146) = true := by decide +kernel
theorem gb_row_146 : gb_rowsOK 146 = true := gb_rowsOK_of (by decide +kernel) (gb_all_cut 0 25 gb_row_146_0 (gb_all_cut 25 25 gb_row_146_25 (gb_all_cut 50 25 gb_row_146_50 (gb_all_cut 75 25 gb_row_146_75 ((by decide +kernel))))))
theorem gb_row_147 : gb_rowsOK 147 = true := by decide +kernel
theorem gb_row_148 : gb_rowsOK 148 = true := by decide +kernel
theorem gb_row_149 : gb_rowsOK 149 = true := by decide +kernel
theorem gb_row_150 : gb_rowsOK 150 = true := by decide +kernel
theorem gb_row_151 : gb_rowsOK 151 = true := by decide +kernel
theorem gb_row_152_0 : (((gb_rows 152).drop 0).take 25).all (gb_chk 152) = true := by decide +kernel
theorem gb_row_152_25 : (((gb_rows 152).drop 25).take 25).all (gb_chk 152) = true := by decide +kernel
theorem gb_row_152_50 : (((gb_rows 152).drop 50).take 25).all (gb_chk 152) = true := by decide +kernel
theorem gb_row_152_75 : (((gb_rows 152).drop 75).take 25).all (gb_chk 152) = true := by decide +kernel
theorem gb_row_152 : gb_rowsOK 152 = true := gb_rowsOK_of (by decide +kernel) (gb_all_cut 0 25 gb_row_152_0 (gb_all_cut 25 25 gb_row_152_25 (gb_all_cut 50 25 gb_row_152_50 (gb_all_cut 75 25 gb_row_152_75 ((by decide +kernel))))))
theorem gb_row_153 : gb_rowsOK 153 = true := by decide +kernel
theorem gb_row_154 : gb_rowsOK 154 = true := by decide +kernel
theorem gb_row_155 : gb_rowsOK 155 = true := by decide +kernel
theorem gb_row_156_0 : (((gb_rows 156).drop 0).take 25).all (gb_chk 156) = true := by decide +kernel
theorem gb_row_156_25 : (((gb_rows 156).drop 25).take 25).all (gb_chk 156) = true := by decide +kernel
theorem gb_row_156_50 : (((gb_rows 156).drop 50).take 25).all (gb_chk 156) = true := by decide +kernel
theorem gb_row_156 : gb_rowsOK 156 = true := gb_rowsOK_of (by decide +kernel) (gb_all_cut 0 25 gb_row_156_0 (gb_all_cut 25 25 gb_row_156_25 (gb_all_cut 50 25 gb_row_156_50 ((by decide +kernel)))))
theorem gb_row_157 : gb_rowsOK 157 = true := by decide +kernel
theorem gb_row_158 : gb_rowsOK 158 = true := by decide +kernel
theorem gb_row_159_0 : (((gb_rows 159).drop 0).take 25).all (gb_chk 159) = true := by decide +kernel
theorem gb_row_159_25 : (((gb_rows 159).drop 25).take 25).all (gb_chk 159) = true := by decide +kernel
theorem gb_row_159_50 : (((gb_rows 159).drop 50).take 25).all (gb_chk 159) = true := by decide +kernel
theorem gb_row_159 : gb_rowsOK 159 = true := gb_rowsOK_of (by decide +kernel) (gb_all_cut 0 25 gb_row_159_0 (gb_all_cut 25 25 gb_row_159_25 (gb_all_cut 50 25 gb_row_159_50 ((by decide +kernel)))))
theorem gb_row_160_0 : (((gb_rows 160).drop 0).take 25).all (gb_chk 160) = true := by decide +kernel
theorem gb_row_160_25 : (((gb_rows 160).drop 25).take 25).all (gb_chk 160) = true := by decide +kernel
theorem gb_row_160_50 : (((gb_rows 160).drop 50).take 25).all (gb_chk 160) = true := by decide +kernel
theorem gb_row_160_75 : (((gb_rows 160).drop 75).take 25).all (gb_chk 160) = true := by decide +kernel
theorem gb_row_160_100 : (((gb_rows 160).drop 100).take 25).all (gb_chk 160) = true := by decide +kernel
theorem gb_row_160_125 : (((gb_rows 160).drop 125).take 25).all (gb_chk 160) = true := by decide +kernel
theorem gb_row_160_150 : (((gb_rows 160).drop 150).take 25).all (gb_chk 160) = true := by decide +kernel
theorem gb_row_160 : gb_rowsOK 160 = true := gb_rowsOK_of (by decide +kernel) (gb_all_cut 0 25 gb_row_160_0 (gb_all_cut 25 25 gb_row_160_25 (gb_all_cut 50 25 gb_row_160_50 (gb_all_cut 75 25 gb_row_160_75 (gb_all_cut 100 25 gb_row_160_100 (gb_all_cut 125 25 gb_row_160_125 (gb_all_cut 150 25 gb_row_160_150 ((by decide +kernel)))))))))
theorem gb_row_161 : gb_rowsOK 161 = true := by decide +kernel
theorem gb_row_162 : gb_rowsOK 162 = true := by decide +kernel
theorem gb_row_163 : gb_rowsOK 163 = true := by decide +kernel
theorem gb_row_164 : gb_rowsOK 164 = true := by decide +kernel
theorem gb_row_165 : gb_rowsOK 165 = true := by decide +kernel
theorem gb_row_166 : gb_rowsOK 166 = true := by decide +kernel
theorem gb_row_167 : gb_rowsOK 167 = true := by decide +kernel
theorem gb_row_168 : gb_rowsOK 168 = true := by decide +kernel
theorem gb_row_169 : gb_rowsOK 169 = true := by decide +kernel
theorem gb_row_170 : gb_rowsOK 170 = true := by decide +kernel
theorem gb_row_171_0 : (((gb_rows 171).drop 0).take 25).all (gb_chk 171) = true := by decide +kernel
theorem gb_row_171_25 : (((gb_rows 171).drop 25).take 25).all (gb_chk 171) = true := by decide +kernel
theorem gb_row_171_50 : (((gb_rows 171).drop 50).take 25).all (gb_chk 171) = true := by decide +kernel
theorem gb_row_171_75 : (((gb_rows 171).drop 75).take 25).all (gb_chk 171) = true := by decide +kernel
theorem gb_row_171 : gb_rowsOK 171 = true := gb_rowsOK_of (by decide +kernel) (gb_all_cut 0 25 gb_row_171_0 (gb_all_cut 25 25 gb_row_171_25 (gb_all_cut 50 25 gb_row_171_50 (gb_all_cut 75 25 gb_row_171_75 ((by decide +kernel))))))
theorem gb_row_172_0 : (((gb_rows 172).drop 0).take 25).all (gb_chk 172) = true := by decide +kernel
theorem gb_row_172_25 : (((gb_rows 172).drop 25).take 25).all (gb_chk 172) = true := by decide +kernel
theorem gb_row_172_50 : (((gb_rows 172).drop 50).take 25).all (gb_chk 172) = true := by decide +kernel
theorem gb_row_172_75 : (((gb_rows 172).drop 75).take 25).all (gb_chk 172) = true := by decide +kernel
theorem gb_row_172 : gb_rowsOK 172 = true := gb_rowsOK_of (by decide +kernel) (gb_all_cut 0 25 gb_row_172_0 (gb_all_cut 25 25 gb_row_172_25 (gb_all_cut 50 25 gb_row_172_50 (gb_all_cut 75 25 gb_row_172_75 ((by decide +kernel))))))
theorem gb_row_173_0 : (((gb_rows 173).drop 0).take 25).all (gb_chk 173) = true := by decide +kernel
theorem gb_row_173_25 : (((gb_rows 173).drop 25).take 25).all (gb_chk 173) = true := by decide +kernel
theorem gb_row_173_50 : (((gb_rows 173).drop 50).take 25).all (gb_chk 173) = true := by decide +kernel
theorem gb_row_173_75 : (((gb_rows 173).drop 75).take 25).all (gb_chk 173) = true := by decide +kernel
theorem gb_row_173_100 : (((gb_rows 173).drop 100).take 25).all (gb_chk 173) = true := by decide +kernel
theorem gb_row_173 : gb_rowsOK 173 = true := gb_rowsOK_of (by decide +kernel) (gb_all_cut 0 25 gb_row_173_0 (gb_all_cut 25 25 gb_row_173_25 (gb_all_cut 50 25 gb_row_173_50 (gb_all_cut 75 25 gb_row_173_75 (gb_all_cut 100 25 gb_row_173_100 ((by decide +kernel)))))))
theorem gb_row_174 : gb_rowsOK 174 = true := by decide +kernel
theorem gb_row_175 : gb_rowsOK 175 = true := by decide +kernel
theorem gb_row_176 : gb_rowsOK 176 = true := by decide +kernel
theorem gb_row_177 : gb_rowsOK 177 = true := by decide +kernel
theorem gb_row_178 : gb_rowsOK 178 = true := by decide +kernel
theorem gb_row_179_0 : (((gb_rows 179).drop 0).take 25).all (gb_chk 179) = true := by decide +kernel
theorem gb_row_179_25 : (((gb_rows 179).drop 25).take 25).all (gb_chk 179) = true := by decide +kernel
theorem gb_row_179_50 : (((gb_rows 179).drop 50).take 25).all (gb_chk 179) = true := by decide +kernel
theorem gb_row_179_75 : (((gb_rows 179).drop 75).take 25).all (gb_chk 179) = true := by decide +kernel
theorem gb_row_179 : gb_rowsOK 179 = true := gb_rowsOK_of (by decide +kernel) (gb_all_cut 0 25 gb_row_179_0 (gb_all_cut 25 25 gb_row_179_25 (gb_all_cut 50 25 gb_row_179_50 (gb_all_cut 75 25 gb_row_179_75 ((by decide +kernel))))))
theorem gb_row_180 : gb_rowsOK 180 = true := by decide +kernel
theorem gb_row_181_0 : (((gb_rows 181).drop 0).take 25).all (gb_chk 181) = true := by decide +kernel
theorem gb_row_181_25 : (((gb_rows 181).drop 25).take 25).all (gb_chk 181) = true := by decide +kernel
theorem gb_row_181_50 : (((gb_rows 181).drop 50).take 25).all (gb_chk 181) = true := by decide +kernel
theorem gb_row_181_75 : (((gb_rows 181).drop 75).take 25).all (gb_chk 181) = true := by decide +kernel
theorem gb_row_181 : gb_rowsOK 181 = true := gb_rowsOK_of (by decide +kernel) (gb_all_cut 0 25 gb_row_181_0 (gb_all_cut 25 25 gb_row_181_25 (gb_all_cut 50 25 gb_row_181_50 (gb_all_cut 75 25 gb_row_181_75 ((by decide +kernel))))))
theorem gb_row_182 : gb_rowsOK 182 = true := by decide +kernel
theorem gb_row_183 : gb_rowsOK 183 = true := by decide +kernel
theorem gb_row_184_0 : (((gb_rows 184).drop 0).take 25).all (gb_chk 184) = true := by decide +kernel
theorem gb_row_184_25 : (((gb_rows 184).drop 25).take 25).all (gb_chk 184) = true := by decide +kernel
theorem gb_row_184_50 : (((gb_rows 184).drop 50).take 25).all (gb_chk 184) = true := by decide +kernel
theorem gb_row_184 : gb_rowsOK 184 = true := gb_rowsOK_of (by decide +kernel) (gb_all_cut 0 25 gb_row_184_0 (gb_all_cut 25 25 gb_row_184_25 (gb_all_cut 50 25 gb_row_184_50 ((by decide +kernel)))))
theorem gb_row_185 : gb_rowsOK 185 = true := by decide +kernel
theorem gb_row_186 : gb_rowsOK 186 = true := by decide +kernel
theorem gb_row_187 : gb_rowsOK 187 = true := by decide +kernel
theorem gb_rows_ok : ∀ k, k < 188 → gb_rowsOK k = true := by
  intro k hk
  match k, hk with
  | 0, _ => exact gb_row_0
  | 1, _ => exact gb_row_1
  | 2, _ => exact gb_row_2
  | 3, _ => exact gb_row_3
  | 4, _ => exact gb_row_4
  | 5, _ => exact gb_row_5
  | 6, _ => exact gb_row_6
  | 7, _ => exact gb_row_7
  | 8, _ => exact gb_row_8
  | 9, _ => exact gb_row_9
  | 10, _ => exact gb_row_10
  | 11, _ => exact gb_row_11
  | 12, _ => exact gb_row_12
  | 13, _ => exact gb_row_13
  | 14, _ => exact gb_row_14
  | 15, _ => exact gb_row_15
  | 16, _ => exact gb_row_16
  | 17, _ => exact gb_row_17
  | 18, _ => exact gb_row_18
  | 19, _ => exact gb_row_19
  | 20, _ => exact gb_row_20
  | 21, _ => exact gb_row_21
  | 22, _ => exact gb_row_22
  | 23, _ => exact gb_row_23
  | 24, _ => exact gb_row_24
  | 25, _ => exact gb_row_25
  | 26, _ => exact gb_row_26
  | 27, _ => exact gb_row_27
  | 28, _ => exact gb_row_28
  | 29, _ => exact gb_row_29
  | 30, _ => exact gb_row_30
  | 31, _ => exact gb_row_31
  | 32, _ => exact gb_row_32
  | 33, _ => exact gb_row_33
  | 34, _ => exact gb_row_34
  | 35, _ => exact gb_row_35
  | 36, _ => exact gb_row_36
  | 37, _ => exact gb_row_37
  | 38, _ => exact gb_row_38
  | 39, _ => exact gb_row_39
  | 40, _ => exact gb_row_40
  | 41, _ => exact gb_row_41
  | 42, _ => exact gb_row_42
  | 43, _ => exact gb_row_43
  | 44, _ => exact gb_row_44
  | 45, _ => exact gb_row_45
  | 46, _ => exact gb_row_46
  | 47, _ => exact gb_row_47
  | 48, _ => exact gb_row_48
  | 49, _ => exact gb_row_49
  | 50, _ => exact gb_row_50
  | 51, _ => exact gb_row_51
  | 52, _ => exact gb_row_52
  | 53, _ => exact gb_row_53
  | 54, _ => exact gb_row_54
  | 55, _ => exact gb_row_55
  | 56, _ => exact gb_row_56
  | 57, _ => exact gb_row_57
  | 58, _ => exact gb_row_58
  | 59, _ => exact gb_row_59
  | 60, _ => exact gb_row_60
  | 61, _ => exact gb_row_61
  | 62, _ => exact gb_row_62
  | 63, _ => exact gb_row_63
  | 64, _ => exact gb_row_64
  | 65, _ => exact gb_row_65
  | 66, _ => exact gb_row_66
  | 67, _ => exact gb_row_67
  | 68, _ => exact gb_row_68
  | 69, _ => exact gb_row_69
  | 70, _ => exact gb_row_70
  | 71, _ => exact gb_row_71
  | 72, _ => exact gb_row_72
  | 73, _ => exact gb_row_73
  | 74, _ => exact gb_row_74
  | 75, _ => exact gb_row_75
  | 76, _ => exact gb_row_76
  | 77, _ => exact gb_row_77
  | 78, _ => exact gb_row_78
  | 79, _ => exact gb_row_79
  | 80, _ => exact gb_row_80
  | 81, _ => exact gb_row_81
  | 82, _ => exact gb_row_82
  | 83, _ => exact gb_row_83
  | 84, _ => exact gb_row_84
  | 85, _ => exact gb_row_85
  | 86, _ => exact gb_row_86
  | 87, _ => exact gb_row_87
  | 88, _ => exact gb_row_88
  | 89, _ => exact gb_row_89
  | 90, _ => exact gb_row_90
  | 91, _ => exact gb_row_91
  | 92, _ => exact gb_row_92
  | 93, _ => exact gb_row_93
  | 94, _ => exact gb_row_94
  | 95, _ => exact gb_row_95
  | 96, _ => exact gb_row_96
  | 97, _ => exact gb_row_97
  | 98, _ => exact gb_row_98
  | 99, _ => exact gb_row_99
  | 100, _ => exact gb_row_100
  | 101, _ => exact gb_row_101
  | 102, _ => exact gb_row_102
  | 103, _ => exact gb_row_103
  | 104, _ => exact gb_row_104
  | 105, _ => exact gb_row_105
  | 106, _ => exact gb_row_106
  | 107, _ => exact gb_row_107
  | 108, _ => exact gb_row_108
  | 109, _ => exact gb_row_109
  | 110, _ => exact gb_row_110
  | 111, _ => exact gb_row_111
  | 112, _ => exact gb_row_112
  | 113, _ => exact gb_row_113
  | 114, _ => exact gb_row_114
  | 115, _ => exact gb_row_115
  | 116, _ => exact gb_row_116
  | 117, _ => exact gb_row_117
  | 118, _ => exact gb_row_118
  | 119, _ => exact gb_row_119
  | 120, _ => exact gb_row_120
  | 121, _ => exact gb_row_121
  | 122, _ => exact gb_row_122
  | 123, _ => exact gb_row_123
  | 124, _ => exact gb_row_124
  | 125, _ => exact gb_row_125
  | 126, _ => exact gb_row_126
  | 127, _ => exact gb_row_127
  | 128, _ => exact gb_row_128
  | 129, _ => exact gb_row_129
  | 130, _ => exact gb_row_130
  | 131, _ => exact gb_row_131
  | 132, _ => exact gb_row_132
  | 133, _ => exact gb_row_133
  | 134, _ => exact gb_row_134
  | 135, _ => exact gb_row_135
  | 136, _ => exact gb_row_136
  | 137, _ => exact gb_row_137
  | 138, _ => exact gb_row_138
  | 139, _ => exact gb_row_139
  | 140, _ => exact gb_row_140
  | 141, _ => exact gb_row_141
  | 142, _ => exact gb_row_142
  | 143, _ => exact gb_row_143
  | 144, _ => exact gb_row_144
  | 145, _ => exact gb_row_145
  | 146, _ => exact gb_row_146
  | 147, _ => exact gb_row_147
  | 148, _ => exact gb_row_148
  | 149, _ => exact gb_row_149
  | 150, _ => exact gb_row_150
  | 151, _ => exact gb_row_151
  | 152, _ => exact gb_row_152
  | 153, _ => exact gb_row_153
  | 154, _ => exact gb_row_154
  | 155, _ => exact gb_row_155
  | 156, _ => exact gb_row_156
  | 157, _ => exact gb_row_157
  | 158, _ => exact gb_row_158
  | 159, _ => exact gb_row_159
  | 160, _ => exact gb_row_160
  | 161, _ => exact gb_row_161
  | 162, _ => exact gb_row_162
  | 163, _ => exact gb_row_163
  | 164, _ => exact gb_row_164
  | 165, _ => exact gb_row_165
  | 166, _ => exact gb_row_166
  | 167, _ => exact gb_row_167
  | 168, _ => exact gb_row_168
  | 169, _ => exact gb_row_169
  | 170, _ => exact gb_row_170
  | 171, _ => exact gb_row_171
  | 172, _ => exact gb_row_172
  | 173, _ => exact gb_row_173
  | 174, _ => exact gb_row_174
  | 175, _ => exact gb_row_175
  | 176, _ => exact gb_row_176
  | 177, _ => exact gb_row_177
  | 178, _ => exact gb_row_178
  | 179, _ => exact gb_row_179
  | 180, _ => exact gb_row_180
  | 181, _ => exact gb_row_181
  | 182, _ => exact gb_row_182
  | 183, _ => exact gb_row_183
  | 184, _ => exact gb_row_184
  | 185, _ => exact gb_row_185
  | 186, _ => exact gb_row_186
  | 187, _ => exact gb_row_187
  | k + 188, hk => exact absurd hk (by omega)
end
section
/-! THE SMALL MACHINE'S STATE IN THE HEAP -/
def gb_cv (b B : Nat) : Value → Value
  | .int x => .int x
  | .long x => .long x
  | .ref i => .ref (B + i)
  | .retAddr _ => .ref b
  | _ => .null
def gb_rf (B : Nat) (r : Option Nat) : Value := match r with
  | none => .null
  | some i => .ref (B + i)
def gb_fv (B : Nat) (g : gb_Sg) (i c k : Nat) : Value := match gb_kd c k with
  | 0 => .int (gI g i k)
  | 3 => .int (gI g i k)
  | 1 => .long (gL g i k)
  | _ => gb_rf B (gR g i k)
def gb_av (B : Nat) (g : gb_Sg) (i t j : Nat) : Value := match t with
  | 0 => .int (gI g i j)
  | 1 => .int (gI g i j)
  | 2 => .int (gI g i j)
  | 3 => .long (gL g i j)
  | _ => gb_rf B (gR g i j)
def gb_aty : Nat → FieldType
  | 0 => .int
  | 1 => .byte
  | 2 => .boolean
  | 3 => .long
  | 4 => .array .int
  | _ => .array .long
def gb_cell (D : va_G) (B : Nat) (U : State) (H : Heap) (g : gb_Sg) (i : Nat) (q : Nat × Nat) : Prop :=
  (q.1 ≤ 5 ∧ ∃ cA : ClassId, H[B + i]? = some (arrV cA q.2 (gb_av B g i q.1)) ∧ ArrOfT U cA (gb_aty q.1)) ∨
  ∃ (n : Nat) (r : vw_C), q.1 = 10 + n ∧ gb_cls[n]? = some r ∧ q.2 = r.2.2 ∧ t_OB (B + i) (D.1 n) r.2.2 (D.2 n) H (gb_fv B g i n)
def gb_Rep (D : va_G) (b B : Nat) (U : State) (H : Heap) (P : gb_Pi) (g : gb_Sg) : Prop :=
  H.size = B + P.length ∧ b < B ∧ va_X b (gN g) (gX g) U H ∧ ∀ (i : Nat) (q : Nat × Nat), P[i]? = some q → gb_cell D B U H g i q
def gb_AO (ty : FieldType) (U : State) : Prop := (Cond.arrayOver (.array ty)).before #[] U = true
/-- what the tables say beyond the good words -/
def gb_K (D : va_G) (U : State) : Prop := (∀ (n : Nat) (q : vw_C), gb_cls[n]? = some q → u_Kn U q.1 q.2.1 q.2.2 (D.1 n) (D.2 n)) ∧ (∀ e ∈ gb_mtab, e.2.2 = true → va_Nw (gb_wM e) U) ∧ gb_AO .int U ∧ gb_AO .long U
theorem gb_cell.moved {D : va_G} {B : Nat} {u U : State} {H : Heap} {g : gb_Sg} {i : Nat} {q : Nat × Nat} (hvm : u.vm.Alike U.vm) (h : gb_cell D B u H g i q) : gb_cell D B U H g i q := by
  rcases h with ⟨h1, cA, h2, h3⟩ | h
  · exact Or.inl ⟨h1, cA, h2, arrOfT_moved hvm h3⟩
  · exact Or.inr h
theorem gb_Rep.moved {D : va_G} {b B : Nat} {u U : State} {H : Heap} {P : gb_Pi} {g : gb_Sg} (hvm : u.vm.Alike U.vm) (h : gb_Rep D b B u H P g) : gb_Rep D b B U H P g :=
  ⟨h.1, h.2.1, h.2.2.1.moved hvm, fun i q hq => (h.2.2.2 i q hq).moved hvm⟩
theorem gb_AO.spec {ty : FieldType} {s : State} (h : gb_AO ty s) :
    ∃ comp c k, s.vm.findClass (FieldType.array ty).toString = some comp ∧ (s.vm.classes.findIdx? fun (x : Class) => match x.kind with | .array component _ => component == comp | _ => false) = some c ∧ s.vm.classes[c]? = some k ∧ k.kind = .array comp (.array ty) ∧
      s.vm.findClass ("[" ++ (FieldType.array ty).toString) = some c := by
  unfold gb_AO Cond.before at h
  simp only [Cond.holds, Cond.value, beq_iff_eq] at h
  cases hc : s.vm.findClass (FieldType.array ty).toString with
  | none => simp [hc] at h
  | some comp =>
    simp only [hc, Option.bind_some, Option.bind_eq_some_iff, Option.map_eq_some_iff] at h
    obtain ⟨c, hi, k, hk, hb⟩ := h
    obtain ⟨hlt, hp, -⟩ := Array.findIdx?_eq_some_iff_getElem.mp hi
    have hkk : s.vm.classes[c] = k := (Array.getElem?_eq_some_iff.mp hk).2
    rw [hkk] at hp
    cases hkind : k.kind with
    | array component ty =>
      rw [hkind] at hb hp
      simp at hb hp
      exact ⟨comp, c, k, rfl, hi, hk, by rw [hkind, hp, hb.1], hb.2⟩
    | _ => rw [hkind] at hb; simp at hb
theorem gb_idx_bare (vm : Vm) (comp : ClassId) : (vm.bare.classes.findIdx? fun (x : Class) => match x.kind with | .array component _ => component == comp | _ => false) = (vm.classes.findIdx? fun (x : Class) => match x.kind with | .array component _ => component == comp | _ => false) := by
  simp only [Vm.bare, Array.findIdx?_map]
  rfl
theorem gb_AO.moved {ty : FieldType} {u U : State} (hvm : u.vm.Alike U.vm) (h : gb_AO ty u) : gb_AO ty U := by
  obtain ⟨comp, c, k, h1, h2, h3, h4, h5⟩ := gb_AO.spec h
  obtain ⟨k', hk', he⟩ := hvm.2.2 _ _ h3
  have hi : (U.vm.classes.findIdx? fun (x : Class) => match x.kind with | .array component _ => component == comp | _ => false) = some c := by
    rw [← gb_idx_bare]
    first | rw [hvm.bare_eq] | rw [← hvm.bare_eq]
    rw [gb_idx_bare]
    exact h2
  have hkind : k'.kind = .array comp (.array ty) := by rw [he]; exact h4
  have f1 : U.vm.findClass (FieldType.array ty).toString = some comp := by rw [hvm.findClass]; exact h1
  have f2 : U.vm.findClass ("[" ++ (FieldType.array ty).toString) = some c := by rw [hvm.findClass]; exact h5
  unfold gb_AO Cond.before Cond.holds
  simp only [Cond.value]
  rw [f1, Option.bind_some]
  refine (congrArg (fun o : Option Nat => (o.bind (fun c => (U.vm.classes[c]?).map fun (k : Class) => match k.kind with | .array _ ty' => decide (ty' = FieldType.array ty) && decide (U.vm.findClass ("[" ++ (FieldType.array ty).toString) = some c) | _ => false) == some true)) hi).trans ?_
  simp [hk', hkind, f2]
/-! the locals -/
def gb_al (b B : Nat) (ls : List Value) : List (Nat × Value) := ls.zipIdx.filterMap (fun q => if gb_ok q.1 then some (q.2, gb_cv b B q.1) else none)
theorem gb_al_mem {b B : Nat} {ls : List Value} {i : Nat} {w : Value} : (i, w) ∈ gb_al b B ls ↔ ∃ v, ls[i]? = some v ∧ gb_ok v = true ∧ w = gb_cv b B v := by
  unfold gb_al
  rw [List.mem_filterMap]
  constructor
  · rintro ⟨⟨v, j⟩, h1, h2⟩
    rw [List.mk_mem_zipIdx_iff_getElem?] at h1
    by_cases h : gb_ok v = true
    · simp only [h, if_true, Option.some.injEq, Prod.mk.injEq] at h2
      obtain ⟨rfl, rfl⟩ := h2
      exact ⟨v, h1, h, rfl⟩
    · simp [h] at h2
  · rintro ⟨v, h1, h2, rfl⟩
    exact ⟨(v, i), List.mk_mem_zipIdx_iff_getElem?.mpr h1, by simp [h2]⟩
def gb_lv (b B : Nat) (lsC : Array Slot) (n : Nat) (ls : List Value) : Prop := ls.length = n ∧ lv_has lsC n (gb_al b B ls)
theorem gb_lv_at {b B : Nat} {lsC : Array Slot} {n : Nat} {ls : List Value} (h : gb_lv b B lsC n ls) {i : Nat} {v : Value} (hi : ls[i]? = some v) (ho : gb_ok v = true) : lsC[i]? = some (.val (gb_cv b B v)) :=
  h.2.2.2 (i, gb_cv b B v) (gb_al_mem.mpr ⟨v, hi, ho, rfl⟩)
theorem gb_has_sub {lsC : Array Slot} {n : Nat} {l l' : List (Nat × Value)} (h : lv_has lsC n l) (hs : ∀ q ∈ l', q ∈ l) : lv_has lsC n l' := ⟨h.1, h.2.1, fun q hq => h.2.2 q (hs q hq)⟩
theorem st1_len : ∀ (ls : List Value) (i : Nat) (v : Value), (st1 ls i v).length = ls.length
  | [], _, _ => rfl
  | _ :: _, 0, _ => rfl
  | _ :: t, 1, v => by simp [st1, st1_len t 0 v]
  | _ :: t, k + 2, v => by simp [st1, st1_len t (k + 1) v]
theorem st1_get : ∀ (ls : List Value) (i : Nat) (v : Value) (j : Nat), (st1 ls i v)[j]? = if j = i then (ls[j]?).map (fun _ => v) else if j + 1 = i then (ls[j]?).map kil else ls[j]?
  | [], i, v, j => by simp [st1]
  | a :: t, 0, v, j => by
    cases j with
    | zero => simp [st1]
    | succ j => simp [st1]
  | a :: t, 1, v, j => by
    cases j with
    | zero => simp [st1]
    | succ j =>
      rw [st1, List.getElem?_cons_succ, st1_get t 0 v j, List.getElem?_cons_succ]
      by_cases h : j = 0
      · subst h; simp
      · simp [h]
  | a :: t, k + 2, v, j => by
    cases j with
    | zero => simp [st1]
    | succ j =>
      rw [st1, List.getElem?_cons_succ, st1_get t (k + 1) v j, List.getElem?_cons_succ]
      by_cases h : j = k + 1
      · subst h; simp
      · by_cases h2 : j + 1 = k + 1
        · rw [if_neg h, if_pos h2, if_neg (by omega), if_pos (by omega)]
        · rw [if_neg h, if_neg h2, if_neg (by omega), if_neg (by omega)]
theorem st2_len : ∀ (ls : List Value) (i : Nat) (v : Value), i + 1 < ls.length → (st2 ls i v).length = ls.length
  | [], _, _, h => by simp at h
  | [_], _, _, h => by simp at h
  | _ :: _ :: _, 0, _, _ => rfl
  | _ :: b :: t, 1, v, h => by
    rw [st2, List.length_cons, st2_len (b :: t) 0 v (by simp at h ⊢; omega)]; rfl
  | _ :: b :: t, k + 2, v, h => by
    rw [st2, List.length_cons, st2_len (b :: t) (k + 1) v (by simp at h ⊢; omega)]; rfl
theorem st2_get : ∀ (ls : List Value) (i : Nat) (v : Value) (j : Nat), i + 1 < ls.length → (st2 ls i v)[j]? = if j = i then some v else if j = i + 1 then some .null else if j + 1 = i then (ls[j]?).map kil else ls[j]?
  | [], _, _, _, h => by simp at h
  | [_], _, _, _, h => by simp at h
  | a :: b :: t, 0, v, j, _ => by
    match j with
    | 0 => simp [st2]
    | 1 => simp [st2]
    | j + 2 => simp [st2]
  | a :: b :: t, 1, v, j, h => by
    cases j with
    | zero => simp [st2]
    | succ j =>
      rw [st2, List.getElem?_cons_succ, st2_get (b :: t) 0 v j (by simp at h ⊢; omega), List.getElem?_cons_succ]
      by_cases h1 : j = 0
      · subst h1; simp
      · by_cases h2 : j = 1
        · subst h2; simp
        · rw [if_neg h1, if_neg (by omega), if_neg (by omega), if_neg (by omega), if_neg (by omega), if_neg (by omega)]
  | a :: b :: t, k + 2, v, j, h => by
    cases j with
    | zero => simp [st2]
    | succ j =>
      rw [st2, List.getElem?_cons_succ, st2_get (b :: t) (k + 1) v j (by simp at h ⊢; omega), List.getElem?_cons_succ]
      by_cases h1 : j = k + 1
      · subst h1; simp
      · by_cases h2 : j = k + 2
        · subst h2; simp
        · by_cases h3 : j + 1 = k + 1
          · rw [if_neg h1, if_neg (by omega), if_pos h3, if_neg (by omega), if_neg (by omega), if_pos (by omega)]
          · rw [if_neg h1, if_neg (by omega), if_neg h3, if_neg (by omega), if_neg (by omega), if_neg (by omega)]
theorem gb_kil_ok {v w : Value} (h : kil v = w) (ho : gb_ok w = true) (b B : Nat) : v = w ∧ ¬ (gb_cv b B v).category = 2 := by
  cases v <;> simp [kil] at h <;> subst h <;> first | (simp [gb_ok] at ho; done) | exact ⟨rfl, by simp [gb_cv, Value.category]⟩
theorem gb_lv_st1 {b B : Nat} {lsC : Array Slot} {n : Nat} {ls : List Value} {i : Nat} {v : Value} (hlen : ls.length = n) (hi : i < n) (ho : gb_ok v = true) (h : lv_has lsC n ((i, gb_cv b B v) :: (gb_al b B ls).filter (fun q => !(q.1 == i) && !(q.1 + 1 == i && q.2.category == 2)))) : gb_lv b B lsC n (st1 ls i v) := by
  refine ⟨(st1_len _ _ _).trans hlen, gb_has_sub h fun q hq => ?_⟩
  obtain ⟨j, w⟩ := q
  obtain ⟨u, h1, h2, rfl⟩ := gb_al_mem.mp hq
  rw [st1_get] at h1
  by_cases e : j = i
  · subst e
    rw [if_pos rfl] at h1
    obtain ⟨a, -, rfl⟩ := Option.map_eq_some_iff.mp h1
    exact List.mem_cons_self
  · rw [if_neg e] at h1
    refine List.mem_cons_of_mem _ (List.mem_filter.mpr ?_)
    by_cases e2 : j + 1 = i
    · rw [if_pos e2] at h1
      obtain ⟨a, ha, hk⟩ := Option.map_eq_some_iff.mp h1
      obtain ⟨rfl, hc⟩ := gb_kil_ok hk h2 b B
      exact ⟨gb_al_mem.mpr ⟨a, ha, h2, rfl⟩, by simp [e, hc]⟩
    · rw [if_neg e2] at h1
      exact ⟨gb_al_mem.mpr ⟨u, h1, h2, rfl⟩, by simp [e, e2]⟩
theorem gb_lv_st2 {b B : Nat} {lsC : Array Slot} {n : Nat} {ls : List Value} {i : Nat} {v : Value} (hlen : ls.length = n) (hi : i + 1 < n) (ho : gb_ok v = true) (h : lv_has lsC n ((i, gb_cv b B v) :: (gb_al b B ls).filter (fun q => !(q.1 == i) && (!(q.1 == i + 1) && !(q.1 + 1 == i && q.2.category == 2))))) : gb_lv b B lsC n (st2 ls i v) := by
  refine ⟨(st2_len _ _ _ (by omega)).trans hlen, gb_has_sub h fun q hq => ?_⟩
  obtain ⟨j, w⟩ := q
  obtain ⟨u, h1, h2, rfl⟩ := gb_al_mem.mp hq
  rw [st2_get _ _ _ _ (by omega)] at h1
  by_cases e : j = i
  · subst e
    rw [if_pos rfl] at h1
    cases h1
    exact List.mem_cons_self
  · rw [if_neg e] at h1
    refine List.mem_cons_of_mem _ (List.mem_filter.mpr ?_)
    by_cases e1 : j = i + 1
    · rw [if_pos e1] at h1
      cases h1
      simp [gb_ok] at h2
    · rw [if_neg e1] at h1
      by_cases e2 : j + 1 = i
      · rw [if_pos e2] at h1
        obtain ⟨a, ha, hk⟩ := Option.map_eq_some_iff.mp h1
        obtain ⟨rfl, hc⟩ := gb_kil_ok hk h2 b B
        exact ⟨gb_al_mem.mpr ⟨a, ha, h2, rfl⟩, by simp [e, e1, hc]⟩
      · rw [if_neg e2] at h1
        exact ⟨gb_al_mem.mpr ⟨u, h1, h2, rfl⟩, by simp [e, e1, e2]⟩
end
section
def gb_Ctx (p : Program) (R : Room) (s : State) (m : MethodId) (args : Array Value) (meth : Method) (c : Code) (k : Nat) : Prop :=
  p.tables.exec = Jvm.exec ∧ c.code = (gb_met k).2.1 ∧ meth.sig.returnType = (gb_met k).2.2 ∧ c.maxLocals = (gb_inf k).1 ∧ s.vm.findClass (gb_own (gb_mo k)) = some m.cls ∧ (∀ w ∈ lw_tbl, goodWord w = true → w.before args s = true) ∧ ((gb_inf k).2.1 = 2 → meth.name = "<init>") ∧ (gb_inf k).2.2.2.2.1 ≤ R.frames ∧ (gb_inf k).2.2.2.2.2 ≤ R.locals ∧ meth.locks = false
/-- from every heap that holds the machine's state the walk goes on -/
def gb_Go (p : Program) (l : Launch) (e : Env) (R : Room) (s : State) (m : MethodId) (args : Array Value) (below : List Frame) (meth : Method) (c : Code) (D : va_G) (b B k : Nat) (Q : State → Prop) (cells slots : Nat) (ls st : List Value) (pc : Nat) (P : gb_Pi) (g : gb_Sg) : Prop :=
  ∀ (H : Heap) (locs : List Loc) (lsC : Array Slot), gb_lv b B lsC (gb_inf k).1 ls → gb_Rep D b B s H P g → (∀ q ∈ locs, B ≤ q.base) → W p l e R s m args below meth c H locs cells slots Q (F0 m pc lsC (st.map (gb_cv b B)))
theorem gb_chk_spec {k pc nx : Nat} {i : Instr} (h : gb_chk k (i, pc, nx) = true) : ∃ ci len, decode (gb_met k).2.1 pc = .ok (ci, len) ∧ gb_chkI k (gb_pcs k) pc nx i ci len = true := by
  unfold gb_chk at h
  dsimp only at h
  split at h
  · rename_i ci len hd
    exact ⟨ci, len, hd, h⟩
  · cases h
section GBN
variable {p : Program} {l : Launch} {e : Env} {R : Room} {s : State} {m : MethodId} {args : Array Value} {below : List Frame} {meth : Method} {c : Code} {D : va_G} {b B k : Nat} {Q : State → Prop} {cells slots pc nx : Nat} {ls st ls' st' : List Value} {P P' : gb_Pi} {g g' : gb_Sg}
theorem gb_n_iadd (C : gb_Ctx p R s m args meth c k) (h : gb_chk k (.iadd, pc, nx) = true) (hs : gb_stp .iadd ls st P g = gb_nx ls' st' P' g') (kk : gb_Go p l e R s m args below meth c D b B k Q (cells) (slots) (ls') (st') (nx) (P') (g')) : gb_Go p l e R s m args below meth c D b B k Q (cells) (slots) (ls) (st) (pc) (P) (g) := by
  obtain ⟨hx, hb, -⟩ := C
  obtain ⟨ci, len, hd, h⟩ := gb_chk_spec h
  simp only [gb_chkI, decide_eq_true_eq] at h
  obtain ⟨rfl, rfl, rfl⟩ := h
  simp only [gb_stp] at hs
  split at hs
  · cases hs
    exact fun H locs lsC hl hR hL => lv_iadd hx hb hd (kk H locs lsC hl hR hL)
  · cases hs
theorem gb_n_isub (C : gb_Ctx p R s m args meth c k) (h : gb_chk k (.isub, pc, nx) = true) (hs : gb_stp .isub ls st P g = gb_nx ls' st' P' g') (kk : gb_Go p l e R s m args below meth c D b B k Q (cells) (slots) (ls') (st') (nx) (P') (g')) : gb_Go p l e R s m args below meth c D b B k Q (cells) (slots) (ls) (st) (pc) (P) (g) := by
  obtain ⟨hx, hb, -⟩ := C
  obtain ⟨ci, len, hd, h⟩ := gb_chk_spec h
  simp only [gb_chkI, decide_eq_true_eq] at h
  obtain ⟨rfl, rfl, rfl⟩ := h
  simp only [gb_stp] at hs
  split at hs
  · cases hs
    exact fun H locs lsC hl hR hL => lv_isub hx hb hd (kk H locs lsC hl hR hL)
  · cases hs
theorem gb_n_imul (C : gb_Ctx p R s m args meth c k) (h : gb_chk k (.imul, pc, nx) = true) (hs : gb_stp .imul ls st P g = gb_nx ls' st' P' g') (kk : gb_Go p l e R s m args below meth c D b B k Q (cells) (slots) (ls') (st') (nx) (P') (g')) : gb_Go p l e R s m args below meth c D b B k Q (cells) (slots) (ls) (st) (pc) (P) (g) := by
  obtain ⟨hx, hb, -⟩ := C
  obtain ⟨ci, len, hd, h⟩ := gb_chk_spec h
  simp only [gb_chkI, decide_eq_true_eq] at h
  obtain ⟨rfl, rfl, rfl⟩ := h
  simp only [gb_stp] at hs
  split at hs
  · cases hs
    exact fun H locs lsC hl hR hL => lv_imul hx hb hd (kk H locs lsC hl hR hL)
  · cases hs
theorem gb_n_iand (C : gb_Ctx p R s m args meth c k) (h : gb_chk k (.iand, pc, nx) = true) (hs : gb_stp .iand ls st P g = gb_nx ls' st' P' g') (kk : gb_Go p l e R s m args below meth c D b B k Q (cells) (slots) (ls') (st') (nx) (P') (g')) : gb_Go p l e R s m args below meth c D b B k Q (cells) (slots) (ls) (st) (pc) (P) (g) := by
  obtain ⟨hx, hb, -⟩ := C
  obtain ⟨ci, len, hd, h⟩ := gb_chk_spec h
  simp only [gb_chkI, decide_eq_true_eq] at h
  obtain ⟨rfl, rfl, rfl⟩ := h
  simp only [gb_stp] at hs
  split at hs
  · cases hs
    exact fun H locs lsC hl hR hL => lv_iand hx hb hd (kk H locs lsC hl hR hL)
  · cases hs
theorem gb_n_ior (C : gb_Ctx p R s m args meth c k) (h : gb_chk k (.ior, pc, nx) = true) (hs : gb_stp .ior ls st P g = gb_nx ls' st' P' g') (kk : gb_Go p l e R s m args below meth c D b B k Q (cells) (slots) (ls') (st') (nx) (P') (g')) : gb_Go p l e R s m args below meth c D b B k Q (cells) (slots) (ls) (st) (pc) (P) (g) := by
  obtain ⟨hx, hb, -⟩ := C
  obtain ⟨ci, len, hd, h⟩ := gb_chk_spec h
  simp only [gb_chkI, decide_eq_true_eq] at h
  obtain ⟨rfl, rfl, rfl⟩ := h
  simp only [gb_stp] at hs
  split at hs
  · cases hs
    exact fun H locs lsC hl hR hL => lv_ior hx hb hd (kk H locs lsC hl hR hL)
  · cases hs
theorem gb_n_ixor (C : gb_Ctx p R s m args meth c k) (h : gb_chk k (.ixor, pc, nx) = true) (hs : gb_stp .ixor ls st P g = gb_nx ls' st' P' g') (kk : gb_Go p l e R s m args below meth c D b B k Q (cells) (slots) (ls') (st') (nx) (P') (g')) : gb_Go p l e R s m args below meth c D b B k Q (cells) (slots) (ls) (st) (pc) (P) (g) := by
  obtain ⟨hx, hb, -⟩ := C
  obtain ⟨ci, len, hd, h⟩ := gb_chk_spec h
  simp only [gb_chkI, decide_eq_true_eq] at h
  obtain ⟨rfl, rfl, rfl⟩ := h
  simp only [gb_stp] at hs
  split at hs
  · cases hs
    exact fun H locs lsC hl hR hL => lv_ixor hx hb hd (kk H locs lsC hl hR hL)
  · cases hs
theorem gb_n_ishl (C : gb_Ctx p R s m args meth c k) (h : gb_chk k (.ishl, pc, nx) = true) (hs : gb_stp .ishl ls st P g = gb_nx ls' st' P' g') (kk : gb_Go p l e R s m args below meth c D b B k Q (cells) (slots) (ls') (st') (nx) (P') (g')) : gb_Go p l e R s m args below meth c D b B k Q (cells) (slots) (ls) (st) (pc) (P) (g) := by
  obtain ⟨hx, hb, -⟩ := C
  obtain ⟨ci, len, hd, h⟩ := gb_chk_spec h
  simp only [gb_chkI, decide_eq_true_eq] at h
  obtain ⟨rfl, rfl, rfl⟩ := h
  simp only [gb_stp] at hs
  split at hs
  · cases hs
    exact fun H locs lsC hl hR hL => lv_ishl hx hb hd (kk H locs lsC hl hR hL)
  · cases hs
theorem gb_n_ishr (C : gb_Ctx p R s m args meth c k) (h : gb_chk k (.ishr, pc, nx) = true) (hs : gb_stp .ishr ls st P g = gb_nx ls' st' P' g') (kk : gb_Go p l e R s m args below meth c D b B k Q (cells) (slots) (ls') (st') (nx) (P') (g')) : gb_Go p l e R s m args below meth c D b B k Q (cells) (slots) (ls) (st) (pc) (P) (g) := by
  obtain ⟨hx, hb, -⟩ := C
  obtain ⟨ci, len, hd, h⟩ := gb_chk_spec h
  simp only [gb_chkI, decide_eq_true_eq] at h
  obtain ⟨rfl, rfl, rfl⟩ := h
  simp only [gb_stp] at hs
  split at hs
  · cases hs
    exact fun H locs lsC hl hR hL => lv_ishr hx hb hd (kk H locs lsC hl hR hL)
  · cases hs
theorem gb_n_ladd (C : gb_Ctx p R s m args meth c k) (h : gb_chk k (.ladd, pc, nx) = true) (hs : gb_stp .ladd ls st P g = gb_nx ls' st' P' g') (kk : gb_Go p l e R s m args below meth c D b B k Q (cells) (slots) (ls') (st') (nx) (P') (g')) : gb_Go p l e R s m args below meth c D b B k Q (cells) (slots) (ls) (st) (pc) (P) (g) := by
  obtain ⟨hx, hb, -⟩ := C
  obtain ⟨ci, len, hd, h⟩ := gb_chk_spec h
  simp only [gb_chkI, decide_eq_true_eq] at h
  obtain ⟨rfl, rfl, rfl⟩ := h
  simp only [gb_stp] at hs
  split at hs
  · cases hs
    exact fun H locs lsC hl hR hL => lv_ladd hx hb hd (kk H locs lsC hl hR hL)
  · cases hs
theorem gb_n_lsub (C : gb_Ctx p R s m args meth c k) (h : gb_chk k (.lsub, pc, nx) = true) (hs : gb_stp .lsub ls st P g = gb_nx ls' st' P' g') (kk : gb_Go p l e R s m args below meth c D b B k Q (cells) (slots) (ls') (st') (nx) (P') (g')) : gb_Go p l e R s m args below meth c D b B k Q (cells) (slots) (ls) (st) (pc) (P) (g) := by
  obtain ⟨hx, hb, -⟩ := C
  obtain ⟨ci, len, hd, h⟩ := gb_chk_spec h
  simp only [gb_chkI, decide_eq_true_eq] at h
  obtain ⟨rfl, rfl, rfl⟩ := h
  simp only [gb_stp] at hs
  split at hs
  · cases hs
    exact fun H locs lsC hl hR hL => lv_lsub hx hb hd (kk H locs lsC hl hR hL)
  · cases hs
theorem gb_n_lmul (C : gb_Ctx p R s m args meth c k) (h : gb_chk k (.lmul, pc, nx) = true) (hs : gb_stp .lmul ls st P g = gb_nx ls' st' P' g') (kk : gb_Go p l e R s m args below meth c D b B k Q (cells) (slots) (ls') (st') (nx) (P') (g')) : gb_Go p l e R s m args below meth c D b B k Q (cells) (slots) (ls) (st) (pc) (P) (g) := by
  obtain ⟨hx, hb, -⟩ := C
  obtain ⟨ci, len, hd, h⟩ := gb_chk_spec h
  simp only [gb_chkI, decide_eq_true_eq] at h
  obtain ⟨rfl, rfl, rfl⟩ := h
  simp only [gb_stp] at hs
  split at hs
  · cases hs
    exact fun H locs lsC hl hR hL => lv_lmul hx hb hd (kk H locs lsC hl hR hL)
  · cases hs
theorem gb_n_land (C : gb_Ctx p R s m args meth c k) (h : gb_chk k (.land, pc, nx) = true) (hs : gb_stp .land ls st P g = gb_nx ls' st' P' g') (kk : gb_Go p l e R s m args below meth c D b B k Q (cells) (slots) (ls') (st') (nx) (P') (g')) : gb_Go p l e R s m args below meth c D b B k Q (cells) (slots) (ls) (st) (pc) (P) (g) := by
  obtain ⟨hx, hb, -⟩ := C
  obtain ⟨ci, len, hd, h⟩ := gb_chk_spec h
  simp only [gb_chkI, decide_eq_true_eq] at h
  obtain ⟨rfl, rfl, rfl⟩ := h
  simp only [gb_stp] at hs
  split at hs
  · cases hs
    exact fun H locs lsC hl hR hL => lv_land hx hb hd (kk H locs lsC hl hR hL)
  · cases hs
theorem gb_n_lor (C : gb_Ctx p R s m args meth c k) (h : gb_chk k (.lor, pc, nx) = true) (hs : gb_stp .lor ls st P g = gb_nx ls' st' P' g') (kk : gb_Go p l e R s m args below meth c D b B k Q (cells) (slots) (ls') (st') (nx) (P') (g')) : gb_Go p l e R s m args below meth c D b B k Q (cells) (slots) (ls) (st) (pc) (P) (g) := by
  obtain ⟨hx, hb, -⟩ := C
  obtain ⟨ci, len, hd, h⟩ := gb_chk_spec h
  simp only [gb_chkI, decide_eq_true_eq] at h
  obtain ⟨rfl, rfl, rfl⟩ := h
  simp only [gb_stp] at hs
  split at hs
  · cases hs
    exact fun H locs lsC hl hR hL => lv_lor hx hb hd (kk H locs lsC hl hR hL)
  · cases hs
theorem gb_n_ineg (C : gb_Ctx p R s m args meth c k) (h : gb_chk k (.ineg, pc, nx) = true) (hs : gb_stp .ineg ls st P g = gb_nx ls' st' P' g') (kk : gb_Go p l e R s m args below meth c D b B k Q (cells) (slots) (ls') (st') (nx) (P') (g')) : gb_Go p l e R s m args below meth c D b B k Q (cells) (slots) (ls) (st) (pc) (P) (g) := by
  obtain ⟨hx, hb, -⟩ := C
  obtain ⟨ci, len, hd, h⟩ := gb_chk_spec h
  simp only [gb_chkI, decide_eq_true_eq] at h
  obtain ⟨rfl, rfl, rfl⟩ := h
  simp only [gb_stp] at hs
  split at hs
  · cases hs
    exact fun H locs lsC hl hR hL => lv_ineg hx hb hd (kk H locs lsC hl hR hL)
  · cases hs
theorem gb_n_iushr (C : gb_Ctx p R s m args meth c k) (h : gb_chk k (.iushr, pc, nx) = true) (hs : gb_stp .iushr ls st P g = gb_nx ls' st' P' g') (kk : gb_Go p l e R s m args below meth c D b B k Q (cells) (slots) (ls') (st') (nx) (P') (g')) : gb_Go p l e R s m args below meth c D b B k Q (cells) (slots) (ls) (st) (pc) (P) (g) := by
  obtain ⟨hx, hb, -⟩ := C
  obtain ⟨ci, len, hd, h⟩ := gb_chk_spec h
  simp only [gb_chkI, decide_eq_true_eq] at h
  obtain ⟨rfl, rfl, rfl⟩ := h
  simp only [gb_stp] at hs
  split at hs
  · cases hs
    exact fun H locs lsC hl hR hL => lv_iushr hx hb hd rfl (kk H locs lsC hl hR hL)
  · cases hs
theorem gb_n_lushr (C : gb_Ctx p R s m args meth c k) (h : gb_chk k (.lushr, pc, nx) = true) (hs : gb_stp .lushr ls st P g = gb_nx ls' st' P' g') (kk : gb_Go p l e R s m args below meth c D b B k Q (cells) (slots) (ls') (st') (nx) (P') (g')) : gb_Go p l e R s m args below meth c D b B k Q (cells) (slots) (ls) (st) (pc) (P) (g) := by
  obtain ⟨hx, hb, -⟩ := C
  obtain ⟨ci, len, hd, h⟩ := gb_chk_spec h
  simp only [gb_chkI, decide_eq_true_eq] at h
  obtain ⟨rfl, rfl, rfl⟩ := h
  simp only [gb_stp] at hs
  split at hs
  · cases hs
    exact fun H locs lsC hl hR hL => lv_lushr hx hb hd rfl (kk H locs lsC hl hR hL)
  · cases hs
theorem gb_n_lshl (C : gb_Ctx p R s m args meth c k) (h : gb_chk k (.lshl, pc, nx) = true) (hs : gb_stp .lshl ls st P g = gb_nx ls' st' P' g') (kk : gb_Go p l e R s m args below meth c D b B k Q (cells) (slots) (ls') (st') (nx) (P') (g')) : gb_Go p l e R s m args below meth c D b B k Q (cells) (slots) (ls) (st) (pc) (P) (g) := by
  obtain ⟨hx, hb, -⟩ := C
  obtain ⟨ci, len, hd, h⟩ := gb_chk_spec h
  simp only [gb_chkI, decide_eq_true_eq] at h
  obtain ⟨rfl, rfl, rfl⟩ := h
  simp only [gb_stp] at hs
  split at hs
  · cases hs
    exact fun H locs lsC hl hR hL => lv_lshl hx hb hd rfl (kk H locs lsC hl hR hL)
  · cases hs
theorem gb_n_lshr (C : gb_Ctx p R s m args meth c k) (h : gb_chk k (.lshr, pc, nx) = true) (hs : gb_stp .lshr ls st P g = gb_nx ls' st' P' g') (kk : gb_Go p l e R s m args below meth c D b B k Q (cells) (slots) (ls') (st') (nx) (P') (g')) : gb_Go p l e R s m args below meth c D b B k Q (cells) (slots) (ls) (st) (pc) (P) (g) := by
  obtain ⟨hx, hb, -⟩ := C
  obtain ⟨ci, len, hd, h⟩ := gb_chk_spec h
  simp only [gb_chkI, decide_eq_true_eq] at h
  obtain ⟨rfl, rfl, rfl⟩ := h
  simp only [gb_stp] at hs
  split at hs
  · cases hs
    exact fun H locs lsC hl hR hL => lv_lshr hx hb hd rfl (kk H locs lsC hl hR hL)
  · cases hs
theorem gb_n_i2l (C : gb_Ctx p R s m args meth c k) (h : gb_chk k (.i2l, pc, nx) = true) (hs : gb_stp .i2l ls st P g = gb_nx ls' st' P' g') (kk : gb_Go p l e R s m args below meth c D b B k Q (cells) (slots) (ls') (st') (nx) (P') (g')) : gb_Go p l e R s m args below meth c D b B k Q (cells) (slots) (ls) (st) (pc) (P) (g) := by
  obtain ⟨hx, hb, -⟩ := C
  obtain ⟨ci, len, hd, h⟩ := gb_chk_spec h
  simp only [gb_chkI, decide_eq_true_eq] at h
  obtain ⟨rfl, rfl, rfl⟩ := h
  simp only [gb_stp] at hs
  split at hs
  · cases hs
    exact fun H locs lsC hl hR hL => lv_i2l hx hb hd rfl (kk H locs lsC hl hR hL)
  · cases hs
theorem gb_n_l2i (C : gb_Ctx p R s m args meth c k) (h : gb_chk k (.l2i, pc, nx) = true) (hs : gb_stp .l2i ls st P g = gb_nx ls' st' P' g') (kk : gb_Go p l e R s m args below meth c D b B k Q (cells) (slots) (ls') (st') (nx) (P') (g')) : gb_Go p l e R s m args below meth c D b B k Q (cells) (slots) (ls) (st) (pc) (P) (g) := by
  obtain ⟨hx, hb, -⟩ := C
  obtain ⟨ci, len, hd, h⟩ := gb_chk_spec h
  simp only [gb_chkI, decide_eq_true_eq] at h
  obtain ⟨rfl, rfl, rfl⟩ := h
  simp only [gb_stp] at hs
  split at hs
  · cases hs
    exact fun H locs lsC hl hR hL => lv_l2i hx hb hd rfl (kk H locs lsC hl hR hL)
  · cases hs
theorem gb_n_i2b (C : gb_Ctx p R s m args meth c k) (h : gb_chk k (.i2b, pc, nx) = true) (hs : gb_stp .i2b ls st P g = gb_nx ls' st' P' g') (kk : gb_Go p l e R s m args below meth c D b B k Q (cells) (slots) (ls') (st') (nx) (P') (g')) : gb_Go p l e R s m args below meth c D b B k Q (cells) (slots) (ls) (st) (pc) (P) (g) := by
  obtain ⟨hx, hb, -⟩ := C
  obtain ⟨ci, len, hd, h⟩ := gb_chk_spec h
  simp only [gb_chkI, decide_eq_true_eq] at h
  obtain ⟨rfl, rfl, rfl⟩ := h
  simp only [gb_stp] at hs
  split at hs
  · cases hs
    exact fun H locs lsC hl hR hL => lv_i2b hx hb hd rfl (kk H locs lsC hl hR hL)
  · cases hs
theorem gb_n_lcmp (C : gb_Ctx p R s m args meth c k) (h : gb_chk k (.lcmp, pc, nx) = true) (hs : gb_stp .lcmp ls st P g = gb_nx ls' st' P' g') (kk : gb_Go p l e R s m args below meth c D b B k Q (cells) (slots) (ls') (st') (nx) (P') (g')) : gb_Go p l e R s m args below meth c D b B k Q (cells) (slots) (ls) (st) (pc) (P) (g) := by
  obtain ⟨hx, hb, -⟩ := C
  obtain ⟨ci, len, hd, h⟩ := gb_chk_spec h
  simp only [gb_chkI, decide_eq_true_eq] at h
  obtain ⟨rfl, rfl, rfl⟩ := h
  simp only [gb_stp] at hs
  split at hs
  · cases hs
    exact fun H locs lsC hl hR hL => W.lcmp hx hb hd (kk H locs lsC hl hR hL)
  · cases hs
theorem gb_n_idiv (C : gb_Ctx p R s m args meth c k) (h : gb_chk k (.idiv, pc, nx) = true) (hs : gb_stp .idiv ls st P g = gb_nx ls' st' P' g') (kk : gb_Go p l e R s m args below meth c D b B k Q (cells) (slots) (ls') (st') (nx) (P') (g')) : gb_Go p l e R s m args below meth c D b B k Q (cells) (slots) (ls) (st) (pc) (P) (g) := by
  obtain ⟨hx, hb, -⟩ := C
  obtain ⟨ci, len, hd, h⟩ := gb_chk_spec h
  simp only [gb_chkI, decide_eq_true_eq] at h
  obtain ⟨rfl, rfl, rfl⟩ := h
  simp only [gb_stp] at hs
  split at hs
  · split at hs
    · cases hs
    · rename_i hne
      cases hs
      exact fun H locs lsC hl hR hL => lv_idiv hx hb hd hne (kk H locs lsC hl hR hL)
  · cases hs
theorem gb_n_irem (C : gb_Ctx p R s m args meth c k) (h : gb_chk k (.irem, pc, nx) = true) (hs : gb_stp .irem ls st P g = gb_nx ls' st' P' g') (kk : gb_Go p l e R s m args below meth c D b B k Q (cells) (slots) (ls') (st') (nx) (P') (g')) : gb_Go p l e R s m args below meth c D b B k Q (cells) (slots) (ls) (st) (pc) (P) (g) := by
  obtain ⟨hx, hb, -⟩ := C
  obtain ⟨ci, len, hd, h⟩ := gb_chk_spec h
  simp only [gb_chkI, decide_eq_true_eq] at h
  obtain ⟨rfl, rfl, rfl⟩ := h
  simp only [gb_stp] at hs
  split at hs
  · split at hs
    · cases hs
    · rename_i hne
      cases hs
      exact fun H locs lsC hl hR hL => lv_irem hx hb hd hne (kk H locs lsC hl hR hL)
  · cases hs
theorem gb_n_ldiv (C : gb_Ctx p R s m args meth c k) (h : gb_chk k (.ldiv, pc, nx) = true) (hs : gb_stp .ldiv ls st P g = gb_nx ls' st' P' g') (kk : gb_Go p l e R s m args below meth c D b B k Q (cells) (slots) (ls') (st') (nx) (P') (g')) : gb_Go p l e R s m args below meth c D b B k Q (cells) (slots) (ls) (st) (pc) (P) (g) := by
  obtain ⟨hx, hb, -⟩ := C
  obtain ⟨ci, len, hd, h⟩ := gb_chk_spec h
  simp only [gb_chkI, decide_eq_true_eq] at h
  obtain ⟨rfl, rfl, rfl⟩ := h
  simp only [gb_stp] at hs
  split at hs
  · split at hs
    · cases hs
    · rename_i hne
      cases hs
      exact fun H locs lsC hl hR hL => lv_ldiv hx hb hd hne (kk H locs lsC hl hR hL)
  · cases hs
theorem gb_n_lrem (C : gb_Ctx p R s m args meth c k) (h : gb_chk k (.lrem, pc, nx) = true) (hs : gb_stp .lrem ls st P g = gb_nx ls' st' P' g') (kk : gb_Go p l e R s m args below meth c D b B k Q (cells) (slots) (ls') (st') (nx) (P') (g')) : gb_Go p l e R s m args below meth c D b B k Q (cells) (slots) (ls) (st) (pc) (P) (g) := by
  obtain ⟨hx, hb, -⟩ := C
  obtain ⟨ci, len, hd, h⟩ := gb_chk_spec h
  simp only [gb_chkI, decide_eq_true_eq] at h
  obtain ⟨rfl, rfl, rfl⟩ := h
  simp only [gb_stp] at hs
  split at hs
  · split at hs
    · cases hs
    · rename_i hne
      cases hs
      exact fun H locs lsC hl hR hL => lv_lrem hx hb hd hne (kk H locs lsC hl hR hL)
  · cases hs
theorem gb_n_dup (C : gb_Ctx p R s m args meth c k) (h : gb_chk k (.dup, pc, nx) = true) (hs : gb_stp .dup ls st P g = gb_nx ls' st' P' g') (kk : gb_Go p l e R s m args below meth c D b B k Q (cells) (slots) (ls') (st') (nx) (P') (g')) : gb_Go p l e R s m args below meth c D b B k Q (cells) (slots) (ls) (st) (pc) (P) (g) := by
  obtain ⟨hx, hb, -⟩ := C
  obtain ⟨ci, len, hd, h⟩ := gb_chk_spec h
  simp only [gb_chkI, decide_eq_true_eq] at h
  obtain ⟨rfl, rfl, rfl⟩ := h
  simp only [gb_stp] at hs
  split at hs
  · cases hs
    exact fun H locs lsC hl hR hL => lv_dup hx hb hd rfl (kk H locs lsC hl hR hL)
  · cases hs
    exact fun H locs lsC hl hR hL => lv_dup hx hb hd rfl (kk H locs lsC hl hR hL)
  · cases hs
theorem gb_n_dup2 (C : gb_Ctx p R s m args meth c k) (h : gb_chk k (.dup2, pc, nx) = true) (hs : gb_stp .dup2 ls st P g = gb_nx ls' st' P' g') (kk : gb_Go p l e R s m args below meth c D b B k Q (cells) (slots) (ls') (st') (nx) (P') (g')) : gb_Go p l e R s m args below meth c D b B k Q (cells) (slots) (ls) (st) (pc) (P) (g) := by
  obtain ⟨hx, hb, -⟩ := C
  obtain ⟨ci, len, hd, h⟩ := gb_chk_spec h
  simp only [gb_chkI, decide_eq_true_eq] at h
  obtain ⟨rfl, rfl, rfl⟩ := h
  simp only [gb_stp] at hs
  split at hs
  · cases hs
    exact fun H locs lsC hl hR hL => lv_dup2_11 hx hb hd rfl rfl (kk H locs lsC hl hR hL)
  · cases hs
theorem gb_n_iload {i : Nat} (C : gb_Ctx p R s m args meth c k) (h : gb_chk k (.iload i, pc, nx) = true) (hs : gb_stp (.iload i) ls st P g = gb_nx ls' st' P' g') (kk : gb_Go p l e R s m args below meth c D b B k Q (cells) (slots) (ls') (st') (nx) (P') (g')) : gb_Go p l e R s m args below meth c D b B k Q (cells) (slots) (ls) (st) (pc) (P) (g) := by
  obtain ⟨hx, hb, -⟩ := C
  obtain ⟨ci, len, hd, h⟩ := gb_chk_spec h
  simp only [gb_stp] at hs
  split at hs
  · rename_i x hv
    cases hs
    simp only [gb_chkI] at h
    split at h
    · simp only [decide_eq_true_eq] at h
      obtain ⟨rfl, rfl, rfl⟩ := h
      exact fun H locs lsC hl hR hL => lv_iload hx hb hd (gb_lv_at hl hv rfl) (kk H locs lsC hl hR hL)
    · simp only [decide_eq_true_eq] at h
      obtain ⟨rfl, rfl, rfl⟩ := h
      exact fun H locs lsC hl hR hL => lv_iload_n hx hb hd rfl (gb_lv_at hl hv rfl) (kk H locs lsC hl hR hL)
    · cases h
  · cases hs
theorem gb_n_lload {i : Nat} (C : gb_Ctx p R s m args meth c k) (h : gb_chk k (.lload i, pc, nx) = true) (hs : gb_stp (.lload i) ls st P g = gb_nx ls' st' P' g') (kk : gb_Go p l e R s m args below meth c D b B k Q (cells) (slots) (ls') (st') (nx) (P') (g')) : gb_Go p l e R s m args below meth c D b B k Q (cells) (slots) (ls) (st) (pc) (P) (g) := by
  obtain ⟨hx, hb, -⟩ := C
  obtain ⟨ci, len, hd, h⟩ := gb_chk_spec h
  simp only [gb_stp] at hs
  split at hs
  · rename_i x hv
    cases hs
    simp only [gb_chkI] at h
    split at h
    · simp only [decide_eq_true_eq] at h
      obtain ⟨rfl, rfl, rfl⟩ := h
      exact fun H locs lsC hl hR hL => lv_lload hx hb hd (gb_lv_at hl hv rfl) (kk H locs lsC hl hR hL)
    · simp only [decide_eq_true_eq] at h
      obtain ⟨rfl, rfl, rfl⟩ := h
      exact fun H locs lsC hl hR hL => lv_lload_n hx hb hd rfl (gb_lv_at hl hv rfl) (kk H locs lsC hl hR hL)
    · cases h
  · cases hs
theorem gb_n_aload {i : Nat} (C : gb_Ctx p R s m args meth c k) (h : gb_chk k (.aload i, pc, nx) = true) (hs : gb_stp (.aload i) ls st P g = gb_nx ls' st' P' g') (kk : gb_Go p l e R s m args below meth c D b B k Q (cells) (slots) (ls') (st') (nx) (P') (g')) : gb_Go p l e R s m args below meth c D b B k Q (cells) (slots) (ls) (st) (pc) (P) (g) := by
  obtain ⟨hx, hb, -⟩ := C
  obtain ⟨ci, len, hd, h⟩ := gb_chk_spec h
  simp only [gb_stp] at hs
  split at hs
  · rename_i x hv
    cases hs
    simp only [gb_chkI] at h
    split at h
    · simp only [decide_eq_true_eq] at h
      obtain ⟨rfl, rfl, rfl⟩ := h
      exact fun H locs lsC hl hR hL => lv_aload hx hb hd (gb_lv_at hl hv rfl) (kk H locs lsC hl hR hL)
    · simp only [decide_eq_true_eq] at h
      obtain ⟨rfl, rfl, rfl⟩ := h
      exact fun H locs lsC hl hR hL => lv_aload_n hx hb hd rfl (gb_lv_at hl hv rfl) (kk H locs lsC hl hR hL)
    · cases h
  · rename_i x hv
    cases hs
    simp only [gb_chkI] at h
    split at h
    · simp only [decide_eq_true_eq] at h
      obtain ⟨rfl, rfl, rfl⟩ := h
      exact fun H locs lsC hl hR hL => lv_aload hx hb hd (gb_lv_at hl hv rfl) (kk H locs lsC hl hR hL)
    · simp only [decide_eq_true_eq] at h
      obtain ⟨rfl, rfl, rfl⟩ := h
      exact fun H locs lsC hl hR hL => lv_aload_n hx hb hd rfl (gb_lv_at hl hv rfl) (kk H locs lsC hl hR hL)
    · cases h
  · cases hs
theorem gb_n_istore {i : Nat} (C : gb_Ctx p R s m args meth c k) (h : gb_chk k (.istore i, pc, nx) = true) (hs : gb_stp (.istore i) ls st P g = gb_nx ls' st' P' g') (kk : gb_Go p l e R s m args below meth c D b B k Q (cells) (slots) (ls') (st') (nx) (P') (g')) : gb_Go p l e R s m args below meth c D b B k Q (cells) (slots) (ls) (st) (pc) (P) (g) := by
  obtain ⟨hx, hb, -⟩ := C
  obtain ⟨ci, len, hd, h⟩ := gb_chk_spec h
  simp only [gb_stp] at hs
  split at hs
  · split at hs
    · rename_i hlt
      cases hs
      simp only [gb_chkI] at h
      split at h
      · simp only [decide_eq_true_eq] at h
        obtain ⟨rfl, rfl, rfl⟩ := h
        exact fun H locs lsC hl hR hL => lv_istore hx hb hd hl.2 (by rw [← hl.1]; exact hlt) rfl (fun ls2 h2 => kk H locs ls2 (gb_lv_st1 hl.1 (by rw [← hl.1]; exact hlt) rfl h2) hR hL)
      · simp only [decide_eq_true_eq] at h
        obtain ⟨rfl, rfl, rfl⟩ := h
        exact fun H locs lsC hl hR hL => lv_istore_n hx hb hd rfl hl.2 (by rw [← hl.1]; exact hlt) rfl (fun ls2 h2 => kk H locs ls2 (gb_lv_st1 hl.1 (by rw [← hl.1]; exact hlt) rfl h2) hR hL)
      · cases h
    · cases hs
  · cases hs
theorem gb_n_astore {i : Nat} (C : gb_Ctx p R s m args meth c k) (h : gb_chk k (.astore i, pc, nx) = true) (hs : gb_stp (.astore i) ls st P g = gb_nx ls' st' P' g') (kk : gb_Go p l e R s m args below meth c D b B k Q (cells) (slots) (ls') (st') (nx) (P') (g')) : gb_Go p l e R s m args below meth c D b B k Q (cells) (slots) (ls) (st) (pc) (P) (g) := by
  obtain ⟨hx, hb, -⟩ := C
  obtain ⟨ci, len, hd, h⟩ := gb_chk_spec h
  simp only [gb_stp] at hs
  split at hs
  · split at hs
    · rename_i hlt
      cases hs
      simp only [gb_chkI] at h
      split at h
      · simp only [decide_eq_true_eq] at h
        obtain ⟨rfl, rfl, rfl⟩ := h
        exact fun H locs lsC hl hR hL => lv_astore hx hb hd hl.2 (by rw [← hl.1]; exact hlt) rfl (fun ls2 h2 => kk H locs ls2 (gb_lv_st1 hl.1 (by rw [← hl.1]; exact hlt) rfl h2) hR hL)
      · simp only [decide_eq_true_eq] at h
        obtain ⟨rfl, rfl, rfl⟩ := h
        exact fun H locs lsC hl hR hL => lv_astore_n hx hb hd rfl hl.2 (by rw [← hl.1]; exact hlt) rfl (fun ls2 h2 => kk H locs ls2 (gb_lv_st1 hl.1 (by rw [← hl.1]; exact hlt) rfl h2) hR hL)
      · cases h
    · cases hs
  · cases hs
theorem gb_n_lstore {i : Nat} (C : gb_Ctx p R s m args meth c k) (h : gb_chk k (.lstore i, pc, nx) = true) (hs : gb_stp (.lstore i) ls st P g = gb_nx ls' st' P' g') (kk : gb_Go p l e R s m args below meth c D b B k Q (cells) (slots) (ls') (st') (nx) (P') (g')) : gb_Go p l e R s m args below meth c D b B k Q (cells) (slots) (ls) (st) (pc) (P) (g) := by
  obtain ⟨hx, hb, -⟩ := C
  obtain ⟨ci, len, hd, h⟩ := gb_chk_spec h
  simp only [gb_stp] at hs
  split at hs
  · split at hs
    · rename_i hlt
      cases hs
      simp only [gb_chkI] at h
      split at h
      · simp only [decide_eq_true_eq] at h
        obtain ⟨rfl, rfl, rfl⟩ := h
        exact fun H locs lsC hl hR hL => lv_lstore hx hb hd hl.2 (by rw [← hl.1]; exact hlt) rfl (fun ls2 h2 => kk H locs ls2 (gb_lv_st2 hl.1 (by rw [← hl.1]; exact hlt) rfl h2) hR hL)
      · simp only [decide_eq_true_eq] at h
        obtain ⟨rfl, rfl, rfl⟩ := h
        exact fun H locs lsC hl hR hL => lv_lstore_n hx hb hd rfl hl.2 (by rw [← hl.1]; exact hlt) rfl (fun ls2 h2 => kk H locs ls2 (gb_lv_st2 hl.1 (by rw [← hl.1]; exact hlt) rfl h2) hR hL)
      · cases h
    · cases hs
  · cases hs
theorem gb_n_iinc {i : Nat} {d : Int} (C : gb_Ctx p R s m args meth c k) (h : gb_chk k (.iinc i d, pc, nx) = true) (hs : gb_stp (.iinc i d) ls st P g = gb_nx ls' st' P' g') (kk : gb_Go p l e R s m args below meth c D b B k Q (cells) (slots) (ls') (st') (nx) (P') (g')) : gb_Go p l e R s m args below meth c D b B k Q (cells) (slots) (ls) (st) (pc) (P) (g) := by
  obtain ⟨hx, hb, -⟩ := C
  obtain ⟨ci, len, hd, h⟩ := gb_chk_spec h
  simp only [gb_stp] at hs
  split at hs
  · rename_i x hv
    cases hs
    have hi := (List.getElem?_eq_some_iff.mp hv).1
    simp only [gb_chkI] at h
    split at h
    · simp only [decide_eq_true_eq] at h
      obtain ⟨rfl, rfl, rfl, rfl⟩ := h
      intro H locs lsC hl hR hL
      obtain ⟨q, hq⟩ := List.getElem?_of_mem ((gb_al_mem (b := b) (B := B)).mpr ⟨_, hv, rfl, rfl⟩)
      exact lv_iinc hx hb hd hl.2 hq rfl (by rw [← hl.1]; exact hi) rfl (fun ls2 h2 => kk H locs ls2 (gb_lv_st1 hl.1 (by rw [← hl.1]; exact hi) rfl h2) hR hL)
    · cases h
  · cases hs
theorem gb_n_sipush {d : Int} (C : gb_Ctx p R s m args meth c k) (h : gb_chk k (.sipush d, pc, nx) = true) (hs : gb_stp (.sipush d) ls st P g = gb_nx ls' st' P' g') (kk : gb_Go p l e R s m args below meth c D b B k Q (cells) (slots) (ls') (st') (nx) (P') (g')) : gb_Go p l e R s m args below meth c D b B k Q (cells) (slots) (ls) (st) (pc) (P) (g) := by
  obtain ⟨hx, hb, -, -, hown, hts, -⟩ := C
  obtain ⟨ci, len, hd, h⟩ := gb_chk_spec h
  simp only [gb_stp] at hs
  cases hs
  simp only [gb_chkI] at h
  split at h
  · simp only [decide_eq_true_eq] at h
    obtain ⟨rfl, rfl, rfl⟩ := h
    exact fun H locs lsC hl hR hL => lv_iconst hx hb hd rfl (kk H locs lsC hl hR hL)
  · simp only [decide_eq_true_eq] at h
    obtain ⟨h1, rfl, rfl⟩ := h
    exact fun H locs lsC hl hR hL => lv_bipush hx hb hd h1 (kk H locs lsC hl hR hL)
  · simp only [decide_eq_true_eq] at h
    obtain ⟨h1, rfl, rfl⟩ := h
    exact fun H locs lsC hl hR hL => lv_sipush hx hb hd h1 (kk H locs lsC hl hR hL)
  · simp only [decide_eq_true_eq] at h
    obtain ⟨h1, rfl, rfl⟩ := h
    exact fun H locs lsC hl hR hL => lv_ldc hx hb hown (hts _ (gb_ctab_ok _ (gb_lk h1)) rfl) hd (kk H locs lsC hl hR hL)
  · simp only [decide_eq_true_eq] at h
    obtain ⟨h1, rfl, rfl⟩ := h
    exact fun H locs lsC hl hR hL => lv_ldcw hx hb hown (hts _ (gb_ctab_ok _ (gb_lk h1)) rfl) hd (kk H locs lsC hl hR hL)
  · cases h
theorem gb_n_bipush {d : Int} (C : gb_Ctx p R s m args meth c k) (h : gb_chk k (.bipush d, pc, nx) = true) (hs : gb_stp (.bipush d) ls st P g = gb_nx ls' st' P' g') (kk : gb_Go p l e R s m args below meth c D b B k Q (cells) (slots) (ls') (st') (nx) (P') (g')) : gb_Go p l e R s m args below meth c D b B k Q (cells) (slots) (ls) (st) (pc) (P) (g) := by
  obtain ⟨hx, hb, -, -, hown, hts, -⟩ := C
  obtain ⟨ci, len, hd, h⟩ := gb_chk_spec h
  simp only [gb_stp] at hs
  cases hs
  simp only [gb_chkI] at h
  split at h
  · simp only [decide_eq_true_eq] at h
    obtain ⟨h1, rfl, rfl⟩ := h
    exact fun H locs lsC hl hR hL => lv_lconst hx hb hd h1 (kk H locs lsC hl hR hL)
  · simp only [decide_eq_true_eq] at h
    obtain ⟨h1, rfl, rfl⟩ := h
    exact fun H locs lsC hl hR hL => lv_ldc2 hx hb hown (hts _ (gb_ltab_ok _ (gb_lk h1)) rfl) hd (kk H locs lsC hl hR hL)
  · cases h
end GBN
end
section
theorem gb_clsOK : ∀ (n : Nat) (q : vw_C), gb_cls[n]? = some q → q.1 = gb_own n ∧ q.2.1 = gb_T n ∧ q.2.2 = (gb_kds.getD n []).length ∧ (∀ w ∈ u_ws q.1 q.2.1 q.2.2, w ∈ lw_tbl) ∧ (∀ f, f < q.2.2 → parseFieldDescriptor (q.2.1 f).2.2.1 = some (gb_ty n f)) ∧ (∀ a, a < q.2.2 → ∀ b, b < q.2.2 → a ≠ b → (q.2.1 a).2.1 ≠ (q.2.1 b).2.1) ∧ ∀ f, f < q.2.2 → gb_kd n f = gb_kt (gb_ty n f) := by
  intro n q hq
  match n, hq with
  | 0, hq => cases hq; exact ⟨rfl, rfl, rfl, inX0, tyX0_ok, nmX0, by decide +kernel⟩
  | 1, hq => cases hq; exact ⟨rfl, rfl, rfl, inX1, tyX1_ok, nmX1, by decide +kernel⟩
  | 2, hq => cases hq; exact ⟨rfl, rfl, rfl, inX2, tyX2_ok, nmX2, by decide +kernel⟩
  | 3, hq => cases hq; exact ⟨rfl, rfl, rfl, inX3, tyX3_ok, nmX3, by decide +kernel⟩
  | 4, hq => cases hq; exact ⟨rfl, rfl, rfl, inX4, tyX4_ok, nmX4, by decide +kernel⟩
  | 5, hq => cases hq; exact ⟨rfl, rfl, rfl, inX5, tyX5_ok, nmX5, by decide +kernel⟩
  | 6, hq => cases hq; exact ⟨rfl, rfl, rfl, inX6, tyX6_ok, nmX6, by decide +kernel⟩
  | 7, hq => cases hq; exact ⟨rfl, rfl, rfl, inX7, tyX7_ok, nmX7, by decide +kernel⟩
  | 8, hq => cases hq; exact ⟨rfl, rfl, rfl, inX8, tyX8_ok, nmX8, by decide +kernel⟩
  | 9, hq => cases hq; exact ⟨rfl, rfl, rfl, inX9, tyX9_ok, nmX9, by decide +kernel⟩
  | 10, hq => cases hq; exact ⟨rfl, rfl, rfl, inX10, tyX10_ok, nmX10, by decide +kernel⟩
  | n + 11, hq => simp [gb_cls] at hq
theorem gb_math_ini : Cond.initialized "java/lang/Math" ∈ lw_tbl := List.mem_of_getElem? (i := 67) (by decide +kernel)
/-! the instructions that read and write cells -/
theorem gb_atag {P : gb_Pi} {a t : Nat} (h : atag P a = t) (ht : t ≠ 99) : P[a]? = some (t, alen P a) := by
  unfold atag at h
  unfold alen
  cases hq : P[a]? with
  | none => rw [hq] at h; exact absurd h.symm ht
  | some q =>
    rw [hq] at h
    obtain ⟨q1, q2⟩ := q
    dsimp only at h ⊢
    rw [h]
theorem gb_oob {i : Int32} {n : Nat} (h : ¬ oob i n = true) : ¬ (i < 0 ∨ n ≤ i.toNatClampNeg) := by
  unfold oob at h
  simpa using h
def gb_same (g g' : gb_Sg) (i : Nat) : Prop := (∀ j, gI g' i j = gI g i j) ∧ (∀ j, gL g' i j = gL g i j) ∧ ∀ j, gR g' i j = gR g i j
theorem gb_same.av {g g' : gb_Sg} {i : Nat} (h : gb_same g g' i) (B t : Nat) : gb_av B g' i t = gb_av B g i t := by
  funext j
  unfold gb_av
  split
  · rw [h.1]
  · rw [h.1]
  · rw [h.1]
  · rw [h.2.1]
  · rw [h.2.2]
theorem gb_same.fv {g g' : gb_Sg} {i : Nat} (h : gb_same g g' i) (B n : Nat) : gb_fv B g' i n = gb_fv B g i n := by
  funext j
  unfold gb_fv
  split
  · rw [h.1]
  · rw [h.1]
  · rw [h.2.1]
  · rw [h.2.2]
theorem gb_cell.kept {D : va_G} {B : Nat} {U : State} {H H1 : Heap} {g g' : gb_Sg} {i : Nat} {q : Nat × Nat} (h : gb_cell D B U H g i q) (hq : H1[B + i]? = H[B + i]?) (hg : gb_same g g' i) : gb_cell D B U H1 g' i q := by
  rcases h with ⟨h1, cA, h2, h3⟩ | ⟨n, r, h1, h2, h3, h4⟩
  · exact Or.inl ⟨h1, cA, by rw [hq, hg.av]; exact h2, h3⟩
  · exact Or.inr ⟨n, r, h1, h2, h3, by rw [hg.fv]; exact h4.kept hq⟩
theorem gb_Rep.set {D : va_G} {b B : Nat} {U : State} {H H1 : Heap} {P : gb_Pi} {g g' : gb_Sg} {a : Nat} {q : Nat × Nat} (hR : gb_Rep D b B U H P g) (hP : P[a]? = some q) (hsz : H1.size = H.size) (ho : ∀ x, x ≠ B + a → H1[x]? = H[x]?) (hg : ∀ i, i ≠ a → gb_same g g' i) (hX : g'.2.2.2 = g.2.2.2) (hc : gb_cell D B U H1 g' a q) : gb_Rep D b B U H1 P g' := by
  obtain ⟨h1, h2, h3, h4⟩ := hR
  refine ⟨hsz.trans h1, h2, ?_, fun i q' hq' => ?_⟩
  · unfold gN gX at h3 ⊢
    rw [hX]
    exact h3.kept (ho b (by omega))
  · by_cases e : i = a
    · subst e
      cases hP.symm.trans hq'
      exact hc
    · exact (h4 i q' hq').kept (ho _ (by omega)) (hg i e)
theorem gI_sI (g : gb_Sg) (a k : Nat) (v : Int32) (x y : Nat) : gI (sI g a k v) x y = if x = a ∧ y = k then v else gI g x y := rfl
theorem gL_sL (g : gb_Sg) (a k : Nat) (v : Int64) (x y : Nat) : gL (sL g a k v) x y = if x = a ∧ y = k then v else gL g x y := rfl
theorem gR_sR (g : gb_Sg) (a k : Nat) (v : Option Nat) (x y : Nat) : gR (sR g a k v) x y = if x = a ∧ y = k then v else gR g x y := rfl
theorem gL_sI (g : gb_Sg) (a k : Nat) (v : Int32) (x y : Nat) : gL (sI g a k v) x y = gL g x y := rfl
theorem gR_sI (g : gb_Sg) (a k : Nat) (v : Int32) (x y : Nat) : gR (sI g a k v) x y = gR g x y := rfl
theorem gI_sL (g : gb_Sg) (a k : Nat) (v : Int64) (x y : Nat) : gI (sL g a k v) x y = gI g x y := rfl
theorem gR_sL (g : gb_Sg) (a k : Nat) (v : Int64) (x y : Nat) : gR (sL g a k v) x y = gR g x y := rfl
theorem gI_sR (g : gb_Sg) (a k : Nat) (v : Option Nat) (x y : Nat) : gI (sR g a k v) x y = gI g x y := rfl
theorem gL_sR (g : gb_Sg) (a k : Nat) (v : Option Nat) (x y : Nat) : gL (sR g a k v) x y = gL g x y := rfl
theorem gN_sI (g : gb_Sg) (a k : Nat) (v : Int32) : gN (sI g a k v) = gN g := rfl
theorem gX_sI (g : gb_Sg) (a k : Nat) (v : Int32) : gX (sI g a k v) = gX g := rfl
theorem gN_sL (g : gb_Sg) (a k : Nat) (v : Int64) : gN (sL g a k v) = gN g := rfl
theorem gX_sL (g : gb_Sg) (a k : Nat) (v : Int64) : gX (sL g a k v) = gX g := rfl
theorem gN_sR (g : gb_Sg) (a k : Nat) (v : Option Nat) : gN (sR g a k v) = gN g := rfl
theorem gX_sR (g : gb_Sg) (a k : Nat) (v : Option Nat) : gX (sR g a k v) = gX g := rfl
theorem gb_same_sI {g : gb_Sg} {a k : Nat} {v : Int32} {i : Nat} (h : i ≠ a) : gb_same g (sI g a k v) i := ⟨fun j => by rw [gI_sI, if_neg (fun q => h q.1)], fun _ => rfl, fun _ => rfl⟩
theorem gb_same_sL {g : gb_Sg} {a k : Nat} {v : Int64} {i : Nat} (h : i ≠ a) : gb_same g (sL g a k v) i := ⟨fun _ => rfl, fun j => by rw [gL_sL, if_neg (fun q => h q.1)], fun _ => rfl⟩
theorem gb_same_sR {g : gb_Sg} {a k : Nat} {v : Option Nat} {i : Nat} (h : i ≠ a) : gb_same g (sR g a k v) i := ⟨fun _ => rfl, fun _ => rfl, fun j => by rw [gR_sR, if_neg (fun q => h q.1)]⟩
theorem gb_lay_good {C : String} {T : u_T} {N : Nat} {w : Cond} (h : w ∈ u_ws C T N) : goodWord w = true := by
  unfold u_ws at h
  obtain ⟨k, -, rfl⟩ := List.mem_map.mp h
  unfold u_lay
  split <;> rfl
section GBH
variable {p : Program} {l : Launch} {e : Env} {R : Room} {s : State} {m : MethodId} {args : Array Value} {below : List Frame} {meth : Method} {c : Code} {D : va_G} {b B k : Nat} {Q : State → Prop} {cells slots pc nx : Nat} {ls st ls' st' : List Value} {P P' : gb_Pi} {g g' : gb_Sg}
theorem gb_lays (C : gb_Ctx p R s m args meth c k) {n : Nat} {q : vw_C} (hq : gb_cls[n]? = some q) : ∀ w ∈ u_ws q.1 q.2.1 q.2.2, w.before args s = true :=
  fun w hw => C.2.2.2.2.2.1 w ((gb_clsOK n q hq).2.2.2.1 w hw) (gb_lay_good hw)
/-- an object of the class n at a -/
theorem gb_obj {H : Heap} {a n : Nat} {U : State} (hR : gb_Rep D b B U H P g) (hP : atag P a = 10 + n) (hn : n < gb_cls.length) : ∃ r : vw_C, gb_cls[n]? = some r ∧ P[a]? = some (10 + n, r.2.2) ∧ t_OB (B + a) (D.1 n) r.2.2 (D.2 n) H (gb_fv B g a n) := by
  have h99 : 10 + n ≠ 99 := by
    have : gb_cls.length = 11 := rfl
    omega
  have hp := gb_atag hP h99
  rcases hR.2.2.2 a _ hp with ⟨h1, -⟩ | ⟨n', r, h1, h2, h3, h4⟩
  · dsimp only at h1; omega
  · dsimp only at h1 h3
    have e : n' = n := by omega
    subst e
    exact ⟨r, h2, by rw [← h3]; exact hp, h4⟩
theorem gb_getf {H : Heap} {locs : List Loc} {lsC : Array Slot} {rest : List Value} {a n f idx : Nat} (C : gb_Ctx p R s m args meth c k) (hK : gb_K D s) (hR : gb_Rep D b B s H P g) (hP : atag P a = 10 + n) (hn : n < gb_cls.length) (hf : f < (gb_kds.getD n []).length) (hlk : gb_ftab.lookup (gb_mo k, idx) = some (n, f)) (hd : decode (gb_met k).2.1 pc = .ok (.getfield idx, 3))
    (kk : W p l e R s m args below meth c H locs cells slots Q (F0 m (pc + 3) lsC (gb_fv B g a n f :: rest))) : W p l e R s m args below meth c H locs cells slots Q (F0 m pc lsC (.ref (B + a) :: rest)) := by
  obtain ⟨r, hr, -, cell, q1, q2, q3, q4⟩ := gb_obj hR hP hn
  obtain ⟨e1, e2, e3, hin, hty, hnm, hkd⟩ := gb_clsOK n r hr
  obtain ⟨hS, hfc, kC, hkC, hkind⟩ := hK.1 n r hr
  rw [← e3] at hf
  obtain ⟨cf, kf, fi, fd, hi, hsl⟩ := hS f hf
  have hts := gb_lays C hr
  have hlink := C.2.2.2.2.2.1 _ (gb_ftab_ok _ (gb_lk hlk)) rfl
  unfold gb_wF at hlink
  dsimp only at hlink
  rw [← e2] at hlink
  refine W.getf C.1 C.2.1 C.2.2.2.2.1 hlink hi (u_facts hfc hkC (u_lays hts (fun w h => h) hf) hi).1 q1 (by rw [q3]; exact fun h => by cases h) (v := gb_fv B g a n f) ?_ rfl rfl hd kk
  rw [hsl, q4 f hf]
theorem gb_putf {H : Heap} {locs : List Loc} {lsC : Array Slot} {rest : List Value} {a n f idx : Nat} {v : Value} (C : gb_Ctx p R s m args meth c k) (hK : gb_K D s) (hR : gb_Rep D b B s H P g) (hP : atag P a = 10 + n) (hn : n < gb_cls.length) (hf : f < (gb_kds.getD n []).length) (hlk : gb_ftab.lookup (gb_mo k, idx) = some (n, f))
    (hfin : (gb_T n f).2.2.2 = false ∨ (gb_own (gb_mo k) = (gb_T n f).1 ∧ (gb_inf k).2.1 = 2)) (hnv : narrow (gb_ty n f) v = v) (hfv : fits (gb_ty n f) v = true) (hv : gb_fv B g' a n f = v) (hoth : ∀ j, j ≠ f → gb_fv B g' a n j = gb_fv B g a n j) (hg : ∀ i, i ≠ a → gb_same g g' i) (hX : g'.2.2.2 = g.2.2.2) (hL : ∀ q ∈ locs, B ≤ q.base) (hd : decode (gb_met k).2.1 pc = .ok (.putfield idx, 3))
    (kk : ∀ (H1 : Heap) (locs1 : List Loc), gb_Rep D b B s H1 P g' → (∀ q ∈ locs1, B ≤ q.base) → W p l e R s m args below meth c H1 locs1 cells slots Q (F0 m (pc + 3) lsC rest)) : W p l e R s m args below meth c H locs cells slots Q (F0 m pc lsC (v :: .ref (B + a) :: rest)) := by
  obtain ⟨r, hr, hp, cell, q1, q2, q3, q4⟩ := gb_obj hR hP hn
  obtain ⟨e1, e2, e3, hin, hty, hnm, hkd⟩ := gb_clsOK n r hr
  have hKn := hK.1 n r hr
  obtain ⟨hS, hfc, kC, hkC, hkind⟩ := hKn
  rw [← e3] at hf
  obtain ⟨cf, kf, fi, fd, hi, hsl⟩ := hS f hf
  have hts := gb_lays C hr
  have hap : ∀ x y, x < r.2.2 → y < r.2.2 → x ≠ y → (D.2 n) x ≠ (D.2 n) y := va_apart (own := "") hts (fun w h => h) (gb_ty n) hty hnm (cl := gb_cls) (tys := []) ⟨hK.1, fun k q h => by simp at h⟩ hr
  have hlink := C.2.2.2.2.2.1 _ (gb_ftab_ok _ (gb_lk hlk)) rfl
  unfold gb_wF at hlink
  dsimp only at hlink
  rw [← e2] at hlink hfin
  have hst := (u_facts hfc hkC (u_lays hts (fun w h => h) hf) hi).1
  have hlay := hts _ (u_in_lay hf)
  have fin : ∀ H' : Heap, H'[B + a]? = some (cell.setSlot (D.2 n f) v) → H'.size = H.size → (∀ q, q ≠ B + a → H'[q]? = H[q]?) → W p l e R s m args below meth c H' (locs ++ [⟨B + a, D.2 n f⟩]) cells slots Q (F0 m (pc + 3) lsC rest) := by
    intro H' f1 f2 f3
    refine kk H' _ (hR.set hp f2 f3 hg hX (Or.inr ⟨n, r, rfl, hr, rfl, ?_⟩)) (fun q hq => ?_)
    · refine t_OB.to (V := updV (gb_fv B g a n) f v) ⟨_, f1, q2, q3, t_set q4 hap hf v⟩ (fun j _ => ?_)
      by_cases ej : j = f
      · subst ej
        simp only [updV, if_true]
        exact hv.symm
      · simp only [updV, if_neg ej]
        exact (hoth j ej).symm
    · rcases List.mem_append.mp hq with h | h
      · exact hL q h
      · rw [List.mem_singleton.mp h]
        exact Nat.le_add_right _ _
  by_cases hfb : (r.2.1 f).2.2.2 = false
  · unfold u_lay at hlay
    rw [if_neg (by rw [hfb]; decide)] at hlay
    have h6 := u_store hfc hkC hkind hlay hi (hty f hf) hnv hfv
    refine W.putK C.1 C.2.1 (f := fd) ⟨C.2.2.2.2.1, hlink, ⟨_, _, _, hi⟩, hst⟩ (by rw [q2]; exact h6) q1 q3 (by rw [hsl]; exact k2_hasslot (q4 f hf)) rfl rfl hd fun H' f1 f2 f3 => ?_
    rw [hsl] at f1 ⊢
    exact fin H' f1 f2 f3
  · obtain ⟨hdecl, hinit⟩ := hfin.resolve_left hfb
    have hfb : (r.2.1 f).2.2.2 = true := by simpa using hfb
    unfold u_lay at hlay
    rw [if_pos hfb] at hlay
    have hcf : m.cls = cf := by
      obtain ⟨_, _, c', _, _, _, -, -, hf', -, -, -, hown2, -⟩ := Cond.laysFinal_spec hlay
      have z1 : c' = cf := by have := hi.symm.trans hf'; simp at this; exact this.1.symm
      rw [← hdecl] at hown2
      rw [← z1]; exact Option.some.inj (C.2.2.2.2.1.symm.trans hown2)
    have h6 := u_fits hfc hkC hkind (Or.inr hlay) hi (hty f hf) hnv hfv
    refine W.putFinK C.1 C.2.1 C.2.2.2.2.1 hlink hi hst hcf (C.2.2.2.2.2.2.1 hinit) (by rw [q2]; exact h6) q1 q3 (by rw [hsl]; exact k2_hasslot (q4 f hf)) rfl rfl hd fun H' f1 f2 f3 => ?_
    rw [hsl] at f1 ⊢
    exact fin H' f1 f2 f3
theorem gb_kt_ty {n f : Nat} (hn : n < gb_cls.length) (hf : f < (gb_kds.getD n []).length) : gb_kd n f = gb_kt (gb_ty n f) := by
  obtain ⟨r, hr⟩ : ∃ r, gb_cls[n]? = some r := ⟨_, List.getElem?_eq_getElem hn⟩
  obtain ⟨e1, e2, e3, hin, hty, hnm, hkd⟩ := gb_clsOK n r hr
  exact hkd f (by rw [e3]; exact hf)
theorem gb_n_getfield {n : Nat} (C : gb_Ctx p R s m args meth c k) (hK : gb_K D s) (h : gb_chk k (.getfield n, pc, nx) = true) (hs : gb_stp (.getfield n) ls st P g = gb_nx ls' st' P' g') (kk : gb_Go p l e R s m args below meth c D b B k Q (cells) (slots) (ls') (st') (nx) (P') (g')) : gb_Go p l e R s m args below meth c D b B k Q (cells) (slots) (ls) (st) (pc) (P) (g) := by
  obtain ⟨ci, len, hd, h⟩ := gb_chk_spec h
  simp only [gb_chkI] at h
  split at h
  · simp only [Bool.and_eq_true, decide_eq_true_eq] at h
    obtain ⟨⟨⟨hlk, rfl, rfl⟩, hn⟩, hf⟩ := h
    simp only [gb_stp] at hs
    split at hs
    · split at hs
      · rename_i htag
        intro H locs lsC hl hR hL
        refine gb_getf C hK hR htag hn hf hlk hd ?_
        unfold gb_fv
        split at hs
        · rename_i hkd
          cases hs
          rw [hkd]
          exact kk H locs lsC hl hR hL
        · rename_i hkd
          cases hs
          rw [hkd]
          exact kk H locs lsC hl hR hL
        · rename_i hkd
          split at hs
          · rename_i z hz
            cases hs
            rw [hkd]
            (try dsimp only)
            rw [hz]
            exact kk H locs lsC hl hR hL
          · cases hs
        · rename_i hkd
          cases hs
          rw [hkd]
          exact kk H locs lsC hl hR hL
        · cases hs
      · cases hs
    · cases hs
  · cases h
theorem gb_n_putfield {n : Nat} (C : gb_Ctx p R s m args meth c k) (hK : gb_K D s) (h : gb_chk k (.putfield n, pc, nx) = true) (hs : gb_stp (.putfield n) ls st P g = gb_nx ls' st' P' g') (kk : gb_Go p l e R s m args below meth c D b B k Q (cells) (slots) (ls') (st') (nx) (P') (g')) : gb_Go p l e R s m args below meth c D b B k Q (cells) (slots) (ls) (st) (pc) (P) (g) := by
  obtain ⟨ci, len, hd, h⟩ := gb_chk_spec h
  simp only [gb_chkI] at h
  split at h
  · simp only [Bool.and_eq_true, Bool.or_eq_true, decide_eq_true_eq] at h
    obtain ⟨⟨⟨⟨hlk, rfl, rfl⟩, hn⟩, hf⟩, hfin⟩ := h
    have hkt := gb_kt_ty hn hf
    simp only [gb_stp] at hs
    split at hs
    · split at hs
      · rename_i htag
        intro H locs lsC hl hR hL
        split at hs
        · rename_i hkd
          cases hs
          refine gb_putf (v := .int _) C hK hR htag hn hf hlk hfin ?_ ?_ ?_ (fun j hj => ?_) (fun i hi => gb_same_sI hi) rfl hL hd (fun H1 locs1 hR1 hL1 => kk H1 locs1 lsC hl hR1 hL1)
          · rw [hkd] at hkt; revert hkt; cases gb_ty (n / 64) (n % 64) <;> intro hkt <;> first | rfl | cases hkt
          · rw [hkd] at hkt; revert hkt; cases gb_ty (n / 64) (n % 64) <;> intro hkt <;> first | rfl | cases hkt
          · unfold gb_fv; rw [hkd, gI_sI, if_pos ⟨rfl, rfl⟩] <;> rfl
          · unfold gb_fv; simp only [gI_sI, gL_sI, gR_sI, if_neg (fun q : _ ∧ j = _ => hj q.2)]
        · rename_i hkd
          split at hs
          · rename_i hx01
            cases hs
            refine gb_putf (v := .int _) C hK hR htag hn hf hlk hfin ?_ ?_ ?_ (fun j hj => ?_) (fun i hi => gb_same_sI hi) rfl hL hd (fun H1 locs1 hR1 hL1 => kk H1 locs1 lsC hl hR1 hL1)
            · rw [hkd] at hkt; revert hkt; cases gb_ty (n / 64) (n % 64) <;> intro hkt <;> first | (rcases hx01 with rfl | rfl <;> rfl) | cases hkt
            · rw [hkd] at hkt; revert hkt; cases gb_ty (n / 64) (n % 64) <;> intro hkt <;> first | (rcases hx01 with rfl | rfl <;> rfl) | cases hkt
            · unfold gb_fv; rw [hkd, gI_sI, if_pos ⟨rfl, rfl⟩] <;> rfl
            · unfold gb_fv; simp only [gI_sI, gL_sI, gR_sI, if_neg (fun q : _ ∧ j = _ => hj q.2)]
          · cases hs
        · cases hs
      · cases hs
    · split at hs
      · rename_i htag
        intro H locs lsC hl hR hL
        split at hs
        · rename_i hkd
          cases hs
          refine gb_putf (v := .long _) C hK hR htag hn hf hlk hfin ?_ ?_ ?_ (fun j hj => ?_) (fun i hi => gb_same_sL hi) rfl hL hd (fun H1 locs1 hR1 hL1 => kk H1 locs1 lsC hl hR1 hL1)
          · rw [hkd] at hkt; revert hkt; cases gb_ty (n / 64) (n % 64) <;> intro hkt <;> first | rfl | cases hkt
          · rw [hkd] at hkt; revert hkt; cases gb_ty (n / 64) (n % 64) <;> intro hkt <;> first | rfl | cases hkt
          · unfold gb_fv; rw [hkd, gL_sL, if_pos ⟨rfl, rfl⟩] <;> rfl
          · unfold gb_fv; simp only [gI_sL, gL_sL, gR_sL, if_neg (fun q : _ ∧ j = _ => hj q.2)]
        · cases hs
      · cases hs
    · split at hs
      · rename_i htag
        intro H locs lsC hl hR hL
        split at hs
        · rename_i hkd
          cases hs
          refine gb_putf (v := .ref _) C hK hR htag hn hf hlk hfin ?_ ?_ ?_ (fun j hj => ?_) (fun i hi => gb_same_sR hi) rfl hL hd (fun H1 locs1 hR1 hL1 => kk H1 locs1 lsC hl hR1 hL1)
          · rw [hkd] at hkt; revert hkt; cases gb_ty (n / 64) (n % 64) <;> intro hkt <;> first | rfl | cases hkt
          · rw [hkd] at hkt; revert hkt; cases gb_ty (n / 64) (n % 64) <;> intro hkt <;> first | rfl | cases hkt
          · unfold gb_fv; rw [hkd, gR_sR, if_pos ⟨rfl, rfl⟩] <;> rfl
          · unfold gb_fv; simp only [gI_sR, gL_sR, gR_sR, if_neg (fun q : _ ∧ j = _ => hj q.2)]
        · cases hs
      · cases hs
    · cases hs
  · cases h
/-- an array of tag t at a -/
theorem gb_arr {H : Heap} {a t : Nat} {U : State} (hR : gb_Rep D b B U H P g) (hP : atag P a = t) (ht : t ≤ 5) : P[a]? = some (t, alen P a) ∧ ∃ cA : ClassId, H[B + a]? = some (arrV cA (alen P a) (gb_av B g a t)) ∧ ArrOfT U cA (gb_aty t) := by
  have hp := gb_atag hP (by omega)
  rcases hR.2.2.2 a _ hp with ⟨h1, cA, h2, h3⟩ | ⟨n', r, h1, -⟩
  · exact ⟨hp, cA, h2, h3⟩
  · dsimp only at h1; omega
theorem gb_n_iaload (C : gb_Ctx p R s m args meth c k) (h : gb_chk k (.iaload, pc, nx) = true) (hs : gb_stp .iaload ls st P g = gb_nx ls' st' P' g') (kk : gb_Go p l e R s m args below meth c D b B k Q (cells) (slots) (ls') (st') (nx) (P') (g')) : gb_Go p l e R s m args below meth c D b B k Q (cells) (slots) (ls) (st) (pc) (P) (g) := by
  obtain ⟨hx, hb, -⟩ := C
  obtain ⟨ci, len, hd, h⟩ := gb_chk_spec h
  simp only [gb_chkI, decide_eq_true_eq] at h
  obtain ⟨rfl, rfl, rfl⟩ := h
  simp only [gb_stp] at hs
  split at hs
  · split at hs
    · rename_i htag
      split at hs
      · cases hs
      · rename_i ho
        cases hs
        intro H locs lsC hl hR hL
        obtain ⟨hp, cA, h1, h2⟩ := gb_arr hR htag (by omega)
        have hin := gb_oob ho
        exact W.iald hx hb h1 (h2 _ _) (fun q => by cases q) (by rw [arrV_size]; exact hin) (by rw [arrV_read _ _ (by omega)]; rfl) rfl rfl hd (kk H locs lsC hl hR hL)
    · cases hs
  · split at hs
    · cases hs
    · rename_i ho
      cases hs
      intro H locs lsC hl hR hL
      obtain ⟨scr, h1, h2, h3, h4, h5⟩ := hR.2.2.1
      have hin := gb_oob ho
      exact W.iald hx hb h1 h2 h3 (by rw [h4]; exact hin) (h5 _ (by omega)) rfl rfl hd (kk H locs lsC hl hR hL)
  · cases hs
theorem gb_n_laload (C : gb_Ctx p R s m args meth c k) (h : gb_chk k (.laload, pc, nx) = true) (hs : gb_stp .laload ls st P g = gb_nx ls' st' P' g') (kk : gb_Go p l e R s m args below meth c D b B k Q (cells) (slots) (ls') (st') (nx) (P') (g')) : gb_Go p l e R s m args below meth c D b B k Q (cells) (slots) (ls) (st) (pc) (P) (g) := by
  obtain ⟨hx, hb, -⟩ := C
  obtain ⟨ci, len, hd, h⟩ := gb_chk_spec h
  simp only [gb_chkI, decide_eq_true_eq] at h
  obtain ⟨rfl, rfl, rfl⟩ := h
  simp only [gb_stp] at hs
  split at hs
  · split at hs
    · rename_i htag
      split at hs
      · cases hs
      · rename_i ho
        cases hs
        intro H locs lsC hl hR hL
        obtain ⟨hp, cA, h1, h2⟩ := gb_arr hR htag (by omega)
        have hin := gb_oob ho
        exact W.lald hx hb h1 (h2 _ _) (fun q => by cases q) (by rw [arrV_size]; exact hin) (by rw [arrV_read _ _ (by omega)]; rfl) rfl rfl hd (kk H locs lsC hl hR hL)
    · cases hs
  · cases hs
theorem gb_n_baload (C : gb_Ctx p R s m args meth c k) (h : gb_chk k (.baload, pc, nx) = true) (hs : gb_stp .baload ls st P g = gb_nx ls' st' P' g') (kk : gb_Go p l e R s m args below meth c D b B k Q (cells) (slots) (ls') (st') (nx) (P') (g')) : gb_Go p l e R s m args below meth c D b B k Q (cells) (slots) (ls) (st) (pc) (P) (g) := by
  obtain ⟨hx, hb, -⟩ := C
  obtain ⟨ci, len, hd, h⟩ := gb_chk_spec h
  simp only [gb_chkI, decide_eq_true_eq] at h
  obtain ⟨rfl, rfl, rfl⟩ := h
  simp only [gb_stp] at hs
  split at hs
  · split at hs
    · rename_i htag
      split at hs
      · cases hs
      · rename_i ho
        cases hs
        intro H locs lsC hl hR hL
        have hin := gb_oob ho
        rcases htag with htag | htag
        · obtain ⟨hp, cA, h1, h2⟩ := gb_arr hR htag (by omega)
          exact W.bald hx hb h1 (h2 _ _) (fun q => by cases q) (by rw [arrV_size]; exact hin) (by rw [arrV_read _ _ (by omega)]; rfl) rfl rfl hd (kk H locs lsC hl hR hL)
        · obtain ⟨hp, cA, h1, h2⟩ := gb_arr hR htag (by omega)
          exact W.zald hx hb h1 (h2 _ _) (fun q => by cases q) (by rw [arrV_size]; exact hin) (by rw [arrV_read _ _ (by omega)]; rfl) rfl rfl hd (kk H locs lsC hl hR hL)
    · cases hs
  · cases hs
theorem gb_n_aaload (C : gb_Ctx p R s m args meth c k) (h : gb_chk k (.aaload, pc, nx) = true) (hs : gb_stp .aaload ls st P g = gb_nx ls' st' P' g') (kk : gb_Go p l e R s m args below meth c D b B k Q (cells) (slots) (ls') (st') (nx) (P') (g')) : gb_Go p l e R s m args below meth c D b B k Q (cells) (slots) (ls) (st) (pc) (P) (g) := by
  obtain ⟨hx, hb, -⟩ := C
  obtain ⟨ci, len, hd, h⟩ := gb_chk_spec h
  simp only [gb_chkI, decide_eq_true_eq] at h
  obtain ⟨rfl, rfl, rfl⟩ := h
  simp only [gb_stp] at hs
  split at hs
  · split at hs
    · rename_i htag
      split at hs
      · cases hs
      · rename_i ho
        split at hs
        · rename_i z hz
          cases hs
          intro H locs lsC hl hR hL
          have hin := gb_oob ho
          rcases htag with htag | htag
          · obtain ⟨hp, cA, h1, h2⟩ := gb_arr hR htag (by omega)
            exact W.aald (v := .ref (B + z)) hx hb h1 (h2 _ _) rfl (fun q => by cases q) (by rw [arrV_size]; exact hin) (by rw [arrV_read _ _ (by omega)]; unfold ix at hz; simp only [gb_av, gb_rf, hz]) rfl rfl hd (kk H locs lsC hl hR hL)
          · obtain ⟨hp, cA, h1, h2⟩ := gb_arr hR htag (by omega)
            exact W.aald (v := .ref (B + z)) hx hb h1 (h2 _ _) rfl (fun q => by cases q) (by rw [arrV_size]; exact hin) (by rw [arrV_read _ _ (by omega)]; unfold ix at hz; simp only [gb_av, gb_rf, hz]) rfl rfl hd (kk H locs lsC hl hR hL)
        · cases hs
    · cases hs
  · cases hs
theorem gb_n_arraylength (C : gb_Ctx p R s m args meth c k) (h : gb_chk k (.arraylength, pc, nx) = true) (hs : gb_stp .arraylength ls st P g = gb_nx ls' st' P' g') (kk : gb_Go p l e R s m args below meth c D b B k Q (cells) (slots) (ls') (st') (nx) (P') (g')) : gb_Go p l e R s m args below meth c D b B k Q (cells) (slots) (ls) (st) (pc) (P) (g) := by
  obtain ⟨hx, hb, -⟩ := C
  obtain ⟨ci, len, hd, h⟩ := gb_chk_spec h
  simp only [gb_chkI, decide_eq_true_eq] at h
  obtain ⟨rfl, rfl, rfl⟩ := h
  simp only [gb_stp] at hs
  split at hs
  · split at hs
    · rename_i htag
      cases hs
      intro H locs lsC hl hR hL
      obtain ⟨hp, cA, h1, h2⟩ := gb_arr hR rfl htag
      exact W.alen (n := Int32.ofNat _) hx hb h1 (h2 _ _) (by rw [arrV_size] <;> rfl) rfl rfl hd (kk H locs lsC hl hR hL)
    · cases hs
  · cases hs
    intro H locs lsC hl hR hL
    obtain ⟨scr, h1, h2, h3, h4, h5⟩ := hR.2.2.1
    exact W.alen (n := Int32.ofNat _) hx hb h1 h2 (by rw [h4] <;> rfl) rfl rfl hd (kk H locs lsC hl hR hL)
  · cases hs
/-- an array of tag t at a, one element written -/
theorem gb_arr_set {H H1 : Heap} {a t j : Nat} {cA : ClassId} {v : Value} (hR : gb_Rep D b B s H P g) (hp : P[a]? = some (t, alen P a)) (ht : t ≤ 5) (h2 : ArrOfT s cA (gb_aty t)) (e : H1[B + a]? = some ((arrV cA (alen P a) (gb_av B g a t)).setSlot j v)) (z : H1.size = H.size) (o : ∀ q, q ≠ B + a → H1[q]? = H[q]?)
    (hg : ∀ i, i ≠ a → gb_same g g' i) (hX : g'.2.2.2 = g.2.2.2) (hv : gb_av B g' a t j = v) (hoth : ∀ i, i ≠ j → gb_av B g' a t i = gb_av B g a t i) : gb_Rep D b B s H1 P g' := by
  refine hR.set hp z o hg hX (Or.inl ⟨ht, cA, ?_, h2⟩)
  rw [e, arrV_store]
  congr 2
  funext i
  by_cases hi : i = j
  · subst hi
    simp only [updV, if_true]
    exact hv.symm
  · simp only [updV, if_neg hi]
    exact (hoth i hi).symm
theorem gb_loc {locs : List Loc} {a j : Nat} (hL : ∀ q ∈ locs, B ≤ q.base) : ∀ q ∈ locs ++ [(⟨B + a, j⟩ : Loc)], B ≤ q.base := by
  intro q hq
  rcases List.mem_append.mp hq with h | h
  · exact hL q h
  · rw [List.mem_singleton.mp h]
    exact Nat.le_add_right _ _
theorem gb_n_iastore (C : gb_Ctx p R s m args meth c k) (h : gb_chk k (.iastore, pc, nx) = true) (hs : gb_stp .iastore ls st P g = gb_nx ls' st' P' g') (kk : gb_Go p l e R s m args below meth c D b B k Q (cells) (slots) (ls') (st') (nx) (P') (g')) : gb_Go p l e R s m args below meth c D b B k Q (cells) (slots) (ls) (st) (pc) (P) (g) := by
  obtain ⟨hx, hb, -⟩ := C
  obtain ⟨ci, len, hd, h⟩ := gb_chk_spec h
  simp only [gb_chkI, decide_eq_true_eq] at h
  obtain ⟨rfl, rfl, rfl⟩ := h
  simp only [gb_stp] at hs
  split at hs
  · split at hs
    · rename_i htag
      split at hs
      · cases hs
      · rename_i ho
        cases hs
        intro H locs lsC hl hR hL
        obtain ⟨hp, cA, h1, h2⟩ := gb_arr hR htag (by omega)
        have hin := gb_oob ho
        refine W.iast hx hb h1 (h2 _ _) (fun q => by cases q) (by rw [arrV_size]; exact hin) rfl rfl hd (fun H1 f1 f2 f3 => kk H1 _ lsC hl (gb_arr_set hR hp (by omega) h2 f1 f2 f3 (fun i hi => gb_same_sI hi) rfl ?_ (fun i hi => ?_)) (gb_loc hL))
        · simp only [gb_av, gI_sI, ix, and_self, if_true]
        · simp only [gb_av, gI_sI, ix, if_neg (fun q : _ ∧ i = _ => hi q.2)]
    · cases hs
  · cases hs
theorem gb_n_lastore (C : gb_Ctx p R s m args meth c k) (h : gb_chk k (.lastore, pc, nx) = true) (hs : gb_stp .lastore ls st P g = gb_nx ls' st' P' g') (kk : gb_Go p l e R s m args below meth c D b B k Q (cells) (slots) (ls') (st') (nx) (P') (g')) : gb_Go p l e R s m args below meth c D b B k Q (cells) (slots) (ls) (st) (pc) (P) (g) := by
  obtain ⟨hx, hb, -⟩ := C
  obtain ⟨ci, len, hd, h⟩ := gb_chk_spec h
  simp only [gb_chkI, decide_eq_true_eq] at h
  obtain ⟨rfl, rfl, rfl⟩ := h
  simp only [gb_stp] at hs
  split at hs
  · split at hs
    · rename_i htag
      split at hs
      · cases hs
      · rename_i ho
        cases hs
        intro H locs lsC hl hR hL
        obtain ⟨hp, cA, h1, h2⟩ := gb_arr hR htag (by omega)
        have hin := gb_oob ho
        refine W.last hx hb h1 (h2 _ _) (fun q => by cases q) (by rw [arrV_size]; exact hin) rfl rfl hd (fun H1 f1 f2 f3 => kk H1 _ lsC hl (gb_arr_set hR hp (by omega) h2 f1 f2 f3 (fun i hi => gb_same_sL hi) rfl ?_ (fun i hi => ?_)) (gb_loc hL))
        · simp only [gb_av, gL_sL, ix, and_self, if_true]
        · simp only [gb_av, gL_sL, ix, if_neg (fun q : _ ∧ i = _ => hi q.2)]
    · cases hs
  · cases hs
theorem gb_n_bastore (C : gb_Ctx p R s m args meth c k) (h : gb_chk k (.bastore, pc, nx) = true) (hs : gb_stp .bastore ls st P g = gb_nx ls' st' P' g') (kk : gb_Go p l e R s m args below meth c D b B k Q (cells) (slots) (ls') (st') (nx) (P') (g')) : gb_Go p l e R s m args below meth c D b B k Q (cells) (slots) (ls) (st) (pc) (P) (g) := by
  obtain ⟨hx, hb, -⟩ := C
  obtain ⟨ci, len, hd, h⟩ := gb_chk_spec h
  simp only [gb_chkI, decide_eq_true_eq] at h
  obtain ⟨rfl, rfl, rfl⟩ := h
  simp only [gb_stp] at hs
  split at hs
  · split at hs
    · rename_i htag
      split at hs
      · cases hs
      · rename_i ho
        cases hs
        intro H locs lsC hl hR hL
        obtain ⟨hp, cA, h1, h2⟩ := gb_arr hR htag (by omega)
        have hin := gb_oob ho
        refine W.bast hx hb h1 (h2 _ _) (fun q => by cases q) (by rw [arrV_size]; exact hin) rfl rfl hd (fun H1 f1 f2 f3 => kk H1 _ lsC hl (gb_arr_set hR hp (by omega) h2 f1 f2 f3 (fun i hi => gb_same_sI hi) rfl ?_ (fun i hi => ?_)) (gb_loc hL))
        · simp only [gb_av, gI_sI, ix, and_self, if_true, narrow]
        · simp only [gb_av, gI_sI, ix, if_neg (fun q : _ ∧ i = _ => hi q.2)]
    · split at hs
      · rename_i htag
        split at hs
        · cases hs
        · rename_i ho
          cases hs
          intro H locs lsC hl hR hL
          obtain ⟨hp, cA, h1, h2⟩ := gb_arr hR htag (by omega)
          have hin := gb_oob ho
          refine W.zast hx hb h1 (h2 _ _) (fun q => by cases q) (by rw [arrV_size]; exact hin) rfl rfl hd (fun H1 f1 f2 f3 => kk H1 _ lsC hl (gb_arr_set hR hp (by omega) h2 f1 f2 f3 (fun i hi => gb_same_sI hi) rfl ?_ (fun i hi => ?_)) (gb_loc hL))
          · simp only [gb_av, gI_sI, ix, and_self, if_true, narrow]
          · simp only [gb_av, gI_sI, ix, if_neg (fun q : _ ∧ i = _ => hi q.2)]
      · cases hs
  · cases hs
end GBH
end
section
/-! new cells, jumps, the library's own -/
theorem gI_s0 (g : gb_Sg) (a x y : Nat) : gI (s0 g a) x y = if x = a then 0 else gI g x y := rfl
theorem gL_s0 (g : gb_Sg) (a x y : Nat) : gL (s0 g a) x y = if x = a then 0 else gL g x y := rfl
theorem gR_s0 (g : gb_Sg) (a x y : Nat) : gR (s0 g a) x y = if x = a then none else gR g x y := rfl
theorem gI_s2 (g : gb_Sg) (a n x y : Nat) : gI (s2 g a n) x y = if a ≤ x ∧ x ≤ a + n then 0 else gI g x y := rfl
theorem gL_s2 (g : gb_Sg) (a n x y : Nat) : gL (s2 g a n) x y = if a ≤ x ∧ x ≤ a + n then 0 else gL g x y := rfl
theorem gR_s2 (g : gb_Sg) (a n x y : Nat) : gR (s2 g a n) x y = if x = a then (if y < n then some (a + 1 + y) else none) else if a ≤ x ∧ x ≤ a + n then none else gR g x y := rfl
theorem gb_msl_app (p q : gb_Pi) : gb_msl (p ++ q) = gb_msl p + gb_msl q := by simp [gb_msl]
theorem gb_lt_of_get {P : gb_Pi} {i : Nat} {q : Nat × Nat} (h : P[i]? = some q) : i < P.length := (List.getElem?_eq_some_iff.mp h).1
/-- cells more at the heap's end -/
theorem gb_Rep.grow {D : va_G} {b B : Nat} {U : State} {H H1 : Heap} {P Pn : gb_Pi} {g g' : gb_Sg} (hR : gb_Rep D b B U H P g) (hsz : H1.size = H.size + Pn.length) (ho : ∀ x, x < H.size → H1[x]? = H[x]?) (hg : ∀ i, i < P.length → gb_same g g' i) (hX : g'.2.2.2 = g.2.2.2)
    (hn : ∀ i q, Pn[i]? = some q → gb_cell D B U H1 g' (P.length + i) q) : gb_Rep D b B U H1 (P ++ Pn) g' := by
  obtain ⟨h1, h2, h3, h4⟩ := hR
  refine ⟨by rw [hsz, h1, List.length_append]; omega, h2, ?_, fun i q hq => ?_⟩
  · unfold gN gX at h3 ⊢
    rw [hX]
    exact h3.kept (ho b (by omega))
  · by_cases hl : i < P.length
    · rw [List.getElem?_append_left hl] at hq
      exact (h4 i q hq).kept (ho _ (by omega)) (hg i hl)
    · rw [List.getElem?_append_right (by omega)] at hq
      have := hn (i - P.length) q hq
      rw [show P.length + (i - P.length) = i by omega] at this
      exact this
theorem gb_same_s0 {g : gb_Sg} {a i : Nat} (h : i ≠ a) : gb_same g (s0 g a) i := ⟨fun j => by rw [gI_s0, if_neg h], fun j => by rw [gL_s0, if_neg h], fun j => by rw [gR_s0, if_neg h]⟩
theorem gb_same_s2 {g : gb_Sg} {a n i : Nat} (h : i < a) : gb_same g (s2 g a n) i := ⟨fun j => by rw [gI_s2, if_neg (by omega)], fun j => by rw [gL_s2, if_neg (by omega)], fun j => by rw [gR_s2, if_neg (by omega), if_neg (by omega)]⟩
theorem gb_fv_new {n f : Nat} (B : Nat) (g : gb_Sg) (a : Nat) (hk : gb_kd n f = gb_kt (gb_ty n f)) (h4 : gb_kd n f ≤ 3) : defaultValue (gb_ty n f) = gb_fv B (s0 g a) a n f := by
  unfold gb_fv
  simp only [gI_s0, gL_s0, gR_s0, if_true]
  rw [hk] at h4 ⊢
  revert h4
  cases gb_ty n f <;> intro h4 <;> first | rfl | (exact absurd h4 (by decide))
theorem gb_av_new (B : Nat) (g : gb_Sg) (a t : Nat) (ht : t ≤ 3) : gb_av B (s0 g a) a t = fun _ => defaultValue (gb_aty t) := by
  funext j
  unfold gb_av
  simp only [gI_s0, gL_s0, gR_s0, if_true]
  match t, ht with
  | 0, _ => rfl
  | 1, _ => rfl
  | 2, _ => rfl
  | 3, _ => rfl
  | t + 4, h => omega
theorem gb_atg_ty {t : ArrayType} (h : ¬ 3 < gb_atg t) : newarray.typeOf t = gb_aty (gb_atg t) := by
  cases t <;> first | rfl | (exact absurd (by decide) h)
theorem gb_arrw {t : ArrayType} (h : ¬ 3 < gb_atg t) : Cond.arrayClass (newarray.typeOf t) ∈ lw_tbl := by
  cases t <;> first | exact gb_arr_int | exact gb_arr_byte | exact gb_arr_boolean | exact gb_arr_long | (exact absurd (by decide) h)
theorem gb_cat_le {v : Value} : v.category ≤ 2 := by cases v <;> simp [Value.category]
theorem gb_sum_cat : ∀ (r : List Value) (n : Nat), r.length ≤ n → (r.map fun v => v.category).sum ≤ 2 * n
  | [], n, _ => by simp
  | v :: r, 0, h => by simp at h
  | v :: r, n + 1, h => by
    have h1 := gb_sum_cat r n (by simpa using h)
    have h2 := gb_cat_le (v := v)
    simp only [List.map_cons, List.sum_cons]
    omega
theorem gb_rest {b B : Nat} {r : List Value} (h : r.length ≤ 4) : ((r.map (gb_cv b B)).map fun v => v.category).sum ≤ 8 := gb_sum_cat _ 4 (by simpa using h)
theorem gb_kd_le : ∀ n, n < gb_cls.length → ∀ f, f < (gb_kds.getD n []).length → gb_kd n f ≤ 3 := by decide +kernel
section GBF
variable {p : Program} {l : Launch} {e : Env} {R : Room} {s : State} {m : MethodId} {args : Array Value} {below : List Frame} {meth : Method} {c : Code} {D : va_G} {b B k : Nat} {Q : State → Prop} {cells slots pc nx : Nat} {ls st ls' st' : List Value} {P P' : gb_Pi} {g g' : gb_Sg}
theorem gb_n_new {n : Nat} (C : gb_Ctx p R s m args meth c k) (hK : gb_K D s) (h : gb_chk k (.new n, pc, nx) = true) (hs : gb_stp (.new n) ls st P g = gb_nx ls' st' P' g') (hc : cells + (P'.length - P.length) ≤ R.cells) (hsl : slots + (gb_msl P' - gb_msl P) ≤ R.slots) (kk : gb_Go p l e R s m args below meth c D b B k Q (cells + (P'.length - P.length)) (slots + (gb_msl P' - gb_msl P)) (ls') (st') (nx) (P') (g')) : gb_Go p l e R s m args below meth c D b B k Q (cells) (slots) (ls) (st) (pc) (P) (g) := by
  obtain ⟨ci, len, hd, h⟩ := gb_chk_spec h
  simp only [gb_chkI] at h
  split at h
  · simp only [Bool.and_eq_true, decide_eq_true_eq] at h
    obtain ⟨⟨hlk, rfl, rfl⟩, hn⟩ := h
    simp only [gb_stp] at hs
    cases hs
    have e1 : (P ++ [(10 + n, (gb_kds.getD n []).length)]).length - P.length = 1 := by simp
    have e2 : gb_msl (P ++ [(10 + n, (gb_kds.getD n []).length)]) - gb_msl P = (gb_kds.getD n []).length := by rw [gb_msl_app]; simp [gb_msl]
    rw [e1] at hc kk
    rw [e2] at hsl kk
    intro H locs lsC hl hR hL
    obtain ⟨r, hr⟩ : ∃ r, gb_cls[n]? = some r := ⟨_, List.getElem?_eq_getElem hn⟩
    obtain ⟨z1, z2, z3, hin, hty, hnm, hkd⟩ := gb_clsOK n r hr
    have hKn := hK.1 n r hr
    have hts := gb_lays C hr
    have hlink := C.2.2.2.2.2.1 _ (gb_ktab_ok _ (gb_lk hlk)) rfl
    unfold gb_wK at hlink
    dsimp only at hlink
    have hnr : n ∈ List.range 11 := List.mem_range.mpr hn
    have hins := C.2.2.2.2.2.1 _ (gb_ins_ok n hnr) rfl
    have hini := C.2.2.2.2.2.1 _ (gb_ini_ok n (List.mem_range.mpr (Nat.lt_of_lt_of_le hn (by decide)))) rfl
    refine W.newcK C.1 C.2.1 C.2.2.2.2.1 hlink hins hini rfl hd hc hsl (by rw [← z1]; exact hKn.2.1) hR.1 fun H1 kC hkC f1 f2 f3 => ?_
    refine kk H1 locs lsC hl (hR.grow (by rw [f2, hR.1]; rfl) (fun x hx => f3 x (by rw [← hR.1]; exact hx)) (fun i hi => gb_same_s0 (by omega)) rfl (fun i q hq => ?_)) hL
    match i, hq with
    | 0, hq =>
      cases hq
      refine Or.inr ⟨n, r, rfl, hr, z3.symm, ?_⟩
      rw [Nat.add_zero]
      exact (u_born (gb_ty n) hts (fun w h => h) hKn hkC f1 hty).to (fun f hf => gb_fv_new B g P.length (hkd f hf) (gb_kd_le n hn f (by rw [← z3]; exact hf)))
    | i + 1, hq => simp at hq
  · cases h
theorem gb_n_newarray {t : ArrayType} (C : gb_Ctx p R s m args meth c k) (h : gb_chk k (.newarray t, pc, nx) = true) (hs : gb_stp (.newarray t) ls st P g = gb_nx ls' st' P' g') (hc : cells + (P'.length - P.length) ≤ R.cells) (hsl : slots + (gb_msl P' - gb_msl P) ≤ R.slots) (kk : gb_Go p l e R s m args below meth c D b B k Q (cells + (P'.length - P.length)) (slots + (gb_msl P' - gb_msl P)) (ls') (st') (nx) (P') (g')) : gb_Go p l e R s m args below meth c D b B k Q (cells) (slots) (ls) (st) (pc) (P) (g) := by
  obtain ⟨ci, len, hd, h⟩ := gb_chk_spec h
  simp only [gb_chkI] at h
  split at h
  · rename_i t'
    simp only [decide_eq_true_eq] at h
    obtain ⟨et, rfl, rfl⟩ := h
    subst et
    generalize t' = t at *
    simp only [gb_stp] at hs
    split at hs
    · rename_i n r
      split at hs
      · cases hs
      · rename_i hno
        cases hs
        have e1 : (P ++ [(gb_atg t, n.toNatClampNeg)]).length - P.length = 1 := by simp
        have e2 : gb_msl (P ++ [(gb_atg t, n.toNatClampNeg)]) - gb_msl P = n.toNatClampNeg := by rw [gb_msl_app]; simp [gb_msl]
        rw [e1] at hc kk
        rw [e2] at hsl kk
        have h1 : ¬ n < 0 := fun q => hno (Or.inl q)
        have h2 : n.toNatClampNeg ≤ 100000 := Nat.not_lt.mp fun q => hno (Or.inr (Or.inl q))
        have h3 : ¬ 3 < gb_atg t := fun q => hno (Or.inr (Or.inr q))
        intro H locs lsC hl hR hL
        have hbt : componentBytes (newarray.typeOf t) ≤ 8 := by cases t <;> decide
        have hby : n.toNatClampNeg * componentBytes (newarray.typeOf t) ≤ 536870912 := Nat.le_trans (Nat.mul_le_mul h2 hbt) (by decide)
        refine W.newaK C.1 C.2.1 (C.2.2.2.2.2.1 _ (gb_arrw h3) rfl) rfl hd rfl h1 rfl hby hc hsl hR.1 fun H1 cA f1 f2 f3 f4 => ?_
        refine kk H1 locs lsC hl (hR.grow (by rw [f2, hR.1]; rfl) (fun x hx => f3 x (by rw [← hR.1]; exact hx)) (fun i hi => gb_same_s0 (by omega)) rfl (fun i q hq => ?_)) hL
        match i, hq with
        | 0, hq =>
          cases hq
          rw [gb_atg_ty h3] at f1 f4
          refine Or.inl ⟨by dsimp only; omega, cA, ?_, f4⟩
          dsimp only
          rw [Nat.add_zero, gb_av_new B g P.length _ (by omega)]
          exact f1
        | i + 1, hq => simp at hq
    · cases hs
  · cases h
theorem gb_n_pop (C : gb_Ctx p R s m args meth c k) (h : gb_chk k (.pop, pc, nx) = true) (hs : gb_stp .pop ls st P g = gb_nx ls' st' P' g') (kk : gb_Go p l e R s m args below meth c D b B k Q (cells) (slots) (ls') (st') (nx) (P') (g')) : gb_Go p l e R s m args below meth c D b B k Q (cells) (slots) (ls) (st) (pc) (P) (g) := by
  obtain ⟨ci, len, hd, h⟩ := gb_chk_spec h
  simp only [gb_chkI] at h
  split at h
  · simp only [Bool.and_eq_true, decide_eq_true_eq] at h
    obtain ⟨⟨hlk, rfl, rfl⟩, hf, hlo⟩ := h
    simp only [gb_stp] at hs
    split at hs
    · split at hs
      · rename_i hr4
        cases hs
        intro H locs lsC hl hR hL
        have hlink := C.2.2.2.2.2.1 _ (gb_otab_ok _ hlk) rfl
        have hcat := gb_rest (b := b) (B := B) hr4
        exact W.objInit C.1 C.2.1 C.2.2.2.2.1 hlink (C.2.2.2.2.2.1 _ gb_obj_ok.1 rfl) (C.2.2.2.2.2.1 _ gb_obj_ok.2 rfl) rfl (hl.2.1.trans C.2.2.2.1.symm) rfl hd (Nat.le_trans hf C.2.2.2.2.2.2.2.1) (Nat.le_trans (show 2 * 0 + _ + 12 ≤ 23 by omega) (Nat.le_trans hlo C.2.2.2.2.2.2.2.2.1)) (kk H locs lsC hl hR hL)
      · cases hs
    · cases hs
  · cases h
theorem gb_n_fadd (C : gb_Ctx p R s m args meth c k) (h : gb_chk k (.fadd, pc, nx) = true) (hs : gb_stp .fadd ls st P g = gb_nx ls' st' P' g') (hc : cells ≤ R.cells) (hsl : slots ≤ R.slots) (kk : gb_Go p l e R s m args below meth c D b B k Q (cells) (slots) (ls') (st') (nx) (P') (g')) : gb_Go p l e R s m args below meth c D b B k Q (cells) (slots) (ls) (st) (pc) (P) (g) := by
  obtain ⟨ci, len, hd, h⟩ := gb_chk_spec h
  simp only [gb_chkI] at h
  split at h
  · simp only [Bool.and_eq_true, decide_eq_true_eq] at h
    obtain ⟨⟨hlk, rfl, rfl⟩, hf, hlo⟩ := h
    simp only [gb_stp] at hs
    split at hs
    · split at hs
      · rename_i hr4
        cases hs
        intro H locs lsC hl hR hL
        have hlink := C.2.2.2.2.2.1 _ (gb_jtab_ok _ (gb_lk hlk)) rfl
        have hcat := gb_rest (b := b) (B := B) hr4
        exact va_mmax C.1 C.2.1 (C.2.2.2.1.trans hl.2.1.symm) C.2.2.2.2.1 hlink (C.2.2.2.2.2.1 _ gb_math_max.1 rfl) (C.2.2.2.2.2.1 _ gb_math_ini rfl) (C.2.2.2.2.2.1 _ gb_math_max.2 rfl) (Nat.le_trans hf C.2.2.2.2.2.2.2.1) (Nat.le_trans (show _ + 13 ≤ 23 by omega) (Nat.le_trans hlo C.2.2.2.2.2.2.2.2.1)) hc hsl hd (kk H locs lsC hl hR hL)
      · cases hs
    · cases hs
  · cases h
theorem gb_n_fsub (C : gb_Ctx p R s m args meth c k) (h : gb_chk k (.fsub, pc, nx) = true) (hs : gb_stp .fsub ls st P g = gb_nx ls' st' P' g') (hc : cells ≤ R.cells) (hsl : slots ≤ R.slots) (kk : gb_Go p l e R s m args below meth c D b B k Q (cells) (slots) (ls') (st') (nx) (P') (g')) : gb_Go p l e R s m args below meth c D b B k Q (cells) (slots) (ls) (st) (pc) (P) (g) := by
  obtain ⟨ci, len, hd, h⟩ := gb_chk_spec h
  simp only [gb_chkI] at h
  split at h
  · simp only [Bool.and_eq_true, decide_eq_true_eq] at h
    obtain ⟨⟨hlk, rfl, rfl⟩, hf, hlo⟩ := h
    simp only [gb_stp] at hs
    split at hs
    · split at hs
      · rename_i hr4
        cases hs
        intro H locs lsC hl hR hL
        have hlink := C.2.2.2.2.2.1 _ (gb_jtab_ok _ (gb_lk hlk)) rfl
        have hcat := gb_rest (b := b) (B := B) hr4
        exact va_mmin C.1 C.2.1 (C.2.2.2.1.trans hl.2.1.symm) C.2.2.2.2.1 hlink (C.2.2.2.2.2.1 _ gb_math_min.1 rfl) (C.2.2.2.2.2.1 _ gb_math_ini rfl) (C.2.2.2.2.2.1 _ gb_math_min.2 rfl) (Nat.le_trans hf C.2.2.2.2.2.2.2.1) (Nat.le_trans (show _ + 13 ≤ 23 by omega) (Nat.le_trans hlo C.2.2.2.2.2.2.2.2.1)) hc hsl hd (kk H locs lsC hl hR hL)
      · cases hs
    · cases hs
  · cases h
theorem gb_n_dadd (C : gb_Ctx p R s m args meth c k) (h : gb_chk k (.dadd, pc, nx) = true) (hs : gb_stp .dadd ls st P g = gb_nx ls' st' P' g') (hc : cells ≤ R.cells) (hsl : slots ≤ R.slots) (kk : gb_Go p l e R s m args below meth c D b B k Q (cells) (slots) (ls') (st') (nx) (P') (g')) : gb_Go p l e R s m args below meth c D b B k Q (cells) (slots) (ls) (st) (pc) (P) (g) := by
  obtain ⟨ci, len, hd, h⟩ := gb_chk_spec h
  simp only [gb_chkI] at h
  split at h
  · simp only [Bool.and_eq_true, decide_eq_true_eq] at h
    obtain ⟨⟨hlk, rfl, rfl⟩, hf, hlo⟩ := h
    simp only [gb_stp] at hs
    split at hs
    · split at hs
      · rename_i hr4
        cases hs
        intro H locs lsC hl hR hL
        have hlink := C.2.2.2.2.2.1 _ (gb_jtab_ok _ (gb_lk hlk)) rfl
        have hcat := gb_rest (b := b) (B := B) hr4
        exact va_mmax_long C.1 C.2.1 (C.2.2.2.1.trans hl.2.1.symm) C.2.2.2.2.1 hlink (C.2.2.2.2.2.1 _ gb_math_maxl.1 rfl) (C.2.2.2.2.2.1 _ gb_math_ini rfl) (C.2.2.2.2.2.1 _ gb_math_maxl.2 rfl) (Nat.le_trans hf C.2.2.2.2.2.2.2.1) (Nat.le_trans (show _ + 15 ≤ 23 by omega) (Nat.le_trans hlo C.2.2.2.2.2.2.2.2.1)) hc hsl hd (kk H locs lsC hl hR hL)
      · cases hs
    · cases hs
  · cases h
/-! jumps -/
theorem gb_tg_spec {pcs : List Nat} {t off : Int} {pc : Nat} (h : gb_tg pcs t pc off = true) : ∃ q, pcs[t.toNat]? = some q ∧ (pc : Int) + off = (q : Int) := by
  unfold gb_tg at h
  simp only [Bool.and_eq_true] at h
  obtain ⟨-, h⟩ := h
  split at h
  · rename_i q hq
    exact ⟨q, hq, by simpa using h⟩
  · cases h
theorem gb_j_goto {t : Int} {tt : Nat} (C : gb_Ctx p R s m args meth c k) (h : gb_chk k (.goto t, pc, nx) = true) (hs : gb_stp (.goto t) ls st P g = gb_jp tt ls' st') (kk : ∀ q, (gb_pcs k)[tt]? = some q → gb_Go p l e R s m args below meth c D b B k Q (cells) (slots) (ls') (st') (q) (P) (g)) : gb_Go p l e R s m args below meth c D b B k Q (cells) (slots) (ls) (st) (pc) (P) (g) := by
  obtain ⟨hx, hb, -⟩ := C
  obtain ⟨ci, len, hd, h⟩ := gb_chk_spec h
  simp only [gb_chkI] at h
  split at h
  · simp only [Bool.and_eq_true, decide_eq_true_eq] at h
    obtain ⟨htg, rfl⟩ := h
    obtain ⟨q, hq, ht⟩ := gb_tg_spec htg
    simp only [gb_stp] at hs
    cases hs
    exact fun H locs lsC hl hR hL => lv_goto hx hb hd ht (kk q hq H locs lsC hl hR hL)
  · cases h
theorem gb_i_ifCond {cd : ClassFile.Cond} {t : Int} {x : Int32} {r : List Value} (C : gb_Ctx p R s m args meth c k) (h : gb_chk k (.ifCond cd t, pc, nx) = true) (kt : gb_cnd cd x 0 = true → ∀ q, (gb_pcs k)[t.toNat]? = some q → gb_Go p l e R s m args below meth c D b B k Q (cells) (slots) (ls) (r) (q) (P) (g)) (kf : ¬ gb_cnd cd x 0 = true → gb_Go p l e R s m args below meth c D b B k Q (cells) (slots) (ls) (r) (nx) (P) (g)) : gb_Go p l e R s m args below meth c D b B k Q (cells) (slots) (ls) (.int x :: r) (pc) (P) (g) := by
  obtain ⟨hx, hb, -⟩ := C
  obtain ⟨ci, len, hd, h⟩ := gb_chk_spec h
  simp only [gb_chkI] at h
  split at h
  · simp only [Bool.and_eq_true, decide_eq_true_eq] at h
    obtain ⟨⟨rfl, htg⟩, rfl, rfl⟩ := h
    obtain ⟨q, hq, ht⟩ := gb_tg_spec htg
    intro H locs lsC hl hR hL
    rename_i c' off
    cases c' <;> simp only [gb_cnd, decide_eq_true_eq] at kt kf
    · exact lv_if_eq hx hb hd ht (fun z => kt z q hq H locs lsC hl hR hL) (fun z => kf z H locs lsC hl hR hL)
    · exact lv_if_ne hx hb hd ht (fun z => kt z q hq H locs lsC hl hR hL) (fun z => kf (fun w => w z) H locs lsC hl hR hL)
    · exact lv_if_lt hx hb hd ht (fun z => kt z q hq H locs lsC hl hR hL) (fun z => kf z H locs lsC hl hR hL)
    · exact lv_if_ge hx hb hd ht (fun z => kt z q hq H locs lsC hl hR hL) (fun z => kf z H locs lsC hl hR hL)
    · exact lv_if_gt hx hb hd ht (fun z => kt z q hq H locs lsC hl hR hL) (fun z => kf z H locs lsC hl hR hL)
    · exact lv_if_le hx hb hd ht (fun z => kt z q hq H locs lsC hl hR hL) (fun z => kf z H locs lsC hl hR hL)
  · cases h
theorem gb_i_if_icmp {cd : ClassFile.Cond} {t : Int} {x y : Int32} {r : List Value} (C : gb_Ctx p R s m args meth c k) (h : gb_chk k (.if_icmp cd t, pc, nx) = true) (kt : gb_cnd cd x y = true → ∀ q, (gb_pcs k)[t.toNat]? = some q → gb_Go p l e R s m args below meth c D b B k Q (cells) (slots) (ls) (r) (q) (P) (g)) (kf : ¬ gb_cnd cd x y = true → gb_Go p l e R s m args below meth c D b B k Q (cells) (slots) (ls) (r) (nx) (P) (g)) : gb_Go p l e R s m args below meth c D b B k Q (cells) (slots) (ls) (.int y :: .int x :: r) (pc) (P) (g) := by
  obtain ⟨hx, hb, -⟩ := C
  obtain ⟨ci, len, hd, h⟩ := gb_chk_spec h
  simp only [gb_chkI] at h
  split at h
  · simp only [Bool.and_eq_true, decide_eq_true_eq] at h
    obtain ⟨⟨rfl, htg⟩, rfl, rfl⟩ := h
    obtain ⟨q, hq, ht⟩ := gb_tg_spec htg
    intro H locs lsC hl hR hL
    rename_i c' off
    cases c' <;> simp only [gb_cnd, decide_eq_true_eq] at kt kf
    · exact lv_icmp_eq hx hb hd ht (fun z => kt z q hq H locs lsC hl hR hL) (fun z => kf z H locs lsC hl hR hL)
    · exact lv_icmp_ne hx hb hd ht (fun z => kt z q hq H locs lsC hl hR hL) (fun z => kf (fun w => w z) H locs lsC hl hR hL)
    · exact lv_icmp_lt hx hb hd ht (fun z => kt z q hq H locs lsC hl hR hL) (fun z => kf z H locs lsC hl hR hL)
    · exact lv_icmp_ge hx hb hd ht (fun z => kt z q hq H locs lsC hl hR hL) (fun z => kf z H locs lsC hl hR hL)
    · exact lv_icmp_gt hx hb hd ht (fun z => kt z q hq H locs lsC hl hR hL) (fun z => kf z H locs lsC hl hR hL)
    · exact lv_icmp_le hx hb hd ht (fun z => kt z q hq H locs lsC hl hR hL) (fun z => kf z H locs lsC hl hR hL)
  · cases h
theorem gb_lsw {pcs : List Nat} {pc : Nat} {x d d' : Int} (hd : gb_tg pcs d pc d' = true) : ∀ (ps ps' : List (Int × Int)), ps.length = ps'.length → (ps.zip ps').all (fun q => decide (q.1.1 = q.2.1) && gb_tg pcs q.1.2 pc q.2.2) = true → gb_tg pcs (Op.lookupswitch.offset ps d x) pc (Op.lookupswitch.offset ps' d' x) = true
  | [], [], _, _ => by simpa [Op.lookupswitch.offset] using hd
  | [], _ :: _, h, _ => by simp at h
  | _ :: _, [], h, _ => by simp at h
  | (a, t) :: ps, (a', t') :: ps', h, hz => by
    simp only [List.zip_cons_cons, List.all_cons, Bool.and_eq_true, decide_eq_true_eq] at hz
    obtain ⟨⟨rfl, h1⟩, h2⟩ := hz
    rw [Op.lookupswitch.offset_cons, Op.lookupswitch.offset_cons]
    split
    · exact h1
    · exact gb_lsw hd ps ps' (by simpa using h) h2
theorem gb_j_lookup {d : Int} {ps : Array (Int × Int)} {tt : Nat} (C : gb_Ctx p R s m args meth c k) (h : gb_chk k (.lookupswitch d ps, pc, nx) = true) (hs : gb_stp (.lookupswitch d ps) ls st P g = gb_jp tt ls' st') (kk : ∀ q, (gb_pcs k)[tt]? = some q → gb_Go p l e R s m args below meth c D b B k Q (cells) (slots) (ls') (st') (q) (P) (g)) : gb_Go p l e R s m args below meth c D b B k Q (cells) (slots) (ls) (st) (pc) (P) (g) := by
  obtain ⟨hx, hb, -⟩ := C
  obtain ⟨ci, len, hd, h⟩ := gb_chk_spec h
  simp only [gb_chkI] at h
  split at h
  · simp only [Bool.and_eq_true] at h
    obtain ⟨⟨⟨h1, h2⟩, h3⟩, h4⟩ := h
    simp only [gb_stp] at hs
    split at hs
    · rename_i x r
      cases hs
      obtain ⟨q, hq, ht⟩ := gb_tg_spec (gb_lsw (x := x.toInt) h1 _ _ (by simpa using h2) h3)
      exact fun H locs lsC hl hR hL => lv_lookup hx hb hd h4 rfl ht (kk q hq H locs lsC hl hR hL)
    · cases hs
  · cases h
theorem gb_tsw {pcs : List Nat} {pc : Nat} : ∀ (os os' : List Int), os.length = os'.length → (os.zip os').all (fun q => gb_tg pcs q.1 pc q.2) = true → ∀ (i : Nat) (t : Int), os[i]? = some t → ∃ t', os'[i]? = some t' ∧ gb_tg pcs t pc t' = true
  | [], _, _, _, i, t, h => by simp at h
  | _ :: _, [], h, _, _, _, _ => by simp at h
  | a :: os, a' :: os', h, hz, 0, t, hi => by
    simp only [List.zip_cons_cons, List.all_cons, Bool.and_eq_true] at hz
    simp only [List.getElem?_cons_zero, Option.some.injEq] at hi
    subst hi
    exact ⟨a', rfl, hz.1⟩
  | a :: os, a' :: os', h, hz, i + 1, t, hi => by
    simp only [List.zip_cons_cons, List.all_cons, Bool.and_eq_true] at hz
    rw [List.getElem?_cons_succ] at hi ⊢
    exact gb_tsw os os' (by simpa using h) hz.2 i t hi
theorem gb_j_table {d lo hi : Int} {offs : Array Int} {tt : Nat} (C : gb_Ctx p R s m args meth c k) (h : gb_chk k (.tableswitch d lo hi offs, pc, nx) = true) (hs : gb_stp (.tableswitch d lo hi offs) ls st P g = gb_jp tt ls' st') (kk : ∀ q, (gb_pcs k)[tt]? = some q → gb_Go p l e R s m args below meth c D b B k Q (cells) (slots) (ls') (st') (q) (P) (g)) : gb_Go p l e R s m args below meth c D b B k Q (cells) (slots) (ls) (st) (pc) (P) (g) := by
  obtain ⟨hx, hb, -⟩ := C
  obtain ⟨ci, len, hd, h⟩ := gb_chk_spec h
  simp only [gb_chkI] at h
  split at h
  · simp only [Bool.and_eq_true, decide_eq_true_eq] at h
    obtain ⟨⟨⟨h1, rfl, rfl⟩, h2⟩, h3⟩ := h
    simp only [gb_stp] at hs
    split at hs
    · rename_i x r
      split at hs
      · rename_i hout
        cases hs
        obtain ⟨q, hq, ht⟩ := gb_tg_spec h1
        exact fun H locs lsC hl hR hL => lv_tableOut hx hb hd hout ht (kk q hq H locs lsC hl hR hL)
      · rename_i hin
        split at hs
        · rename_i t ho
          cases hs
          obtain ⟨t', h5, h6⟩ := gb_tsw _ _ (by simpa using h2) h3 _ t (by rw [Array.getElem?_toList]; exact ho)
          rw [Array.getElem?_toList] at h5
          obtain ⟨q, hq, ht⟩ := gb_tg_spec h6
          exact fun H locs lsC hl hR hL => lv_tableIn hx hb hd (fun z => hin (Or.inl z)) (fun z => hin (Or.inr z)) h5 ht (kk q hq H locs lsC hl hR hL)
        · cases hs
    · cases hs
  · cases h
end GBF
end
section
/-! new T[n][m] -/
theorem gb_outer (c : ClassId) (N h0 : Nat) : ∀ i : Nat, Jvm.Free.Multi.outerC c N h0 i = arrV c N (fun j => va_rf (if j < i then some (h0 + 1 + j) else none))
  | 0 => by
    show ({ cls := c, slots := Array.replicate N .null, vm := .none } : Cell) = _
    rw [arrV_new]
    refine congrArg (arrV c N) (funext fun j => ?_)
    simp [va_rf]
  | i + 1 => by
    show (Jvm.Free.Multi.outerC c N h0 i).setSlot i (.ref (h0 + 1 + i)) = _
    rw [gb_outer c N h0 i, arrV_store]
    refine congrArg (arrV c N) (funext fun j => ?_)
    by_cases e : j = i
    · subst e
      simp [updV, va_rf]
    · by_cases h : j < i
      · simp [updV, e, h, Nat.lt_succ_of_lt h]
      · simp [updV, e, h, show ¬ j < i + 1 by omega]
section GBM
variable {p : Program} {l : Launch} {e : Env} {R : Room} {s : State} {m : MethodId} {args : Array Value} {below : List Frame} {meth : Method} {c : Code} {D : va_G} {b B k : Nat} {Q : State → Prop} {cells slots pc nx : Nat} {ls st ls' st' : List Value} {P P' : gb_Pi} {g g' : gb_Sg}
theorem gb_multi {ty : FieldType} {t q0 idx : Nat} {n q : Int32} {r : List Value} (C : gb_Ctx p R s m args meth c k) (hK : gb_K D s) (hov : gb_AO ty s) (hd : decode (gb_met k).2.1 pc = .ok (.multianewarray idx 2, 4)) (hlink : (Cond.classLink (gb_own (gb_mo k)) idx ("[" ++ (FieldType.array ty).toString)).before args s = true) (harr : Cond.arrayClass ty ∈ lw_tbl)
    (h1 : ¬ q < 0) (h2 : ¬ n < 0) (h3 : q.toNatClampNeg ≤ 100000) (h4 : n.toNatClampNeg ≤ 100000) (hty : gb_aty t = .array ty) (ht : t = 4 ∨ t = 5) (hq0 : gb_aty q0 = ty) (hq3 : q0 ≤ 3) (hcb : componentBytes ty ≤ 8) (hdf : fits ty (defaultValue ty) = true) (hdd : (defaultValue ty).isDefault = true)
    (hc : cells + (1 + n.toNatClampNeg) ≤ R.cells) (hsl : slots + (n.toNatClampNeg + n.toNatClampNeg * q.toNatClampNeg) ≤ R.slots)
    (kk : gb_Go p l e R s m args below meth c D b B k Q (cells + (1 + n.toNatClampNeg)) (slots + (n.toNatClampNeg + n.toNatClampNeg * q.toNatClampNeg)) (ls) (.ref P.length :: r) (pc + 4) (P ++ (t, n.toNatClampNeg) :: List.replicate n.toNatClampNeg (q0, q.toNatClampNeg)) (s2 g P.length n.toNatClampNeg)) : gb_Go p l e R s m args below meth c D b B k Q (cells) (slots) (ls) (.int q :: .int n :: r) (pc) (P) (g) := by
  intro H locs lsC hl hR hL T hT X
  obtain ⟨vm₁, cA, comp, -, fA, fC, hO, hI, X', step⟩ := X.multianewarray2F C.1 C.2.2.2.2.1 hlink (show (Cond.arrayOver (.array ty)).before args s = true from hov) (C.2.2.2.2.2.1 _ harr rfl) (g := F0 m pc lsC ((Value.int q :: .int n :: r).map (gb_cv b B))) rfl (by rw [C.2.1]; exact hd) rfl h2 h1 (by omega) (Nat.le_trans (Nat.mul_le_mul h3 hcb) (by decide)) (by omega) hdf hdd hc hsl
  generalize hF : Jvm.Free.Multi.fill (T.setVm vm₁) cA comp n.toNatClampNeg q.toNatClampNeg (defaultValue ty) n.toNatClampNeg = F at X' step
  have hTh : (T.setVm vm₁).heap = H := hT
  obtain ⟨f1, f2, -, -⟩ := Jvm.Free.Multi.fill_facts (T.setVm vm₁) cA comp n.toNatClampNeg q.toNatClampNeg (defaultValue ty) n.toNatClampNeg
  rw [hF, hTh] at f1 f2
  have hold : ∀ x : Nat, x < H.size → F.heap[x]? = H[x]? := fun x hx => by
    have := Jvm.Free.Multi.fill_old (T.setVm vm₁) cA comp n.toNatClampNeg q.toNatClampNeg (defaultValue ty) (a := x) (by rw [hTh]; exact hx) n.toNatClampNeg
    rw [hF, hTh] at this
    exact this
  have hrow : ∀ j : Nat, j < n.toNatClampNeg → F.heap[H.size + 1 + j]? = some (Jvm.Free.Multi.innerC comp q.toNatClampNeg (defaultValue ty)) := fun j hj => by
    have := Jvm.Free.Multi.fill_inner (T.setVm vm₁) cA comp n.toNatClampNeg q.toNatClampNeg (defaultValue ty) n.toNatClampNeg j hj
    rw [hF, hTh] at this
    exact this
  have hAr : ArrOfT s cA (.array ty) := fun N9 z9 => by
    obtain ⟨-, k9, hk9, cm9, hkk9⟩ := (hO 0 0 0).1
    exact ⟨(fun q hq => by cases hq), k9, hk9, cm9, hkk9⟩
  have hAi : ArrOfT s comp ty := fun N9 z9 => by
    obtain ⟨-, k9, hk9, cm9, hkk9⟩ := (hI 0 (defaultValue ty)).1
    exact ⟨(fun q hq => by cases hq), k9, hk9, cm9, hkk9⟩
  have hRn : gb_Rep D b B s F.heap (P ++ (t, n.toNatClampNeg) :: List.replicate n.toNatClampNeg (q0, q.toNatClampNeg)) (s2 g P.length n.toNatClampNeg) := by
    refine hR.grow (by rw [f1]; simp; omega) hold (fun i hi => gb_same_s2 hi) rfl (fun i z hz => ?_)
    match i, hz with
    | 0, hz =>
      cases hz
      refine Or.inl ⟨by dsimp only; omega, cA, ?_, by dsimp only; rw [hty]; exact hAr⟩
      dsimp only
      rw [Nat.add_zero, ← hR.1, f2, gb_outer]
      congr 2
      funext j
      have : gb_av B (s2 g P.length n.toNatClampNeg) P.length t j = gb_rf B (gR (s2 g P.length n.toNatClampNeg) P.length j) := by
        rcases ht with rfl | rfl <;> rfl
      rw [this, gR_s2, if_pos rfl]
      by_cases hj : j < n.toNatClampNeg
      · rw [if_pos hj, if_pos hj]
        simp only [va_rf, gb_rf]
        rw [hR.1]
        exact congrArg Value.ref (show (B + P.length + 1 + j : Nat) = B + (P.length + 1 + j) by omega)
      · rw [if_neg hj, if_neg hj]
        rfl
    | i + 1, hz =>
      rw [List.getElem?_cons_succ] at hz
      have hi : i < n.toNatClampNeg := by
        have := (List.getElem?_eq_some_iff.mp hz).1
        simpa using this
      have hz2 := List.eq_of_mem_replicate (List.mem_of_getElem? hz)
      subst hz2
      refine Or.inl ⟨by dsimp only; omega, comp, ?_, by dsimp only; rw [hq0]; exact hAi⟩
      dsimp only
      rw [show B + (P.length + (i + 1)) = H.size + 1 + i by rw [hR.1]; omega, hrow i hi]
      show some ({ cls := comp, slots := Array.replicate q.toNatClampNeg (defaultValue ty), vm := .none } : Cell) = _
      rw [arrV_new]
      congr 2
      funext j
      unfold gb_av
      simp only [gI_s2, gL_s2, gR_s2]
      rw [if_pos (show P.length ≤ P.length + (i + 1) ∧ P.length + (i + 1) ≤ P.length + n.toNatClampNeg by omega), if_pos (show P.length ≤ P.length + (i + 1) ∧ P.length + (i + 1) ≤ P.length + n.toNatClampNeg by omega), if_pos (show P.length ≤ P.length + (i + 1) ∧ P.length + (i + 1) ≤ P.length + n.toNatClampNeg by omega)]
      rw [← hq0]
      match q0, hq3 with
      | 0, _ => rfl
      | 1, _ => rfl
      | 2, _ => rfl
      | 3, _ => rfl
  obtain ⟨t2, a1, b1⟩ := kk F.heap locs lsC hl hRn hL F rfl (by rw [show cells + (1 + n.toNatClampNeg) = cells + 1 + n.toNatClampNeg by omega, show slots + (n.toNatClampNeg + n.toNatClampNeg * q.toNatClampNeg) = slots + n.toNatClampNeg + n.toNatClampNeg * q.toNatClampNeg by omega]; exact X')
  refine ⟨t2, step t2 ?_, b1⟩
  have e9 : T.heap.size = B + P.length := by rw [hT]; exact hR.1
  rw [e9]
  exact a1
theorem gb_n_multianewarray {t q1 : Nat} (C : gb_Ctx p R s m args meth c k) (hK : gb_K D s) (h : gb_chk k (.multianewarray t q1, pc, nx) = true) (hs : gb_stp (.multianewarray t q1) ls st P g = gb_nx ls' st' P' g') (hc : cells + (P'.length - P.length) ≤ R.cells) (hsl : slots + (gb_msl P' - gb_msl P) ≤ R.slots) (kk : gb_Go p l e R s m args below meth c D b B k Q (cells + (P'.length - P.length)) (slots + (gb_msl P' - gb_msl P)) (ls') (st') (nx) (P') (g')) : gb_Go p l e R s m args below meth c D b B k Q (cells) (slots) (ls) (st) (pc) (P) (g) := by
  obtain ⟨ci, len, hd, h⟩ := gb_chk_spec h
  simp only [gb_chkI] at h
  split at h
  · simp only [decide_eq_true_eq] at h
    obtain ⟨hlk, rfl, rfl, rfl⟩ := h
    simp only [gb_stp] at hs
    split at hs
    · rename_i q n r
      split at hs
      · cases hs
      · rename_i hno
        cases hs
        have a1 : ¬ q < 0 := fun z => hno (Or.inl z)
        have a2 : ¬ n < 0 := fun z => hno (Or.inr (Or.inl z))
        have a3 : q.toNatClampNeg ≤ 100000 := Nat.not_lt.mp fun z => hno (Or.inr (Or.inr (Or.inl z)))
        have a4 : n.toNatClampNeg ≤ 100000 := Nat.not_lt.mp fun z => hno (Or.inr (Or.inr (Or.inr (Or.inl z))))
        have a5 : t = 4 ∨ t = 5 := Classical.byContradiction fun z => hno (Or.inr (Or.inr (Or.inr (Or.inr z))))
        have e1 : (P ++ (t, n.toNatClampNeg) :: List.replicate n.toNatClampNeg (if t = 4 then 0 else 3, q.toNatClampNeg)).length - P.length = 1 + n.toNatClampNeg := by simp; omega
        have e2 : gb_msl (P ++ (t, n.toNatClampNeg) :: List.replicate n.toNatClampNeg (if t = 4 then 0 else 3, q.toNatClampNeg)) - gb_msl P = n.toNatClampNeg + n.toNatClampNeg * q.toNatClampNeg := by rw [gb_msl_app]; simp [gb_msl]
        rw [e1] at hc kk
        rw [e2] at hsl kk
        have hlink := C.2.2.2.2.2.1 _ (gb_ntab_ok _ (gb_lk hlk)) rfl
        unfold gb_wN at hlink
        dsimp only at hlink
        rcases a5 with rfl | rfl
        · exact gb_multi (ty := .int) (q0 := 0) C hK hK.2.2.1 hd hlink gb_arr_int a1 a2 a3 a4 rfl (Or.inl rfl) rfl (by decide) (by decide) rfl rfl hc hsl kk
        · exact gb_multi (ty := .long) (q0 := 3) C hK hK.2.2.2 hd hlink gb_arr_long a1 a2 a3 a4 rfl (Or.inr rfl) rfl (by decide) (by decide) rfl rfl hc hsl kk
    · cases hs
  · cases h
end GBM
end
section
/-! calls -/
def gb_ws (y : Nat) : List Cond := Cond.code (gb_met y).1 (gb_met y).2.1 (gb_inf y).1 (gb_met y).2.2 :: lw_tbl.filter goodWord
def gb_rm (y mc ms : Nat) : Room := { frames := (gb_inf y).2.2.2.2.1, cells := mc, slots := ms, locals := (gb_inf y).2.2.2.2.2 }
def gb_Pc (D : va_G) (b B : Nat) (as : List Value) (P : gb_Pi) (g : gb_Sg) : Array Value → State → Prop := fun a U => a = (as.map (gb_cv b B)).toArray ∧ gb_K D U ∧ gb_Rep D b B U U.heap P g
def gb_rv (b B : Nat) (v : Value) : Option Value := match v with
  | .null => none
  | v => some (gb_cv b B v)
def gb_Qc (D : va_G) (b B : Nat) (v : Value) (P : gb_Pi) (g : gb_Sg) : Array Value → State → Outcome → State → Prop := fun _ _ o t => o = .returned (gb_rv b B v) ∧ gb_Rep D b B t t.heap P g
def gb_Con (l : Launch) (D : va_G) (b B y : Nat) (as : List Value) (P : gb_Pi) (g : gb_Sg) (v : Value) (P' : gb_Pi) (g' : gb_Sg) : Prop :=
  Met l (gb_met y).1 (gb_ws y) (gb_rm y (P'.length - P.length) (gb_msl P' - gb_msl P)) (gb_Pc D b B as P g) (gb_Qc D b B v P' g') (P'.length - P.length) (gb_msl P' - gb_msl P) (fun q => B ≤ q)
theorem gb_K.warm {D : va_G} {s U : State} (hW : s.WarmedH U.vm) (h : gb_K D s) : gb_K D U := by
  refine ⟨fun n q hq => u_Kn_moved hW.alike (h.1 n q hq), fun x hx hn => ?_, gb_AO.moved hW.alike h.2.2.1, gb_AO.moved hW.alike h.2.2.2⟩
  have h1 := h.2.1 x hx hn
  unfold gb_wM at h1 ⊢
  rw [if_pos hn] at h1 ⊢
  exact va_Nw.warmM hW h1
theorem gb_K.eq {D : va_G} {s U : State} (hv : s.vm = U.vm) (h : gb_K D s) : gb_K D U := by
  have ha : s.vm.Alike U.vm := by rw [hv]; exact Vm.Alike.refl _
  refine ⟨fun n q hq => u_Kn_moved ha (h.1 n q hq), fun x hx hn => ?_, gb_AO.moved ha h.2.2.1, gb_AO.moved ha h.2.2.2⟩
  have h1 := h.2.1 x hx hn
  unfold gb_wM at h1 ⊢
  rw [if_pos hn] at h1 ⊢
  exact va_Nw.same rfl hv h1
theorem gb_blind (D : va_G) (b B : Nat) (as : List Value) (P : gb_Pi) (g : gb_Sg) : FrameBlind (gb_Pc D b B as P g) :=
  fun a U _ _ h => ⟨h.1, gb_K.eq (s := U) rfl h.2.1, gb_Rep.moved (u := U) (Vm.Alike.refl U.vm) h.2.2⟩
theorem gb_mOK_at {y : Nat} (h1 : 1 ≤ y) (h2 : y < gb_metL.length) : gb_mOK y = true := by
  have h := List.all_eq_true.mp gb_mOK_ok (y - 1) (List.mem_range.mpr (by have : gb_metL.length = 188 := rfl; omega))
  rw [show y - 1 + 1 = y by omega] at h
  exact h
theorem gb_cod_at {y : Nat} (h1 : 1 ≤ y) (h2 : y < gb_metL.length) : Cond.code (gb_met y).1 (gb_met y).2.1 (gb_inf y).1 (gb_met y).2.2 ∈ lw_tbl :=
  gb_cod_ok y (List.mem_map.mpr ⟨y - 1, List.mem_range.mpr (by have : gb_metL.length = 188 := rfl; omega), by omega⟩)
theorem gb_psh {b B : Nat} (v : Value) (r : List Value) : (psh v r).map (gb_cv b B) = (gb_rv b B v).toList ++ r.map (gb_cv b B) := by
  cases v <;> rfl
section GBC
variable {p : Program} {l : Launch} {e : Env} {R : Room} {s : State} {m : MethodId} {args : Array Value} {below : List Frame} {meth : Method} {c : Code} {D : va_G} {b B k : Nat} {Q : State → Prop} {cells slots pc nx : Nat} {ls st ls' st' : List Value} {P P' : gb_Pi} {g g' : gb_Sg}
theorem gb_after {H : Heap} {locs : List Loc} {lsC : Array Slot} {st0 rest : List Value} {mc ms : Nat} {a : Array Value} {v : Value} (hr : va_Run p l e R s m args below meth c H locs cells slots mc ms (F0 m pc lsC st0) rest (gb_Qc D b B v P' g' a) (fun q => B ≤ q)) (hL : ∀ q ∈ locs, B ≤ q.base)
    (kk : ∀ (H1 : Heap) (locs1 : List Loc), gb_Rep D b B s H1 P' g' → (∀ q ∈ locs1, B ≤ q.base) → W p l e R s m args below meth c H1 locs1 (cells + mc) (slots + ms) Q (F0 m (pc + 3) lsC ((gb_rv b B v).toList ++ rest))) : W p l e R s m args below meth c H locs cells slots Q (F0 m pc lsC st0) := by
  intro T hT X
  obtain ⟨v', st₀, t, T', L, h0, X', hL', e1, e2, ⟨hv, hRep⟩, stp⟩ := hr T hT X
  cases hv
  obtain ⟨t2, a1, b1⟩ := kk T'.heap (locs ++ L) (by rw [e1]; exact gb_Rep.moved (by rw [← e2]; exact X'.warmed.alike.symm) hRep) (fun q hq => (List.mem_append.mp hq).elim (hL q) (hL' q)) T' rfl X'
  exact ⟨t2, stp t2 a1, b1⟩
theorem gb_words (C : gb_Ctx p R s m args meth c k) {y : Nat} (h1 : 1 ≤ y) (h2 : y < gb_metL.length) : ∀ w ∈ gb_ws y, ∀ (a' : Array Value) (U : State), s.WarmedH U.vm → w.before a' U = true := by
  intro w hw a' U hW
  have : w ∈ lw_tbl ∧ goodWord w = true := by
    rcases List.mem_cons.mp hw with rfl | hw
    · exact ⟨gb_cod_at h1 h2, rfl⟩
    · exact List.mem_filter.mp hw
  exact word_at hW (good_of_word this.2) (C.2.2.2.2.2.1 w this.1 this.2)
theorem gb_c_call {y n : Nat} {v : Value} (C : gb_Ctx p R s m args meth c k) (hK : gb_K D s) (h : gb_chk k (.invokeinterface y n, pc, nx) = true) (hs : gb_stp (.invokeinterface y n) ls st P g = gb_cl y n st) (hcon : gb_Con l D b B y (st.take n).reverse P g v P' g') (hc : cells + (P'.length - P.length) ≤ R.cells) (hsl : slots + (gb_msl P' - gb_msl P) ≤ R.slots)
    (kk : gb_Go p l e R s m args below meth c D b B k Q (cells + (P'.length - P.length)) (slots + (gb_msl P' - gb_msl P)) (ls) (psh v (st.drop n)) (nx) (P') (g')) : gb_Go p l e R s m args below meth c D b B k Q (cells) (slots) (ls) (st) (pc) (P) (g) := by
  obtain ⟨ci, len, hd, hci⟩ := gb_chk_spec h
  clear h
  simp only [gb_chkI, Bool.and_eq_true, decide_eq_true_eq] at hci
  obtain ⟨⟨hy1, hy2, hn, hfr, hlo, rfl, rfl⟩, hci⟩ := hci
  have hmo := gb_mOK_at hy1 hy2
  unfold gb_mOK at hmo
  simp only [Bool.and_eq_true, decide_eq_true_eq] at hmo
  obtain ⟨⟨⟨⟨⟨m1, m2⟩, m3⟩, m4⟩, m5⟩, m6⟩ := hmo
  simp only [gb_stp] at hs
  split at hs
  · rename_i hcond
    obtain ⟨c1, c2, c3⟩ := hcond
    intro H locs lsC hl hR hL
    have hcat := gb_rest (b := b) (B := B) c2
    have hpre : ∀ U : State, U.heap = H → s.WarmedH U.vm → gb_Pc D b B (st.take n).reverse P g (((st.take n).reverse.map (gb_cv b B)).toArray) U := fun U hU hW => ⟨rfl, hK.warm hW, by rw [hU]; exact hR.moved hW.alike⟩
    have hini : (Cond.initialized (gb_met y).1.cls).before args s = true := by
      rw [m1]
      exact C.2.2.2.2.2.1 _ (gb_ini_ok _ (List.mem_range.mpr m2)) rfl
    have hcode := C.2.2.2.2.2.1 _ (gb_cod_at hy1 hy2) rfl
    have hws := gb_words C hy1 hy2
    have hfr' : (gb_rm y (P'.length - P.length) (gb_msl P' - gb_msl P)).frames + 1 ≤ R.frames := Nat.le_trans hfr C.2.2.2.2.2.2.2.1
    have hlo' : 8 + ((gb_inf y).1 + 11) + (gb_rm y (P'.length - P.length) (gb_msl P' - gb_msl P)).locals ≤ R.locals := Nat.le_trans hlo C.2.2.2.2.2.2.2.2.1
    have hlen : ∀ nn : Nat, (parseMethodDescriptor (gb_met y).1.desc).map (fun d => d.parameters.length) = some nn → ∀ sig, parseMethodDescriptor (gb_met y).1.desc = some sig → nn = sig.parameters.length := by
      intro nn hnn sig hsig
      rw [hsig] at hnn
      exact (Option.some.inj hnn).symm
    have hfix : CallFix p m c (gb_met k).2.1 (gb_inf k).1 s args (([] : List Cond)) (gb_own (gb_mo k)) := ⟨C.1, C.2.1, C.2.2.2.1, C.2.2.2.2.1, fun w hw => by cases hw⟩
    have hsz : (F0 m pc lsC (st.map (gb_cv b B))).locals.size = (gb_inf k).1 := hl.2.1
    have hfin : ∀ (a : Array Value), va_Run p l e R s m args below meth c H locs cells slots (P'.length - P.length) (gb_msl P' - gb_msl P) (F0 m pc lsC (st.map (gb_cv b B))) ((st.drop n).map (gb_cv b B)) (gb_Qc D b B v P' g' a) (fun q => B ≤ q) → W p l e R s m args below meth c H locs cells slots Q (F0 m pc lsC (st.map (gb_cv b B))) := by
      intro a hr
      exact gb_after hr hL (fun H1 locs1 hR1 hL1 => by rw [← gb_psh]; exact kk H1 locs1 lsC hl hR1 hL1)
    have hsplit : st.map (gb_cv b B) = (st.take n).map (gb_cv b B) ++ (st.drop n).map (gb_cv b B) := by rw [← List.map_append, List.take_append_drop]
    unfold gb_rcv at c3
    simp only [Bool.and_eq_true, decide_eq_true_eq] at c3
    obtain ⟨⟨⟨r1, r2⟩, r3⟩, r4⟩ := c3
    split at hci
    · -- invokevirtual
      rename_i i
      simp only [Bool.and_eq_true, Bool.or_eq_true, decide_eq_true_eq] at hci
      obtain ⟨hk0, hlk⟩ := hci
      rw [hk0] at m5 m6
      simp only [Bool.and_eq_true, decide_eq_true_eq] at m6
      obtain ⟨⟨⟨⟨v1, v2⟩, v3⟩, v4⟩, v5⟩ := m6
      rw [v3] at r4
      have hnargs : (gb_inf y).2.2.2.1 - 1 + 1 = (gb_inf y).2.2.2.1 := by omega
      dsimp only at r4
      generalize hras : (st.take n).reverse = as at *
      match as, r4 with
      | .ref a :: as', r4 =>
        simp only [decide_eq_true_eq] at r4
        have hst : (st.take n) = as'.reverse ++ [.ref a] := by
          have := congrArg List.reverse hras
          simpa using this
        obtain ⟨r, hr, hp, cell, q1, q2, q3, q4⟩ := gb_obj hR r4 v4
        obtain ⟨z1, -⟩ := gb_clsOK _ r hr
        have hKn := hK.1 _ r hr
        have hPV : PreV s H (gb_met y).1.cls (B + a) (gb_Pc D b B (.ref a :: as') P g) (as'.map (gb_cv b B)) :=
          ⟨gb_blind D b B _ P g, ⟨cell, q1, by rw [q3]; rfl, by rw [m1, ← z1, q2]; exact hKn.2.1⟩, hpre⟩
        have hAs : (as'.map (gb_cv b B)).length = (gb_inf y).2.2.2.1 - 1 := by
          rw [List.length_map]
          simp only [List.length_cons] at r1
          omega
        have hstack : (F0 m pc lsC (st.map (gb_cv b B))).stack = (as'.map (gb_cv b B)).reverse ++ .ref (B + a) :: (st.drop n).map (gb_cv b B) := by
          show st.map (gb_cv b B) = _
          rw [hsplit, hst]
          simp [gb_cv]
        have hin := C.2.2.2.2.2.1 _ (gb_insM_ok y v2) rfl
        have hse := C.2.2.2.2.2.1 _ (gb_virM_ok y v1) rfl
        rcases hlk with hlk | hlk
        · have hlink := C.2.2.2.2.2.1 _ (gb_mtab_ok _ (gb_lk hlk)) rfl
          refine hfin _ (va_runV hfix hcon ⟨⟨rfl, rfl, hfr', hlo', hws, List.mem_cons_self, hcode, hini, m4, hlen _ m5, hlink⟩, hin, hse⟩ hPV rfl hAs hsz hstack (lv_room hcat) hd ⟨hc, hsl⟩)
        · have hlink := va_Nw.use (A := args) rfl (hK.2.1 _ (gb_lk hlk) rfl)
          refine hfin _ (va_runVN hfix hcon ⟨⟨⟨rfl, rfl, hfr', hlo', hws, List.mem_cons_self⟩, hcode, hini, m4, hlen _ m5, hlink⟩, hin, hse⟩ hPV rfl hAs hsz hstack (lv_room hcat) hd ⟨hc, hsl⟩)
    · -- invokestatic
      rename_i i
      simp only [Bool.and_eq_true, Bool.or_eq_true, decide_eq_true_eq] at hci
      obtain ⟨hk0, hlk⟩ := hci
      rw [hk0] at m5 m6
      simp only [Bool.and_eq_true, decide_eq_true_eq] at m6
      obtain ⟨v1, v2⟩ := m6
      have hAs : ((st.take n).reverse.map (gb_cv b B)).length = (gb_inf y).2.2.2.1 - 0 := by
        rw [List.length_map, r1]
        omega
      have hstack : (F0 m pc lsC (st.map (gb_cv b B))).stack = ((st.take n).reverse.map (gb_cv b B)).reverse ++ (st.drop n).map (gb_cv b B) := by
        show st.map (gb_cv b B) = _
        rw [hsplit]
        simp
      have hst := C.2.2.2.2.2.1 _ (gb_staM_ok y v1) rfl
      have hPS : PreS s H (gb_Pc D b B (st.take n).reverse P g) ((st.take n).reverse.map (gb_cv b B)) := ⟨gb_blind D b B _ P g, hpre⟩
      rcases hlk with hlk | hlk
      · have hlink := C.2.2.2.2.2.1 _ (gb_mtab_ok _ (gb_lk hlk)) rfl
        refine hfin _ (va_runS hfix hcon ⟨⟨rfl, rfl, hfr', hlo', hws, List.mem_cons_self, hcode, hini, m4, hlen _ m5, hlink⟩, hst⟩ hPS rfl hAs hsz hstack (lv_room hcat) hd ⟨hc, hsl⟩)
      · have hlink := va_Nw.use (A := args) rfl (hK.2.1 _ (gb_lk hlk) rfl)
        refine hfin _ (va_runSN hfix hcon ⟨⟨⟨rfl, rfl, hfr', hlo', hws, List.mem_cons_self⟩, hcode, hini, m4, hlen _ m5, hlink⟩, hst, trivial⟩ hPS rfl hAs hsz hstack (lv_room hcat) hd ⟨hc, hsl⟩)
    · -- invokespecial
      rename_i i
      simp only [Bool.and_eq_true, Bool.or_eq_true, decide_eq_true_eq] at hci
      obtain ⟨hk0, hlk⟩ := hci
      rw [hk0] at m5 m6
      simp only [Bool.and_eq_true, decide_eq_true_eq] at m6
      obtain ⟨⟨⟨⟨⟨v1, v2⟩, v3⟩, v4⟩, v5⟩, v6⟩ := m6
      rw [v4] at r4
      dsimp only at r4
      generalize hras : (st.take n).reverse = as at *
      match as, r4 with
      | .ref a :: as', r4 =>
        have hst : (st.take n) = as'.reverse ++ [.ref a] := by
          have := congrArg List.reverse hras
          simpa using this
        have hPS : PreS s H (gb_Pc D b B (.ref a :: as') P g) (.ref (B + a) :: as'.map (gb_cv b B)) := ⟨gb_blind D b B _ P g, hpre⟩
        have hAs : (as'.map (gb_cv b B)).length = (gb_inf y).2.2.2.1 - 1 := by
          rw [List.length_map]
          simp only [List.length_cons] at r1
          omega
        have hstack : (F0 m pc lsC (st.map (gb_cv b B))).stack = (as'.map (gb_cv b B)).reverse ++ .ref (B + a) :: (st.drop n).map (gb_cv b B) := by
          show st.map (gb_cv b B) = _
          rw [hsplit, hst]
          simp [gb_cv]
        have hin := C.2.2.2.2.2.1 _ (gb_insM_ok y v1) rfl
        rw [v3] at hcode
        have hmem : Cond.code (gb_met y).1 (gb_met y).2.1 (gb_inf y).1 none ∈ gb_ws y := by
          rw [← v3]
          exact List.mem_cons_self
        rcases hlk with hlk | hlk
        · have hlink := C.2.2.2.2.2.1 _ (gb_mtab_ok _ (gb_lk hlk)) rfl
          refine hfin _ (va_runI hfix hcon ⟨⟨rfl, rfl, hfr', hlo', hws, hmem, hcode, hini, m4, hlen _ m5, hlink⟩, v2, hin⟩ hPS rfl hAs hsz hstack (lv_room hcat) hd ⟨hc, hsl⟩)
        · have hlink := va_Nw.use (A := args) rfl (hK.2.1 _ (gb_lk hlk) rfl)
          refine hfin _ (va_runIN hfix hcon ⟨⟨⟨rfl, rfl, hfr', hlo', hws, hmem⟩, hcode, hini, m4, hlen _ m5, hlink⟩, v2, hin⟩ hPS rfl hAs hsz hstack (lv_room hcat) hd ⟨hc, hsl⟩)
    · cases hci
  · cases hs
end GBC
end
section
/-! THE WALK: what the small machine does, the machine does -/
theorem gb_stp_app {i : Instr} {ls st ls' st' : List Value} {P P' : gb_Pi} {g g' : gb_Sg} (h : gb_stp i ls st P g = gb_nx ls' st' P' g') : ∃ Pn, P' = P ++ Pn := by
  cases i <;> simp only [gb_stp] at h <;> (repeat' split at h) <;> first | (cases h; exact ⟨[], (List.append_nil _).symm⟩) | (cases h; exact ⟨_, rfl⟩) | cases h
theorem gb_run_app : ∀ (n m : Nat) (r : List Instr) (ls st : List Value) (P : gb_Pi) (g : gb_Sg) (x : Value × gb_Pi × gb_Sg), gb_run n m r ls st P g = some x → ∃ Pn, x.2.1 = P ++ Pn
  | 0, _, _, _, _, _, _, _, h => by simp [gb_run] at h
  | n + 1, m, [], ls, st, P, g, x, h => by simp [gb_run] at h
  | n + 1, m, i :: r, ls, st, P, g, x, h => by
    rw [gb_run] at h
    generalize ho : gb_stp i ls st P g = o at h
    match o, ho, h with
    | some (.inl q), ho, h =>
      obtain ⟨P1, e1⟩ := gb_stp_app ho
      obtain ⟨P2, e2⟩ := gb_run_app n _ _ _ _ _ _ _ h
      exact ⟨P1 ++ P2, by rw [e2, e1, List.append_assoc]⟩
    | some (.inr (.inl q)), ho, h => exact gb_run_app n _ _ _ _ _ _ _ h
    | some (.inr (.inr (.inl v))), ho, h => cases h; exact ⟨[], (List.append_nil _).symm⟩
    | some (.inr (.inr (.inr q))), ho, h =>
      dsimp only at h
      cases h1 : gb_run n q.1 (gb_prog q.1) (gb_ent (gb_inf q.1).1 (q.2.2.take q.2.1).reverse) [] P g with
      | none => rw [h1] at h; cases h
      | some w =>
        rw [h1] at h
        obtain ⟨P1, e1⟩ := gb_run_app n _ _ _ _ _ _ _ h1
        obtain ⟨P2, e2⟩ := gb_run_app n _ _ _ _ _ _ _ h
        exact ⟨P1 ++ P2, by rw [e2, e1, List.append_assoc]⟩
theorem gb_len_of {P P' Pn : gb_Pi} (h : P' = P ++ Pn) : P'.length = P.length + Pn.length ∧ gb_msl P' = gb_msl P + gb_msl Pn := by
  subst h
  exact ⟨List.length_append, gb_msl_app _ _⟩
theorem gb_row_at {k j pc : Nat} {i : Instr} {r : List Instr} (hk : k < 188) (hj : gb_tgt k j = i :: r) (hpc : (gb_pcs k)[j]? = some pc) : ∃ nx, gb_chk k (i, pc, nx) = true ∧ (r ≠ [] → (gb_pcs k)[j + 1]? = some nx) ∧ r = gb_tgt k (j + 1) := by
  have h := gb_rows_ok k hk
  unfold gb_rowsOK at h
  simp only [Bool.and_eq_true, decide_eq_true_eq] at h
  obtain ⟨⟨hlen, -⟩, hall⟩ := h
  unfold gb_tgt at hj ⊢
  have hi : (gb_prog k)[j]? = some i := by
    have : ((gb_prog k).drop j)[0]? = some i := by rw [hj]; rfl
    rw [List.getElem?_drop] at this
    exact this
  have hr : r = (gb_prog k).drop (j + 1) := by
    have := congrArg (List.drop 1) hj
    rw [List.drop_drop] at this
    simpa using this.symm
  have hjl : j < (gb_pcs k).length := (List.getElem?_eq_some_iff.mp hpc).1
  obtain ⟨nx, hnx⟩ : ∃ nx, ((gb_pcs k).drop 1 ++ [0])[j]? = some nx := by
    have : j < ((gb_pcs k).drop 1 ++ [0]).length := by simp; omega
    exact ⟨_, List.getElem?_eq_getElem this⟩
  have hz : (gb_rows k)[j]? = some (i, pc, nx) := by
    unfold gb_rows
    have hz1 : ((gb_pcs k).zip ((gb_pcs k).drop 1 ++ [0]))[j]? = some (pc, nx) := List.getElem?_zip_eq_some (z := (pc, nx)).mpr ⟨hpc, hnx⟩
    exact List.getElem?_zip_eq_some (z := (i, pc, nx)).mpr ⟨hi, hz1⟩
  refine ⟨nx, List.all_eq_true.mp hall _ (List.mem_of_getElem? hz), fun hne => ?_, hr⟩
  have hl2 : j + 1 < (gb_prog k).length := by
    rcases Nat.lt_or_ge (j + 1) (gb_prog k).length with q | q
    · exact q
    · exact absurd (hr.trans (List.drop_eq_nil_of_le q)) hne
  rw [List.getElem?_append_left (by simp; omega), List.getElem?_drop] at hnx
  rw [Nat.add_comm j 1]
  exact hnx
/-- the arguments as the first locals -/
theorem gb_lex_len (b B : Nat) : ∀ as : List Value, as.all gb_ok = true → (lg_sl (as.map (gb_cv b B))).length = (gb_lex as).length
  | [], _ => rfl
  | v :: as, h => by
    simp only [List.all_cons, Bool.and_eq_true] at h
    have ih := gb_lex_len b B as h.2
    unfold lg_sl at ih ⊢
    simp only [List.map_cons, List.flatMap_cons, List.length_append]
    rw [ih]
    cases v <;> simp [gb_cv, Value.category, gb_lex] <;> first | omega | (simp [gb_ok] at h)
theorem gb_lex_args (b B : Nat) : ∀ (as : List Value) (i j : Nat) (v : Value), as.all gb_ok = true → (gb_lex as)[j]? = some v → gb_ok v = true → (i + j, gb_cv b B v) ∈ lv_args i (as.map (gb_cv b B))
  | [], i, j, v, _, h, _ => by simp [gb_lex] at h
  | .long x :: as, i, 0, v, ha, h, ho => by
    simp only [gb_lex, List.getElem?_cons_zero, Option.some.injEq] at h
    subst h
    simp [lv_args]
  | .long x :: as, i, 1, v, ha, h, ho => by
    simp only [gb_lex, List.getElem?_cons_succ, List.getElem?_cons_zero, Option.some.injEq] at h
    subst h
    simp [gb_ok] at ho
  | .long x :: as, i, j + 2, v, ha, h, ho => by
    simp only [gb_lex, List.getElem?_cons_succ] at h
    simp only [List.all_cons, Bool.and_eq_true] at ha
    have ih := gb_lex_args b B as (i + 2) j v ha.2 h ho
    simp only [List.map_cons, lv_args, gb_cv, Value.category, if_true]
    refine List.mem_cons_of_mem _ ?_
    rw [show i + (j + 2) = i + 2 + j by omega]
    exact ih
  | .int x :: as, i, 0, v, ha, h, ho => by
    simp only [gb_lex, List.getElem?_cons_zero, Option.some.injEq] at h
    subst h
    simp [lv_args]
  | .int x :: as, i, j + 1, v, ha, h, ho => by
    simp only [gb_lex, List.getElem?_cons_succ] at h
    simp only [List.all_cons, Bool.and_eq_true] at ha
    have ih := gb_lex_args b B as (i + 1) j v ha.2 h ho
    simp only [List.map_cons, lv_args, gb_cv, Value.category]
    refine List.mem_cons_of_mem _ ?_
    rw [show i + (j + 1) = i + 1 + j by omega]
    exact ih
  | .ref x :: as, i, 0, v, ha, h, ho => by
    simp only [gb_lex, List.getElem?_cons_zero, Option.some.injEq] at h
    subst h
    simp [lv_args]
  | .ref x :: as, i, j + 1, v, ha, h, ho => by
    simp only [gb_lex, List.getElem?_cons_succ] at h
    simp only [List.all_cons, Bool.and_eq_true] at ha
    have ih := gb_lex_args b B as (i + 1) j v ha.2 h ho
    simp only [List.map_cons, lv_args, gb_cv, Value.category]
    refine List.mem_cons_of_mem _ ?_
    rw [show i + (j + 1) = i + 1 + j by omega]
    exact ih
  | .retAddr x :: as, i, 0, v, ha, h, ho => by
    simp only [gb_lex, List.getElem?_cons_zero, Option.some.injEq] at h
    subst h
    simp [lv_args]
  | .retAddr x :: as, i, j + 1, v, ha, h, ho => by
    simp only [gb_lex, List.getElem?_cons_succ] at h
    simp only [List.all_cons, Bool.and_eq_true] at ha
    have ih := gb_lex_args b B as (i + 1) j v ha.2 h ho
    simp only [List.map_cons, lv_args, gb_cv, Value.category]
    refine List.mem_cons_of_mem _ ?_
    rw [show i + (j + 1) = i + 1 + j by omega]
    exact ih
  | .float x :: as, i, j, v, ha, h, ho => by simp [gb_ok] at ha
  | .double x :: as, i, j, v, ha, h, ho => by simp [gb_ok] at ha
  | .null :: as, i, j, v, ha, h, ho => by simp [gb_ok] at ha
theorem gb_ent_lv (b B : Nat) {as : List Value} {n : Nat} (ha : as.all gb_ok = true) (hn : (gb_lex as).length ≤ n) : gb_lv b B (lg_sl (as.map (gb_cv b B)) ++ List.replicate (n - (lg_sl (as.map (gb_cv b B))).length) Slot.unset).toArray n (gb_ent n as) := by
  refine ⟨by unfold gb_ent; simp; omega, ?_⟩
  have h := lv_entry (as.map (gb_cv b B)) (n := n) (by rw [gb_lex_len b B as ha]; exact hn)
  refine gb_has_sub h fun q hq => ?_
  obtain ⟨j, w⟩ := q
  obtain ⟨v, h1, h2, rfl⟩ := gb_al_mem.mp hq
  unfold gb_ent at h1
  by_cases hj : j < (gb_lex as).length
  · rw [List.getElem?_append_left hj] at h1
    have := gb_lex_args b B as 0 j v ha h1 h2
    rw [Nat.zero_add] at this
    exact this
  · rw [List.getElem?_append_right (by omega)] at h1
    have := List.eq_of_mem_replicate (List.mem_of_getElem? h1)
    subst this
    simp [gb_ok] at h2
theorem gb_stp_cl {i : Instr} {ls st : List Value} {P : gb_Pi} {g : gb_Sg} {q : Nat × Nat × List Value} (h : gb_stp i ls st P g = some (.inr (.inr (.inr q)))) : i = .invokeinterface q.1 q.2.1 ∧ q.2.2 = st ∧ gb_rcv q.1 (st.take q.2.1).reverse P = true := by
  cases i <;> simp only [gb_stp] at h <;> (repeat' split at h) <;> first | cases h | skip
  rename_i hc
  exact ⟨rfl, rfl, hc.2.2⟩
theorem gb_stp_rt {i : Instr} {ls st : List Value} {P : gb_Pi} {g : gb_Sg} {v : Value} (h : gb_stp i ls st P g = gb_rt v) : (i = .ireturn ∧ ∃ x, st = [.int x] ∧ v = .int x) ∨ (i = .areturn ∧ ∃ x, st = [.int x] ∧ v = .int x ∧ (x = 0 ∨ x = 1)) ∨ (i = .lreturn ∧ ∃ x, st = [.long x] ∧ v = .long x) ∨ (i = .return_ ∧ st = [] ∧ v = .null) := by
  cases i <;> simp only [gb_stp] at h <;> (repeat' split at h) <;> first | (cases h; exact Or.inl ⟨rfl, _, rfl, rfl⟩) | (cases h; rename_i hx; exact Or.inr (Or.inl ⟨rfl, _, rfl, rfl, hx⟩)) | (cases h; exact Or.inr (Or.inr (Or.inl ⟨rfl, _, rfl, rfl⟩))) | (cases h; exact Or.inr (Or.inr (Or.inr ⟨rfl, rfl, rfl⟩))) | cases h
section GBW
variable {p : Program} {l : Launch} {e : Env} {R : Room} {s : State} {m : MethodId} {args : Array Value} {below : List Frame} {meth : Method} {c : Code} {D : va_G} {b B k : Nat} {Q : State → Prop} {cells slots pc nx : Nat} {ls st ls' st' : List Value} {P P' : gb_Pi} {g g' : gb_Sg}
theorem gb_nxt {i : Instr} (C : gb_Ctx p R s m args meth c k) (hK : gb_K D s) (h : gb_chk k (i, pc, nx) = true) (hs : gb_stp i ls st P g = gb_nx ls' st' P' g') (hc : cells + (P'.length - P.length) ≤ R.cells) (hsl : slots + (gb_msl P' - gb_msl P) ≤ R.slots) (kk : gb_Go p l e R s m args below meth c D b B k Q (cells + (P'.length - P.length)) (slots + (gb_msl P' - gb_msl P)) (ls') (st') (nx) (P') (g')) : gb_Go p l e R s m args below meth c D b B k Q (cells) (slots) (ls) (st) (pc) (P) (g) := by
  have pure : P' = P → gb_Go p l e R s m args below meth c D b B k Q (cells) (slots) (ls') (st') (nx) (P') (g') := by
    intro e1
    rw [e1] at kk ⊢
    simpa using kk
  have hcc : cells ≤ R.cells := by omega
  have hss : slots ≤ R.slots := by omega
  cases i with
  | new n => exact gb_n_new C hK h hs hc hsl kk
  | newarray t => exact gb_n_newarray C h hs hc hsl kk
  | multianewarray t q => exact gb_n_multianewarray C hK h hs hc hsl kk
  | iload n => exact gb_n_iload C h hs (pure (by simp only [gb_stp] at hs; (repeat' split at hs) <;> cases hs <;> rfl))
  | lload n => exact gb_n_lload C h hs (pure (by simp only [gb_stp] at hs; (repeat' split at hs) <;> cases hs <;> rfl))
  | aload n => exact gb_n_aload C h hs (pure (by simp only [gb_stp] at hs; (repeat' split at hs) <;> cases hs <;> rfl))
  | istore n => exact gb_n_istore C h hs (pure (by simp only [gb_stp] at hs; (repeat' split at hs) <;> cases hs <;> rfl))
  | astore n => exact gb_n_astore C h hs (pure (by simp only [gb_stp] at hs; (repeat' split at hs) <;> cases hs <;> rfl))
  | lstore n => exact gb_n_lstore C h hs (pure (by simp only [gb_stp] at hs; (repeat' split at hs) <;> cases hs <;> rfl))
  | iinc n d => exact gb_n_iinc C h hs (pure (by simp only [gb_stp] at hs; (repeat' split at hs) <;> cases hs <;> rfl))
  | sipush d => exact gb_n_sipush C h hs (pure (by simp only [gb_stp] at hs; (repeat' split at hs) <;> cases hs <;> rfl))
  | bipush d => exact gb_n_bipush C h hs (pure (by simp only [gb_stp] at hs; (repeat' split at hs) <;> cases hs <;> rfl))
  | iadd => exact gb_n_iadd C h hs (pure (by simp only [gb_stp] at hs; (repeat' split at hs) <;> cases hs <;> rfl))
  | isub => exact gb_n_isub C h hs (pure (by simp only [gb_stp] at hs; (repeat' split at hs) <;> cases hs <;> rfl))
  | imul => exact gb_n_imul C h hs (pure (by simp only [gb_stp] at hs; (repeat' split at hs) <;> cases hs <;> rfl))
  | iand => exact gb_n_iand C h hs (pure (by simp only [gb_stp] at hs; (repeat' split at hs) <;> cases hs <;> rfl))
  | ior => exact gb_n_ior C h hs (pure (by simp only [gb_stp] at hs; (repeat' split at hs) <;> cases hs <;> rfl))
  | ixor => exact gb_n_ixor C h hs (pure (by simp only [gb_stp] at hs; (repeat' split at hs) <;> cases hs <;> rfl))
  | ishl => exact gb_n_ishl C h hs (pure (by simp only [gb_stp] at hs; (repeat' split at hs) <;> cases hs <;> rfl))
  | ishr => exact gb_n_ishr C h hs (pure (by simp only [gb_stp] at hs; (repeat' split at hs) <;> cases hs <;> rfl))
  | ladd => exact gb_n_ladd C h hs (pure (by simp only [gb_stp] at hs; (repeat' split at hs) <;> cases hs <;> rfl))
  | lsub => exact gb_n_lsub C h hs (pure (by simp only [gb_stp] at hs; (repeat' split at hs) <;> cases hs <;> rfl))
  | lmul => exact gb_n_lmul C h hs (pure (by simp only [gb_stp] at hs; (repeat' split at hs) <;> cases hs <;> rfl))
  | land => exact gb_n_land C h hs (pure (by simp only [gb_stp] at hs; (repeat' split at hs) <;> cases hs <;> rfl))
  | lor => exact gb_n_lor C h hs (pure (by simp only [gb_stp] at hs; (repeat' split at hs) <;> cases hs <;> rfl))
  | ineg => exact gb_n_ineg C h hs (pure (by simp only [gb_stp] at hs; (repeat' split at hs) <;> cases hs <;> rfl))
  | iushr => exact gb_n_iushr C h hs (pure (by simp only [gb_stp] at hs; (repeat' split at hs) <;> cases hs <;> rfl))
  | lushr => exact gb_n_lushr C h hs (pure (by simp only [gb_stp] at hs; (repeat' split at hs) <;> cases hs <;> rfl))
  | lshl => exact gb_n_lshl C h hs (pure (by simp only [gb_stp] at hs; (repeat' split at hs) <;> cases hs <;> rfl))
  | lshr => exact gb_n_lshr C h hs (pure (by simp only [gb_stp] at hs; (repeat' split at hs) <;> cases hs <;> rfl))
  | i2l => exact gb_n_i2l C h hs (pure (by simp only [gb_stp] at hs; (repeat' split at hs) <;> cases hs <;> rfl))
  | l2i => exact gb_n_l2i C h hs (pure (by simp only [gb_stp] at hs; (repeat' split at hs) <;> cases hs <;> rfl))
  | i2b => exact gb_n_i2b C h hs (pure (by simp only [gb_stp] at hs; (repeat' split at hs) <;> cases hs <;> rfl))
  | lcmp => exact gb_n_lcmp C h hs (pure (by simp only [gb_stp] at hs; (repeat' split at hs) <;> cases hs <;> rfl))
  | idiv => exact gb_n_idiv C h hs (pure (by simp only [gb_stp] at hs; (repeat' split at hs) <;> cases hs <;> rfl))
  | irem => exact gb_n_irem C h hs (pure (by simp only [gb_stp] at hs; (repeat' split at hs) <;> cases hs <;> rfl))
  | ldiv => exact gb_n_ldiv C h hs (pure (by simp only [gb_stp] at hs; (repeat' split at hs) <;> cases hs <;> rfl))
  | lrem => exact gb_n_lrem C h hs (pure (by simp only [gb_stp] at hs; (repeat' split at hs) <;> cases hs <;> rfl))
  | dup => exact gb_n_dup C h hs (pure (by simp only [gb_stp] at hs; (repeat' split at hs) <;> cases hs <;> rfl))
  | dup2 => exact gb_n_dup2 C h hs (pure (by simp only [gb_stp] at hs; (repeat' split at hs) <;> cases hs <;> rfl))
  | pop => exact gb_n_pop C h hs (pure (by simp only [gb_stp] at hs; (repeat' split at hs) <;> cases hs <;> rfl))
  | iaload => exact gb_n_iaload C h hs (pure (by simp only [gb_stp] at hs; (repeat' split at hs) <;> cases hs <;> rfl))
  | laload => exact gb_n_laload C h hs (pure (by simp only [gb_stp] at hs; (repeat' split at hs) <;> cases hs <;> rfl))
  | baload => exact gb_n_baload C h hs (pure (by simp only [gb_stp] at hs; (repeat' split at hs) <;> cases hs <;> rfl))
  | aaload => exact gb_n_aaload C h hs (pure (by simp only [gb_stp] at hs; (repeat' split at hs) <;> cases hs <;> rfl))
  | arraylength => exact gb_n_arraylength C h hs (pure (by simp only [gb_stp] at hs; (repeat' split at hs) <;> cases hs <;> rfl))
  | iastore => exact gb_n_iastore C h hs (pure (by simp only [gb_stp] at hs; (repeat' split at hs) <;> cases hs <;> rfl))
  | lastore => exact gb_n_lastore C h hs (pure (by simp only [gb_stp] at hs; (repeat' split at hs) <;> cases hs <;> rfl))
  | bastore => exact gb_n_bastore C h hs (pure (by simp only [gb_stp] at hs; (repeat' split at hs) <;> cases hs <;> rfl))
  | getfield n => exact gb_n_getfield C hK h hs (pure (by simp only [gb_stp] at hs; (repeat' split at hs) <;> cases hs <;> rfl))
  | putfield n => exact gb_n_putfield C hK h hs (pure (by simp only [gb_stp] at hs; (repeat' split at hs) <;> cases hs <;> rfl))
  | fadd => exact gb_n_fadd C h hs hcc hss (pure (by simp only [gb_stp] at hs; (repeat' split at hs) <;> cases hs <;> rfl))
  | fsub => exact gb_n_fsub C h hs hcc hss (pure (by simp only [gb_stp] at hs; (repeat' split at hs) <;> cases hs <;> rfl))
  | dadd => exact gb_n_dadd C h hs hcc hss (pure (by simp only [gb_stp] at hs; (repeat' split at hs) <;> cases hs <;> rfl))
  | ifCond cd t =>
    have e1 : P' = P := by simp only [gb_stp] at hs; (repeat' split at hs) <;> cases hs <;> rfl
    have kk1 := pure e1
    simp only [gb_stp] at hs
    split at hs
    · split at hs
      · cases hs
      · rename_i hcn
        cases hs
        exact gb_i_ifCond C h (fun z => absurd z hcn) (fun _ => kk1)
    · cases hs
  | if_icmp cd t =>
    have e1 : P' = P := by simp only [gb_stp] at hs; (repeat' split at hs) <;> cases hs <;> rfl
    have kk1 := pure e1
    simp only [gb_stp] at hs
    split at hs
    · split at hs
      · cases hs
      · rename_i hcn
        cases hs
        exact gb_i_if_icmp C h (fun z => absurd z hcn) (fun _ => kk1)
    · cases hs
  | _ => (simp only [gb_stp] at hs; (repeat' split at hs) <;> cases hs)
theorem gb_jmp {i : Instr} {tt : Nat} (C : gb_Ctx p R s m args meth c k) (h : gb_chk k (i, pc, nx) = true) (hs : gb_stp i ls st P g = gb_jp tt ls' st') (kk : ∀ q, (gb_pcs k)[tt]? = some q → gb_Go p l e R s m args below meth c D b B k Q (cells) (slots) (ls') (st') (q) (P) (g)) : gb_Go p l e R s m args below meth c D b B k Q (cells) (slots) (ls) (st) (pc) (P) (g) := by
  cases i with
  | goto t => exact gb_j_goto C h hs kk
  | lookupswitch d ps => exact gb_j_lookup C h hs kk
  | tableswitch d lo hi offs => exact gb_j_table C h hs kk
  | ifCond cd t =>
    simp only [gb_stp] at hs
    split at hs
    · split at hs
      · rename_i hcn
        cases hs
        exact gb_i_ifCond C h (fun _ => kk) (fun z => absurd hcn z)
      · cases hs
    · cases hs
  | if_icmp cd t =>
    simp only [gb_stp] at hs
    split at hs
    · split at hs
      · rename_i hcn
        cases hs
        exact gb_i_if_icmp C h (fun _ => kk) (fun z => absurd hcn z)
      · cases hs
    · cases hs
  | _ => (simp only [gb_stp] at hs; (repeat' split at hs) <;> cases hs)
end GBW
/-- what a run of n steps at the most does, the machine does -/
def gb_Walk (l : Launch) (D : va_G) (b B n : Nat) : Prop := ∀ (k j : Nat) (ls st : List Value) (P : gb_Pi) (g : gb_Sg) (v : Value) (P' : gb_Pi) (g' : gb_Sg), k < 188 → gb_run n k (gb_tgt k j) ls st P g = some (v, P', g') →
  ∀ (p : Program) (e : Env) (R : Room) (s : State) (m : MethodId) (args : Array Value) (below : List Frame) (meth : Method) (c : Code) (Q : State → Prop) (cells slots : Nat), gb_Ctx p R s m args meth c k → gb_K D s → cells + (P'.length - P.length) ≤ R.cells → slots + (gb_msl P' - gb_msl P) ≤ R.slots →
  (∀ (i : Instr) (ls1 st1 : List Value) (pc nx : Nat), gb_chk k (i, pc, nx) = true → gb_stp i ls1 st1 P' g' = gb_rt v → gb_Go p l e R s m args below meth c D b B k Q (cells + (P'.length - P.length)) (slots + (gb_msl P' - gb_msl P)) (ls1) (st1) (pc) (P') (g')) →
  ∀ pc, (gb_pcs k)[j]? = some pc → gb_Go p l e R s m args below meth c D b B k Q (cells) (slots) (ls) (st) (pc) (P) (g)
theorem gb_con {l : Launch} {D : va_G} {b B n : Nat} (ih : gb_Walk l D b B n) {y : Nat} {as : List Value} {P P' : gb_Pi} {g g' : gb_Sg} {v : Value} (h1 : 1 ≤ y) (h2 : y < 188) (hr : gb_run n y (gb_prog y) (gb_ent (gb_inf y).1 as) [] P g = some (v, P', g')) (ha : as.all gb_ok = true) (hn : (gb_lex as).length ≤ (gb_inf y).1) : gb_Con l D b B y as P g v P' g' := by
  have hmo := gb_mOK_at h1 h2
  unfold gb_mOK at hmo
  simp only [Bool.and_eq_true, decide_eq_true_eq] at hmo
  obtain ⟨⟨⟨⟨⟨m1, m2⟩, m3⟩, m4⟩, m5⟩, m6⟩ := hmo
  refine Met.ofW (cc := (gb_met y).2.1) (maxL := (gb_inf y).1) (ret := (gb_met y).2.2) m3 rfl ?_
  intro p e s m args below meth c s₁ Bd hml hv
  obtain ⟨rfl, hK, hR⟩ := hv
  have hts := atoms_spec (ws := gb_ws y) Bd.pre
  have hown : s.vm.findClass (gb_met y).1.cls = some m.cls := findClass_of_methodNamed Bd.named
  have hname : meth.name = (gb_met y).1.name := (name_of_methodNamed Bd.named Bd.method).1
  have C : gb_Ctx p (gb_rm y (P'.length - P.length) (gb_msl P' - gb_msl P)) s m ((as.map (gb_cv b B)).toArray) meth c y := by
    refine ⟨Bd.exec, Bd.bytes, Bd.returns, hml, by rw [← m1]; exact hown, fun w hw hg => hts w (List.mem_cons_of_mem _ (List.mem_filter.mpr ⟨hw, hg⟩)), fun hk2 => ?_, Nat.le_refl _, Nat.le_refl _, Bd.notSynchronized⟩
    rw [hk2] at m6
    simp only [Bool.and_eq_true, decide_eq_true_eq] at m6
    rw [hname]
    exact m6.1.1.1.1.2
  have h00 : (gb_pcs y)[0]? = some 0 := by
    have h := gb_rows_ok y h2
    unfold gb_rowsOK at h
    simp only [Bool.and_eq_true, decide_eq_true_eq] at h
    exact h.1.2
  have hl := gb_ent_lv b B (n := (gb_inf y).1) ha hn
  rw [lg_entry_eq]
  have hlocks := Bd.notSynchronized
  have key := ih y 0 (gb_ent (gb_inf y).1 as) [] P g v P' g' h2 hr p e (gb_rm y (P'.length - P.length) (gb_msl P' - gb_msl P)) s m ((as.map (gb_cv b B)).toArray) below meth c (MQ below (gb_Qc D b B v P' g') ((as.map (gb_cv b B)).toArray) s (P'.length - P.length) (gb_msl P' - gb_msl P) (fun q => B ≤ q)) 0 0 C hK (by rw [Nat.zero_add]; exact Nat.le_refl _) (by rw [Nat.zero_add]; exact Nat.le_refl _) ?_ 0 h00
  · exact key s.heap [] _ hl hR (fun q hq => by cases hq)
  · intro i ls1 st1 pc nx hchk hst
    rw [Nat.zero_add, Nat.zero_add]
    intro H locs lsC hl1 hR1 hL1
    obtain ⟨ci, len, hd, hci⟩ := gb_chk_spec hchk
    have hq : ∀ t : State, t.heap = H → s.WarmedH t.vm → gb_Qc D b B v P' g' ((as.map (gb_cv b B)).toArray) s (.returned (gb_rv b B v)) t := fun t ht hW => ⟨rfl, by rw [ht]; exact hR1.moved hW.alike⟩
    rcases gb_stp_rt hst with ⟨rfl, x, rfl, rfl⟩ | ⟨rfl, x, rfl, rfl, hx⟩ | ⟨rfl, x, rfl, rfl⟩ | ⟨rfl, rfl, rfl⟩
    · simp only [gb_chkI, Bool.and_eq_true, decide_eq_true_eq] at hci
      obtain ⟨⟨rfl, rfl⟩, hrt⟩ := hci
      exact W.iret C.1 C.2.1 (C.2.2.1.trans hrt) hq hL1 hd hlocks
    · simp only [gb_chkI, Bool.and_eq_true, decide_eq_true_eq] at hci
      obtain ⟨⟨rfl, rfl⟩, hrt⟩ := hci
      exact W.zret C.1 C.2.1 (C.2.2.1.trans hrt) (by rcases hx with rfl | rfl <;> rfl) hq hL1 hd hlocks
    · simp only [gb_chkI, Bool.and_eq_true, decide_eq_true_eq] at hci
      obtain ⟨⟨rfl, rfl⟩, hrt⟩ := hci
      exact W.lret C.1 C.2.1 (C.2.2.1.trans hrt) hq hL1 hd hlocks
    · simp only [gb_chkI, Bool.and_eq_true, decide_eq_true_eq] at hci
      obtain ⟨⟨rfl, rfl⟩, hrt⟩ := hci
      exact W.vret C.1 C.2.1 (C.2.2.1.trans hrt) hq hL1 hd hlocks
theorem gb_walk (l : Launch) (D : va_G) (b B : Nat) : ∀ n, gb_Walk l D b B n
  | 0 => fun k j ls st P g v P' g' _ h => by simp [gb_run] at h
  | n + 1 => by
    intro k j ls st P g v P' g' hk h p e R s m args below meth c Q cells slots C hK hc hsl hret pc hpc
    have ih := gb_walk l D b B n
    cases hi : gb_tgt k j with
    | nil => rw [hi] at h; simp [gb_run] at h
    | cons i r =>
      rw [hi] at h
      obtain ⟨nx, hchk, hnx, hr⟩ := gb_row_at hk hi hpc
      rw [gb_run] at h
      generalize ho : gb_stp i ls st P g = o at h
      match o, ho, h with
      | some (.inl (lsm, stm, Pm, gm)), ho, h =>
        dsimp only at h
        have hne : r ≠ [] := fun q => by rw [q] at h; cases n <;> simp [gb_run] at h
        obtain ⟨P1, e1⟩ := gb_stp_app ho
        obtain ⟨P2, e2⟩ := gb_run_app _ _ _ _ _ _ _ _ h
        dsimp only at e2
        obtain ⟨l1, s1⟩ := gb_len_of e1
        obtain ⟨l2, s2⟩ := gb_len_of e2
        refine gb_nxt C hK hchk ho (by omega) (by omega) ?_
        rw [hr] at h
        refine ih k (j + 1) _ _ _ _ v P' g' hk h p e R s m args below meth c Q _ _ C hK (by omega) (by omega) (fun i1 ls1 st1 pc1 nx1 h1 h2 => ?_) nx (hnx hne)
        have := hret i1 ls1 st1 pc1 nx1 h1 h2
        rw [show cells + (Pm.length - P.length) + (P'.length - Pm.length) = cells + (P'.length - P.length) by omega, show slots + (gb_msl Pm - gb_msl P) + (gb_msl P' - gb_msl Pm) = slots + (gb_msl P' - gb_msl P) by omega]
        exact this
      | some (.inr (.inl (tt, lsm, stm))), ho, h =>
        refine gb_jmp C hchk ho (fun pc2 hpc2 => ?_)
        exact ih k tt _ _ _ _ v P' g' hk h p e R s m args below meth c Q _ _ C hK hc hsl hret pc2 hpc2
      | some (.inr (.inr (.inl v1))), ho, h =>
        cases h
        have := hret i ls st pc nx hchk ho
        simpa using this
      | some (.inr (.inr (.inr q))), ho, h =>
        dsimp only at h
        obtain ⟨rfl, hq, hrc⟩ := gb_stp_cl ho
        obtain ⟨y, qn, st0⟩ := q
        dsimp only at hq hrc h hchk
        subst hq
        cases h1 : gb_run n y (gb_prog y) (gb_ent (gb_inf y).1 (st0.take qn).reverse) [] P g with
        | none => rw [h1] at h; cases h
        | some w =>
          rw [h1] at h
          obtain ⟨w1, w2, w3⟩ := w
          dsimp only at h
          have hne : r ≠ [] := fun q => by rw [q] at h; cases n <;> simp [gb_run] at h
          obtain ⟨P1, e1⟩ := gb_run_app _ _ _ _ _ _ _ _ h1
          obtain ⟨P2, e2⟩ := gb_run_app _ _ _ _ _ _ _ _ h
          dsimp only at e1 e2
          obtain ⟨l1, s1⟩ := gb_len_of e1
          obtain ⟨l2, s2⟩ := gb_len_of e2
          have hy : 1 ≤ y ∧ y < gb_metL.length := by
            obtain ⟨ci, len, hd, hci⟩ := gb_chk_spec hchk
            simp only [gb_chkI, Bool.and_eq_true, decide_eq_true_eq] at hci
            exact ⟨hci.1.1, hci.1.2.1⟩
          unfold gb_rcv at hrc
          simp only [Bool.and_eq_true, decide_eq_true_eq] at hrc
          have hcon := gb_con ih hy.1 hy.2 h1 hrc.1.1.2 hrc.1.2
          refine gb_c_call C hK hchk ho hcon (by omega) (by omega) ?_
          rw [hr] at h
          refine ih k (j + 1) _ _ _ _ v P' g' hk h p e R s m args below meth c Q _ _ C hK (by omega) (by omega) (fun i1 ls1 st1 pc1 nx1 h1 h2 => ?_) nx (hnx hne)
          have := hret i1 ls1 st1 pc1 nx1 h1 h2
          rw [show cells + (w2.length - P.length) + (P'.length - w2.length) = cells + (P'.length - P.length) by omega, show slots + (gb_msl w2 - gb_msl P) + (gb_msl P' - gb_msl w2) = slots + (gb_msl P' - gb_msl P) by omega]
          exact this
end
section
/-! THE CLAIM OUT OF ONE WALK OF THE LAW'S BODY. Your part is whole_start (and what it stands on); all else here is the same for every law, but numbers. -/
def R_law : String := "GaleBeachLaw"
def lw_P (b : Addr) (xs : List Int32) (args : Array Value) (s : State) : Prop := args = #[.ref b] ∧ s.IntsAt b xs ∧ xs.length ≤ 3072 ∧ (Jvm.Cond.and given_1 narrow_1).before args s = true
def lw_Q (_ : Array Value) (s : State) (o : Outcome) (t : State) : Prop := o = .returned (some (.int 1)) ∧ Framed s o t [] 600000 7302250
def lw_Z (below : List Frame) (a : Array Value) (s : State) : State → Prop := fun t => ∃ o, t.status = .running ∧ Ended t below o ∧ lw_Q a s o t
/-- the law's own end, with 1 on the stack, nothing written that was there before, its room as the claim has it -/
theorem lw_ret {p : Program} {l : Launch} {e : Env} {s : State} {m : MethodId} {below : List Frame} {meth : Method} {c : Code} {b : Nat} (hx : p.tables.exec = Jvm.exec) (hb : c.code = code) (hr : meth.sig.returnType = ret) (hlocks : meth.locks = false) {pc : Nat} {H : Heap} {ls : Array Slot} (hdg : decode code pc = .ok (.ireturn, 1)) : W p l e room_1 s m #[Value.ref b] below meth c H [] 600000 7302250 (lw_Z below #[Value.ref b] s) (F0 m pc ls [.int 1]) := by
  intro T hT X
  obtain ⟨fs, hret, hrun, hended, hW, hframe⟩ := X.leave (v := some (.int 1)) (hlocks := hlocks) (fun h => by rw [hr] at h; cases h)
  have hmeth' : T.vm.method? m = some meth := X.method'
  refine ⟨T.setFrames fs, ?_, .returned (some (.int 1)), hrun, hended, rfl, ⟨_, rfl⟩, hW, hframe⟩
  jvm_step X.here [X.here.top, hx, hb, hdg, hmeth', hr, ret, narrow_b1]
  (try refine ⟨rfl, ?_⟩); (try refine ⟨rfl, ?_⟩)
  first | (intro acts; rw [hret _ acts rfl rfl rfl]) | rw [hret _ _ rfl rfl rfl]
  exact Steps.refl _
/-- what holds at the law's entry: the machine, the code, the tables' words (any of lw_tbl by 'hts w (by decide +kernel)'), the script of L ints xs at the cell b, what the Statement gives of the start (any of its parts by flat_of_before) -/
def lw_At (p : Program) (s : State) (m : MethodId) (meth : Method) (c : Code) (b L : Nat) (xs : Nat → Int32) : Prop :=
  p.tables.exec = Jvm.exec ∧ c.code = code ∧ meth.sig.returnType = ret ∧ c.maxLocals = 4 ∧ s.vm.findClass R_law = some m.cls ∧ (∀ w ∈ lw_tbl, w.before #[Value.ref b] s = true) ∧ va_X b L xs s s.heap ∧ b < s.heap.size ∧ meth.locks = false ∧ (Jvm.Cond.and given_1 narrow_1).before #[Value.ref b] s = true
/-- the small machine before the law: no cell, the script -/
def gb_g0 (L : Nat) (xs : Nat → Int32) : gb_Sg := (fun _ _ => 0, fun _ _ => 0, fun _ _ => none, L, xs)
set_option maxHeartbeats 4000000 in
set_option maxRecDepth 100000 in
/-- the law's walk out of the small machine's -/
theorem gb_start {p : Program} {e : Env} {s : State} {m : MethodId} {below : List Frame} {meth : Method} {c : Code} (l : Launch) {b L : Nat} {xs : Nat → Int32} {P' : gb_Pi} {g' : gb_Sg} (hlaw : gb_call 0 [.retAddr 0] [] (gb_g0 L xs) = some (.int 1, P', g')) (hc : P'.length ≤ 600000) (hsl : gb_msl P' ≤ 7302250) (C0 : lw_At p s m meth c b L xs) : W p l e room_1 s m #[Value.ref b] below meth c s.heap [] 0 0 (lw_Z below #[Value.ref b] s) (entryFrame m ([Value.ref b] : List Value).toArray 4) := by
  obtain ⟨hx, hb, hr, hml, hown, hts, hX, hbl, hlocks, hgv⟩ := id C0
  have hk : ∀ n : Nat, ∃ (cC : ClassId) (iS : Nat → Nat), ∀ q : vw_C, gb_cls[n]? = some q → u_Kn s q.1 q.2.1 q.2.2 cC iS := by
    intro n
    cases hq : gb_cls[n]? with
    | none => exact ⟨0, fun _ => 0, fun q h => by cases h⟩
    | some q =>
      obtain ⟨e1, e2, e3, hin, -⟩ := gb_clsOK n q hq
      have hn : n < 11 := (List.getElem?_eq_some_iff.mp hq).1
      have hi := hts _ (gb_ins_ok n (List.mem_range.mpr hn))
      rw [← e1] at hi
      obtain ⟨cC, iS, h⟩ := u_known (C := q.1) (T := q.2.1) (N := q.2.2) hts hin hi
      exact ⟨cC, iS, fun q' h' => by cases h'; exact h⟩
  obtain ⟨D, hD⟩ : ∃ D : va_G, ∀ (n : Nat) (q : vw_C), gb_cls[n]? = some q → u_Kn s q.1 q.2.1 q.2.2 (D.1 n) (D.2 n) :=
    ⟨(fun n => (hk n).choose, fun n => (hk n).choose_spec.choose), fun n q h => (hk n).choose_spec.choose_spec q h⟩
  have hK : gb_K D s := by
    refine ⟨hD, fun x hx hn => ?_, hts _ gb_ovr_int, hts _ gb_ovr_long⟩
    have h1 := hts _ (gb_mtab_ok x hx)
    unfold gb_wM at h1 ⊢
    rw [if_pos hn] at h1 ⊢
    exact va_Nw.of rfl h1
  have C : gb_Ctx p room_1 s m #[Value.ref b] meth c 0 :=
    ⟨hx, hb, hr, hml, hown, fun w hw _ => hts w hw, fun h => absurd h (by decide), by decide, by decide, hlocks⟩
  have hR : gb_Rep D b s.heap.size s s.heap [] (gb_g0 L xs) := ⟨rfl, hbl, hX, fun i q h => by simp at h⟩
  obtain ⟨n, hn⟩ := gb_ex_iff.mp hlaw
  have h00 : (gb_pcs 0)[0]? = some 0 := by
    have h := gb_rows_ok 0 (by decide)
    unfold gb_rowsOK at h
    simp only [Bool.and_eq_true, decide_eq_true_eq] at h
    exact h.1.2
  have hl := gb_ent_lv b s.heap.size (as := [.retAddr 0]) (n := 4) rfl (by decide)
  rw [lg_entry_eq]
  have key := gb_walk l D b s.heap.size n 0 0 _ _ _ _ (.int 1) P' g' (by decide) hn p e room_1 s m #[Value.ref b] below meth c (lw_Z below #[Value.ref b] s) 0 0 C hK (by rw [Nat.zero_add]; exact Nat.le_trans (Nat.sub_le _ _) hc) (by rw [Nat.zero_add]; exact Nat.le_trans (Nat.sub_le _ _) hsl) ?_ 0 h00
  · exact key s.heap [] _ hl hR (fun q hq => by cases hq)
  · intro i ls1 st1 pc nx hchk hst H locs lsC hl1 hR1 hL1
    obtain ⟨ci, len, hd, hci⟩ := gb_chk_spec hchk
    refine va_forget hL1 ?_
    refine W.widen (k := 600000) (n := 7302250) (by rw [Nat.zero_add]; exact Nat.le_trans (Nat.sub_le _ _) hc) (by rw [Nat.zero_add]; exact Nat.le_trans (Nat.sub_le _ _) hsl) ?_
    rcases gb_stp_rt hst with ⟨rfl, x, rfl, hv⟩ | ⟨rfl, x, rfl, hv, hx2⟩ | ⟨rfl, x, rfl, hv⟩ | ⟨rfl, rfl, hv⟩
    · cases hv
      simp only [gb_chkI, Bool.and_eq_true, decide_eq_true_eq] at hci
      obtain ⟨⟨rfl, rfl⟩, -⟩ := hci
      exact lw_ret hx hb hr hlocks hd
    · cases hv
      simp only [gb_chkI, Bool.and_eq_true, decide_eq_true_eq] at hci
      obtain ⟨⟨rfl, rfl⟩, -⟩ := hci
      exact lw_ret hx hb hr hlocks hd
    · cases hv
    · cases hv
end
section
/-! THE WORLD behind the two constructors: which cells there are, and which references never change -/
def gb_pG : gb_Pi := [(19, 10), (15, 4), (1, 400), (11, 5), (2, 8), (4, 8), (0, 110), (0, 110), (0, 110), (0, 110), (0, 110), (0, 110), (0, 110), (0, 110), (4, 8), (0, 110), (0, 110), (0, 110), (0, 110), (0, 110), (0, 110), (0, 110), (0, 110), (16, 16), (0, 12), (0, 12), (0, 12), (0, 24), (0, 24), (0, 24), (0, 24), (2, 24), (0, 20), (0, 2), (0, 2), (0, 2), (13, 2), (0, 8), (2, 256), (14, 5), (4, 6), (0, 16), (0, 16), (0, 16), (0, 16), (0, 16), (0, 16), (0, 8), (4, 8), (0, 16), (0, 16), (0, 16), (0, 16), (0, 16), (0, 16), (0, 16), (0, 16), (3, 16), (5, 4), (3, 17), (3, 17), (3, 17), (3, 17), (17, 4), (4, 6), (0, 8), (0, 8), (0, 8), (0, 8), (0, 8), (0, 8), (4, 6), (0, 4), (0, 4), (0, 4), (0, 4), (0, 4), (0, 4), (0, 6), (0, 256), (10, 14), (0, 5), (18, 8), (0, 12), (0, 12), (0, 12), (0, 12), (0, 12), (0, 6), (0, 6), (0, 6), (0, 6), (0, 8), (0, 8), (0, 8), (0, 8), (0, 8), (10, 14), (0, 5), (18, 8), (0, 12), (0, 12), (0, 12), (0, 12), (0, 12), (0, 6), (0, 6), (0, 6), (0, 6), (0, 8), (0, 8), (0, 8), (0, 8), (0, 8), (12, 8), (0, 10), (4, 10), (0, 3), (0, 3), (0, 3), (0, 3), (0, 3), (0, 3), (0, 3), (0, 3), (0, 3), (0, 3), (4, 10), (0, 3), (0, 3), (0, 3), (0, 3), (0, 3), (0, 3), (0, 3), (0, 3), (0, 3), (0, 3), (4, 10), (0, 3), (0, 3), (0, 3), (0, 3), (0, 3), (0, 3), (0, 3), (0, 3), (0, 3), (0, 3), (0, 10), (0, 10), (0, 10), (12, 8), (0, 10), (4, 10), (0, 3), (0, 3), (0, 3), (0, 3), (0, 3), (0, 3), (0, 3), (0, 3), (0, 3), (0, 3), (4, 10), (0, 3), (0, 3), (0, 3), (0, 3), (0, 3), (0, 3), (0, 3), (0, 3), (0, 3), (0, 3), (4, 10), (0, 3), (0, 3), (0, 3), (0, 3), (0, 3), (0, 3), (0, 3), (0, 3), (0, 3), (0, 3), (0, 10), (0, 10), (0, 10), (20, 36), (1, 400), (0, 2), (0, 2), (0, 48), (0, 2), (0, 72), (0, 2), (0, 48), (0, 2), (0, 80), (0, 2), (0, 260), (0, 8), (0, 880), (0, 880), (0, 3), (0, 108), (0, 3), (0, 360), (0, 3), (0, 60), (0, 48), (0, 6), (0, 12), (0, 3), (0, 3), (0, 256), (0, 256), (3, 16)]
/-- where the references point: q.1: beach and spareBeach have changed places; q.2: laidLaw and spareLaw -/
def gb_bb (q : Bool × Bool) : Nat := if q.1 then 97 else 80
def gb_bs (q : Bool × Bool) : Nat := if q.1 then 80 else 97
def gb_lb (q : Bool × Bool) : Nat := if q.2 then 152 else 114
def gb_lq (q : Bool × Bool) : Nat := if q.2 then 114 else 152
def gb_Rl : List (Nat × Nat × Nat) := [(0, 0, 1), (0, 1, 3), (0, 2, 23), (0, 3, 36), (0, 4, 39), (0, 5, 63), (1, 0, 2), (3, 2, 4), (3, 3, 5), (3, 4, 14), (23, 1, 24), (23, 2, 25), (23, 3, 26), (23, 5, 27), (23, 6, 28), (23, 7, 29), (23, 8, 30), (23, 9, 31), (23, 11, 32), (23, 13, 33), (23, 14, 34), (23, 15, 35), (36, 0, 37), (36, 1, 38), (39, 0, 40), (39, 1, 47), (39, 2, 48), (39, 3, 57), (39, 4, 58), (63, 0, 64), (63, 1, 71), (63, 2, 78), (63, 3, 79), (80, 0, 81), (80, 2, 82), (80, 4, 88), (80, 5, 89), (80, 6, 90), (80, 7, 91), (80, 9, 92), (80, 10, 93), (80, 11, 94), (80, 12, 95), (80, 13, 96), (82, 1, 83), (82, 2, 84), (82, 5, 85), (82, 6, 86), (82, 7, 87), (97, 0, 98), (97, 2, 99), (97, 4, 105), (97, 5, 106), (97, 6, 107), (97, 7, 108), (97, 9, 109), (97, 10, 110), (97, 11, 111), (97, 12, 112), (97, 13, 113), (99, 1, 100), (99, 2, 101), (99, 5, 102), (99, 6, 103), (99, 7, 104), (114, 1, 115), (114, 2, 116), (114, 3, 127), (114, 4, 138), (114, 5, 149), (114, 6, 150), (114, 7, 151), (152, 1, 153), (152, 2, 154), (152, 3, 165), (152, 4, 176), (152, 5, 187), (152, 6, 188), (152, 7, 189), (190, 1, 191), (190, 3, 192), (190, 4, 193), (190, 5, 194), (190, 6, 195), (190, 7, 196), (190, 8, 197), (190, 9, 198), (190, 10, 199), (190, 11, 200), (190, 12, 201), (190, 13, 202), (190, 14, 203), (190, 15, 204), (190, 16, 205), (190, 19, 206), (190, 20, 207), (190, 21, 208), (190, 22, 209), (190, 23, 210), (190, 24, 211), (190, 25, 212), (190, 26, 213), (190, 27, 214), (190, 28, 215), (190, 29, 216), (190, 30, 217), (190, 31, 218), (190, 35, 219)]
def gb_Rm : List (Nat × Nat × Nat) := [(5, 8, 6), (14, 8, 15), (40, 6, 41), (48, 8, 49), (58, 4, 59), (64, 6, 65), (71, 6, 72), (116, 10, 117), (127, 10, 128), (138, 10, 139), (154, 10, 155), (165, 10, 166), (176, 10, 177)]
def gb_Rw (q : Bool × Bool) (a k : Nat) : Option Nat :=
  if a = 0 ∧ k = 6 then some (gb_bb q) else if a = 0 ∧ k = 7 then some (gb_bs q) else if a = 0 ∧ k = 8 then some (gb_lb q) else if a = 0 ∧ k = 9 then some (gb_lq q) else
  match gb_Rm.find? (fun e => e.1 == a) with
  | some e => if k < e.2.1 then some (e.2.2 + k) else none
  | none => (gb_Rl.find? (fun e => e.1 == a && e.2.1 == k)).map (fun e => e.2.2)
theorem rw_0_0 (q : Bool × Bool) : gb_Rw q 0 0 = some 1 := rfl
theorem rw_0_1 (q : Bool × Bool) : gb_Rw q 0 1 = some 3 := rfl
theorem rw_0_2 (q : Bool × Bool) : gb_Rw q 0 2 = some 23 := rfl
theorem rw_0_3 (q : Bool × Bool) : gb_Rw q 0 3 = some 36 := rfl
theorem rw_0_4 (q : Bool × Bool) : gb_Rw q 0 4 = some 39 := rfl
theorem rw_0_5 (q : Bool × Bool) : gb_Rw q 0 5 = some 63 := rfl
theorem rw_0_6 (q : Bool × Bool) : gb_Rw q 0 6 = some (gb_bb q) := rfl
theorem rw_0_7 (q : Bool × Bool) : gb_Rw q 0 7 = some (gb_bs q) := rfl
theorem rw_0_8 (q : Bool × Bool) : gb_Rw q 0 8 = some (gb_lb q) := rfl
theorem rw_0_9 (q : Bool × Bool) : gb_Rw q 0 9 = some (gb_lq q) := rfl
theorem rw_1_0 (q : Bool × Bool) : gb_Rw q 1 0 = some 2 := rfl
theorem rw_3_2 (q : Bool × Bool) : gb_Rw q 3 2 = some 4 := rfl
theorem rw_3_3 (q : Bool × Bool) : gb_Rw q 3 3 = some 5 := rfl
theorem rw_3_4 (q : Bool × Bool) : gb_Rw q 3 4 = some 14 := rfl
theorem rw_23_1 (q : Bool × Bool) : gb_Rw q 23 1 = some 24 := rfl
theorem rw_23_2 (q : Bool × Bool) : gb_Rw q 23 2 = some 25 := rfl
theorem rw_23_3 (q : Bool × Bool) : gb_Rw q 23 3 = some 26 := rfl
theorem rw_23_5 (q : Bool × Bool) : gb_Rw q 23 5 = some 27 := rfl
theorem rw_23_6 (q : Bool × Bool) : gb_Rw q 23 6 = some 28 := rfl
theorem rw_23_7 (q : Bool × Bool) : gb_Rw q 23 7 = some 29 := rfl
theorem rw_23_8 (q : Bool × Bool) : gb_Rw q 23 8 = some 30 := rfl
theorem rw_23_9 (q : Bool × Bool) : gb_Rw q 23 9 = some 31 := rfl
theorem rw_23_11 (q : Bool × Bool) : gb_Rw q 23 11 = some 32 := rfl
theorem rw_23_13 (q : Bool × Bool) : gb_Rw q 23 13 = some 33 := rfl
theorem rw_23_14 (q : Bool × Bool) : gb_Rw q 23 14 = some 34 := rfl
theorem rw_23_15 (q : Bool × Bool) : gb_Rw q 23 15 = some 35 := rfl
theorem rw_36_0 (q : Bool × Bool) : gb_Rw q 36 0 = some 37 := rfl
theorem rw_36_1 (q : Bool × Bool) : gb_Rw q 36 1 = some 38 := rfl
theorem rw_39_0 (q : Bool × Bool) : gb_Rw q 39 0 = some 40 := rfl
theorem rw_39_1 (q : Bool × Bool) : gb_Rw q 39 1 = some 47 := rfl
theorem rw_39_2 (q : Bool × Bool) : gb_Rw q 39 2 = some 48 := rfl
theorem rw_39_3 (q : Bool × Bool) : gb_Rw q 39 3 = some 57 := rfl
theorem rw_39_4 (q : Bool × Bool) : gb_Rw q 39 4 = some 58 := rfl
theorem rw_63_0 (q : Bool × Bool) : gb_Rw q 63 0 = some 64 := rfl
theorem rw_63_1 (q : Bool × Bool) : gb_Rw q 63 1 = some 71 := rfl
theorem rw_63_2 (q : Bool × Bool) : gb_Rw q 63 2 = some 78 := rfl
theorem rw_63_3 (q : Bool × Bool) : gb_Rw q 63 3 = some 79 := rfl
theorem rw_80_0 (q : Bool × Bool) : gb_Rw q 80 0 = some 81 := rfl
theorem rw_80_2 (q : Bool × Bool) : gb_Rw q 80 2 = some 82 := rfl
theorem rw_80_4 (q : Bool × Bool) : gb_Rw q 80 4 = some 88 := rfl
theorem rw_80_5 (q : Bool × Bool) : gb_Rw q 80 5 = some 89 := rfl
theorem rw_80_6 (q : Bool × Bool) : gb_Rw q 80 6 = some 90 := rfl
theorem rw_80_7 (q : Bool × Bool) : gb_Rw q 80 7 = some 91 := rfl
theorem rw_80_9 (q : Bool × Bool) : gb_Rw q 80 9 = some 92 := rfl
theorem rw_80_10 (q : Bool × Bool) : gb_Rw q 80 10 = some 93 := rfl
theorem rw_80_11 (q : Bool × Bool) : gb_Rw q 80 11 = some 94 := rfl
theorem rw_80_12 (q : Bool × Bool) : gb_Rw q 80 12 = some 95 := rfl
theorem rw_80_13 (q : Bool × Bool) : gb_Rw q 80 13 = some 96 := rfl
theorem rw_82_1 (q : Bool × Bool) : gb_Rw q 82 1 = some 83 := rfl
theorem rw_82_2 (q : Bool × Bool) : gb_Rw q 82 2 = some 84 := rfl
theorem rw_82_5 (q : Bool × Bool) : gb_Rw q 82 5 = some 85 := rfl
theorem rw_82_6 (q : Bool × Bool) : gb_Rw q 82 6 = some 86 := rfl
theorem rw_82_7 (q : Bool × Bool) : gb_Rw q 82 7 = some 87 := rfl
theorem rw_97_0 (q : Bool × Bool) : gb_Rw q 97 0 = some 98 := rfl
theorem rw_97_2 (q : Bool × Bool) : gb_Rw q 97 2 = some 99 := rfl
theorem rw_97_4 (q : Bool × Bool) : gb_Rw q 97 4 = some 105 := rfl
theorem rw_97_5 (q : Bool × Bool) : gb_Rw q 97 5 = some 106 := rfl
theorem rw_97_6 (q : Bool × Bool) : gb_Rw q 97 6 = some 107 := rfl
theorem rw_97_7 (q : Bool × Bool) : gb_Rw q 97 7 = some 108 := rfl
theorem rw_97_9 (q : Bool × Bool) : gb_Rw q 97 9 = some 109 := rfl
theorem rw_97_10 (q : Bool × Bool) : gb_Rw q 97 10 = some 110 := rfl
theorem rw_97_11 (q : Bool × Bool) : gb_Rw q 97 11 = some 111 := rfl
theorem rw_97_12 (q : Bool × Bool) : gb_Rw q 97 12 = some 112 := rfl
theorem rw_97_13 (q : Bool × Bool) : gb_Rw q 97 13 = some 113 := rfl
theorem rw_99_1 (q : Bool × Bool) : gb_Rw q 99 1 = some 100 := rfl
theorem rw_99_2 (q : Bool × Bool) : gb_Rw q 99 2 = some 101 := rfl
theorem rw_99_5 (q : Bool × Bool) : gb_Rw q 99 5 = some 102 := rfl
theorem rw_99_6 (q : Bool × Bool) : gb_Rw q 99 6 = some 103 := rfl
theorem rw_99_7 (q : Bool × Bool) : gb_Rw q 99 7 = some 104 := rfl
theorem rw_114_1 (q : Bool × Bool) : gb_Rw q 114 1 = some 115 := rfl
theorem rw_114_2 (q : Bool × Bool) : gb_Rw q 114 2 = some 116 := rfl
theorem rw_114_3 (q : Bool × Bool) : gb_Rw q 114 3 = some 127 := rfl
theorem rw_114_4 (q : Bool × Bool) : gb_Rw q 114 4 = some 138 := rfl
theorem rw_114_5 (q : Bool × Bool) : gb_Rw q 114 5 = some 149 := rfl
theorem rw_114_6 (q : Bool × Bool) : gb_Rw q 114 6 = some 150 := rfl
theorem rw_114_7 (q : Bool × Bool) : gb_Rw q 114 7 = some 151 := rfl
theorem rw_152_1 (q : Bool × Bool) : gb_Rw q 152 1 = some 153 := rfl
theorem rw_152_2 (q : Bool × Bool) : gb_Rw q 152 2 = some 154 := rfl
theorem rw_152_3 (q : Bool × Bool) : gb_Rw q 152 3 = some 165 := rfl
theorem rw_152_4 (q : Bool × Bool) : gb_Rw q 152 4 = some 176 := rfl
theorem rw_152_5 (q : Bool × Bool) : gb_Rw q 152 5 = some 187 := rfl
theorem rw_152_6 (q : Bool × Bool) : gb_Rw q 152 6 = some 188 := rfl
theorem rw_152_7 (q : Bool × Bool) : gb_Rw q 152 7 = some 189 := rfl
theorem rw_190_1 (q : Bool × Bool) : gb_Rw q 190 1 = some 191 := rfl
theorem rw_190_3 (q : Bool × Bool) : gb_Rw q 190 3 = some 192 := rfl
theorem rw_190_4 (q : Bool × Bool) : gb_Rw q 190 4 = some 193 := rfl
theorem rw_190_5 (q : Bool × Bool) : gb_Rw q 190 5 = some 194 := rfl
theorem rw_190_6 (q : Bool × Bool) : gb_Rw q 190 6 = some 195 := rfl
theorem rw_190_7 (q : Bool × Bool) : gb_Rw q 190 7 = some 196 := rfl
theorem rw_190_8 (q : Bool × Bool) : gb_Rw q 190 8 = some 197 := rfl
theorem rw_190_9 (q : Bool × Bool) : gb_Rw q 190 9 = some 198 := rfl
theorem rw_190_10 (q : Bool × Bool) : gb_Rw q 190 10 = some 199 := rfl
theorem rw_190_11 (q : Bool × Bool) : gb_Rw q 190 11 = some 200 := rfl
theorem rw_190_12 (q : Bool × Bool) : gb_Rw q 190 12 = some 201 := rfl
theorem rw_190_13 (q : Bool × Bool) : gb_Rw q 190 13 = some 202 := rfl
theorem rw_190_14 (q : Bool × Bool) : gb_Rw q 190 14 = some 203 := rfl
theorem rw_190_15 (q : Bool × Bool) : gb_Rw q 190 15 = some 204 := rfl
theorem rw_190_16 (q : Bool × Bool) : gb_Rw q 190 16 = some 205 := rfl
theorem rw_190_19 (q : Bool × Bool) : gb_Rw q 190 19 = some 206 := rfl
theorem rw_190_20 (q : Bool × Bool) : gb_Rw q 190 20 = some 207 := rfl
theorem rw_190_21 (q : Bool × Bool) : gb_Rw q 190 21 = some 208 := rfl
theorem rw_190_22 (q : Bool × Bool) : gb_Rw q 190 22 = some 209 := rfl
theorem rw_190_23 (q : Bool × Bool) : gb_Rw q 190 23 = some 210 := rfl
theorem rw_190_24 (q : Bool × Bool) : gb_Rw q 190 24 = some 211 := rfl
theorem rw_190_25 (q : Bool × Bool) : gb_Rw q 190 25 = some 212 := rfl
theorem rw_190_26 (q : Bool × Bool) : gb_Rw q 190 26 = some 213 := rfl
theorem rw_190_27 (q : Bool × Bool) : gb_Rw q 190 27 = some 214 := rfl
theorem rw_190_28 (q : Bool × Bool) : gb_Rw q 190 28 = some 215 := rfl
theorem rw_190_29 (q : Bool × Bool) : gb_Rw q 190 29 = some 216 := rfl
theorem rw_190_30 (q : Bool × Bool) : gb_Rw q 190 30 = some 217 := rfl
theorem rw_190_31 (q : Bool × Bool) : gb_Rw q 190 31 = some 218 := rfl
theorem rw_190_35 (q : Bool × Bool) : gb_Rw q 190 35 = some 219 := rfl
theorem rw_5 (q : Bool × Bool) {k : Nat} (h : k < 8) : gb_Rw q 5 k = some (6 + k) := by
  show (if k < 8 then some (6 + k) else none) = _
  rw [if_pos h]
theorem rw_14 (q : Bool × Bool) {k : Nat} (h : k < 8) : gb_Rw q 14 k = some (15 + k) := by
  show (if k < 8 then some (15 + k) else none) = _
  rw [if_pos h]
theorem rw_40 (q : Bool × Bool) {k : Nat} (h : k < 6) : gb_Rw q 40 k = some (41 + k) := by
  show (if k < 6 then some (41 + k) else none) = _
  rw [if_pos h]
theorem rw_48 (q : Bool × Bool) {k : Nat} (h : k < 8) : gb_Rw q 48 k = some (49 + k) := by
  show (if k < 8 then some (49 + k) else none) = _
  rw [if_pos h]
theorem rw_58 (q : Bool × Bool) {k : Nat} (h : k < 4) : gb_Rw q 58 k = some (59 + k) := by
  show (if k < 4 then some (59 + k) else none) = _
  rw [if_pos h]
theorem rw_64 (q : Bool × Bool) {k : Nat} (h : k < 6) : gb_Rw q 64 k = some (65 + k) := by
  show (if k < 6 then some (65 + k) else none) = _
  rw [if_pos h]
theorem rw_71 (q : Bool × Bool) {k : Nat} (h : k < 6) : gb_Rw q 71 k = some (72 + k) := by
  show (if k < 6 then some (72 + k) else none) = _
  rw [if_pos h]
theorem rw_116 (q : Bool × Bool) {k : Nat} (h : k < 10) : gb_Rw q 116 k = some (117 + k) := by
  show (if k < 10 then some (117 + k) else none) = _
  rw [if_pos h]
theorem rw_127 (q : Bool × Bool) {k : Nat} (h : k < 10) : gb_Rw q 127 k = some (128 + k) := by
  show (if k < 10 then some (128 + k) else none) = _
  rw [if_pos h]
theorem rw_138 (q : Bool × Bool) {k : Nat} (h : k < 10) : gb_Rw q 138 k = some (139 + k) := by
  show (if k < 10 then some (139 + k) else none) = _
  rw [if_pos h]
theorem rw_154 (q : Bool × Bool) {k : Nat} (h : k < 10) : gb_Rw q 154 k = some (155 + k) := by
  show (if k < 10 then some (155 + k) else none) = _
  rw [if_pos h]
theorem rw_165 (q : Bool × Bool) {k : Nat} (h : k < 10) : gb_Rw q 165 k = some (166 + k) := by
  show (if k < 10 then some (166 + k) else none) = _
  rw [if_pos h]
theorem rw_176 (q : Bool × Bool) {k : Nat} (h : k < 10) : gb_Rw q 176 k = some (177 + k) := by
  show (if k < 10 then some (177 + k) else none) = _
  rw [if_pos h]
theorem at_0 : atag gb_pG 0 = 19 := congrArg id rfl
theorem at_1 : atag gb_pG 1 = 15 := congrArg id rfl
theorem at_2 : atag gb_pG 2 = 1 := congrArg id rfl
theorem al_2 : alen gb_pG 2 = 400 := congrArg id rfl
theorem at_3 : atag gb_pG 3 = 11 := congrArg id rfl
theorem at_4 : atag gb_pG 4 = 2 := congrArg id rfl
theorem al_4 : alen gb_pG 4 = 8 := congrArg id rfl
theorem at_5 : atag gb_pG 5 = 4 := congrArg id rfl
theorem al_5 : alen gb_pG 5 = 8 := congrArg id rfl
theorem at_6 : atag gb_pG 6 = 0 := congrArg id rfl
theorem al_6 : alen gb_pG 6 = 110 := congrArg id rfl
theorem at_7 : atag gb_pG 7 = 0 := congrArg id rfl
theorem al_7 : alen gb_pG 7 = 110 := congrArg id rfl
theorem at_8 : atag gb_pG 8 = 0 := congrArg id rfl
theorem al_8 : alen gb_pG 8 = 110 := congrArg id rfl
theorem at_9 : atag gb_pG 9 = 0 := congrArg id rfl
theorem al_9 : alen gb_pG 9 = 110 := congrArg id rfl
theorem at_10 : atag gb_pG 10 = 0 := congrArg id rfl
theorem al_10 : alen gb_pG 10 = 110 := congrArg id rfl
theorem at_11 : atag gb_pG 11 = 0 := congrArg id rfl
theorem al_11 : alen gb_pG 11 = 110 := congrArg id rfl
theorem at_12 : atag gb_pG 12 = 0 := congrArg id rfl
theorem al_12 : alen gb_pG 12 = 110 := congrArg id rfl
theorem at_13 : atag gb_pG 13 = 0 := congrArg id rfl
theorem al_13 : alen gb_pG 13 = 110 := congrArg id rfl
theorem at_14 : atag gb_pG 14 = 4 := congrArg id rfl
theorem al_14 : alen gb_pG 14 = 8 := congrArg id rfl
theorem at_15 : atag gb_pG 15 = 0 := congrArg id rfl
theorem al_15 : alen gb_pG 15 = 110 := congrArg id rfl
theorem at_16 : atag gb_pG 16 = 0 := congrArg id rfl
theorem al_16 : alen gb_pG 16 = 110 := congrArg id rfl
theorem at_17 : atag gb_pG 17 = 0 := congrArg id rfl
theorem al_17 : alen gb_pG 17 = 110 := congrArg id rfl
theorem at_18 : atag gb_pG 18 = 0 := congrArg id rfl
theorem al_18 : alen gb_pG 18 = 110 := congrArg id rfl
theorem at_19 : atag gb_pG 19 = 0 := congrArg id rfl
theorem al_19 : alen gb_pG 19 = 110 := congrArg id rfl
theorem at_20 : atag gb_pG 20 = 0 := congrArg id rfl
theorem al_20 : alen gb_pG 20 = 110 := congrArg id rfl
theorem at_21 : atag gb_pG 21 = 0 := congrArg id rfl
theorem al_21 : alen gb_pG 21 = 110 := congrArg id rfl
theorem at_22 : atag gb_pG 22 = 0 := congrArg id rfl
theorem al_22 : alen gb_pG 22 = 110 := congrArg id rfl
theorem at_23 : atag gb_pG 23 = 16 := congrArg id rfl
theorem at_24 : atag gb_pG 24 = 0 := congrArg id rfl
theorem al_24 : alen gb_pG 24 = 12 := congrArg id rfl
theorem at_25 : atag gb_pG 25 = 0 := congrArg id rfl
theorem al_25 : alen gb_pG 25 = 12 := congrArg id rfl
theorem at_26 : atag gb_pG 26 = 0 := congrArg id rfl
theorem al_26 : alen gb_pG 26 = 12 := congrArg id rfl
theorem at_27 : atag gb_pG 27 = 0 := congrArg id rfl
theorem al_27 : alen gb_pG 27 = 24 := congrArg id rfl
theorem at_28 : atag gb_pG 28 = 0 := congrArg id rfl
theorem al_28 : alen gb_pG 28 = 24 := congrArg id rfl
theorem at_29 : atag gb_pG 29 = 0 := congrArg id rfl
theorem al_29 : alen gb_pG 29 = 24 := congrArg id rfl
theorem at_30 : atag gb_pG 30 = 0 := congrArg id rfl
theorem al_30 : alen gb_pG 30 = 24 := congrArg id rfl
theorem at_31 : atag gb_pG 31 = 2 := congrArg id rfl
theorem al_31 : alen gb_pG 31 = 24 := congrArg id rfl
theorem at_32 : atag gb_pG 32 = 0 := congrArg id rfl
theorem al_32 : alen gb_pG 32 = 20 := congrArg id rfl
theorem at_33 : atag gb_pG 33 = 0 := congrArg id rfl
theorem al_33 : alen gb_pG 33 = 2 := congrArg id rfl
theorem at_34 : atag gb_pG 34 = 0 := congrArg id rfl
theorem al_34 : alen gb_pG 34 = 2 := congrArg id rfl
theorem at_35 : atag gb_pG 35 = 0 := congrArg id rfl
theorem al_35 : alen gb_pG 35 = 2 := congrArg id rfl
theorem at_36 : atag gb_pG 36 = 13 := congrArg id rfl
theorem at_37 : atag gb_pG 37 = 0 := congrArg id rfl
theorem al_37 : alen gb_pG 37 = 8 := congrArg id rfl
theorem at_38 : atag gb_pG 38 = 2 := congrArg id rfl
theorem al_38 : alen gb_pG 38 = 256 := congrArg id rfl
theorem at_39 : atag gb_pG 39 = 14 := congrArg id rfl
theorem at_40 : atag gb_pG 40 = 4 := congrArg id rfl
theorem al_40 : alen gb_pG 40 = 6 := congrArg id rfl
theorem at_41 : atag gb_pG 41 = 0 := congrArg id rfl
theorem al_41 : alen gb_pG 41 = 16 := congrArg id rfl
theorem at_42 : atag gb_pG 42 = 0 := congrArg id rfl
theorem al_42 : alen gb_pG 42 = 16 := congrArg id rfl
theorem at_43 : atag gb_pG 43 = 0 := congrArg id rfl
theorem al_43 : alen gb_pG 43 = 16 := congrArg id rfl
theorem at_44 : atag gb_pG 44 = 0 := congrArg id rfl
theorem al_44 : alen gb_pG 44 = 16 := congrArg id rfl
theorem at_45 : atag gb_pG 45 = 0 := congrArg id rfl
theorem al_45 : alen gb_pG 45 = 16 := congrArg id rfl
theorem at_46 : atag gb_pG 46 = 0 := congrArg id rfl
theorem al_46 : alen gb_pG 46 = 16 := congrArg id rfl
theorem at_47 : atag gb_pG 47 = 0 := congrArg id rfl
theorem al_47 : alen gb_pG 47 = 8 := congrArg id rfl
theorem at_48 : atag gb_pG 48 = 4 := congrArg id rfl
theorem al_48 : alen gb_pG 48 = 8 := congrArg id rfl
theorem at_49 : atag gb_pG 49 = 0 := congrArg id rfl
theorem al_49 : alen gb_pG 49 = 16 := congrArg id rfl
theorem at_50 : atag gb_pG 50 = 0 := congrArg id rfl
theorem al_50 : alen gb_pG 50 = 16 := congrArg id rfl
theorem at_51 : atag gb_pG 51 = 0 := congrArg id rfl
theorem al_51 : alen gb_pG 51 = 16 := congrArg id rfl
theorem at_52 : atag gb_pG 52 = 0 := congrArg id rfl
theorem al_52 : alen gb_pG 52 = 16 := congrArg id rfl
theorem at_53 : atag gb_pG 53 = 0 := congrArg id rfl
theorem al_53 : alen gb_pG 53 = 16 := congrArg id rfl
theorem at_54 : atag gb_pG 54 = 0 := congrArg id rfl
theorem al_54 : alen gb_pG 54 = 16 := congrArg id rfl
theorem at_55 : atag gb_pG 55 = 0 := congrArg id rfl
theorem al_55 : alen gb_pG 55 = 16 := congrArg id rfl
theorem at_56 : atag gb_pG 56 = 0 := congrArg id rfl
theorem al_56 : alen gb_pG 56 = 16 := congrArg id rfl
theorem at_57 : atag gb_pG 57 = 3 := congrArg id rfl
theorem al_57 : alen gb_pG 57 = 16 := congrArg id rfl
theorem at_58 : atag gb_pG 58 = 5 := congrArg id rfl
theorem al_58 : alen gb_pG 58 = 4 := congrArg id rfl
theorem at_59 : atag gb_pG 59 = 3 := congrArg id rfl
theorem al_59 : alen gb_pG 59 = 17 := congrArg id rfl
theorem at_60 : atag gb_pG 60 = 3 := congrArg id rfl
theorem al_60 : alen gb_pG 60 = 17 := congrArg id rfl
theorem at_61 : atag gb_pG 61 = 3 := congrArg id rfl
theorem al_61 : alen gb_pG 61 = 17 := congrArg id rfl
theorem at_62 : atag gb_pG 62 = 3 := congrArg id rfl
theorem al_62 : alen gb_pG 62 = 17 := congrArg id rfl
theorem at_63 : atag gb_pG 63 = 17 := congrArg id rfl
theorem at_64 : atag gb_pG 64 = 4 := congrArg id rfl
theorem al_64 : alen gb_pG 64 = 6 := congrArg id rfl
theorem at_65 : atag gb_pG 65 = 0 := congrArg id rfl
theorem al_65 : alen gb_pG 65 = 8 := congrArg id rfl
theorem at_66 : atag gb_pG 66 = 0 := congrArg id rfl
theorem al_66 : alen gb_pG 66 = 8 := congrArg id rfl
theorem at_67 : atag gb_pG 67 = 0 := congrArg id rfl
theorem al_67 : alen gb_pG 67 = 8 := congrArg id rfl
theorem at_68 : atag gb_pG 68 = 0 := congrArg id rfl
theorem al_68 : alen gb_pG 68 = 8 := congrArg id rfl
theorem at_69 : atag gb_pG 69 = 0 := congrArg id rfl
theorem al_69 : alen gb_pG 69 = 8 := congrArg id rfl
theorem at_70 : atag gb_pG 70 = 0 := congrArg id rfl
theorem al_70 : alen gb_pG 70 = 8 := congrArg id rfl
theorem at_71 : atag gb_pG 71 = 4 := congrArg id rfl
theorem al_71 : alen gb_pG 71 = 6 := congrArg id rfl
theorem at_72 : atag gb_pG 72 = 0 := congrArg id rfl
theorem al_72 : alen gb_pG 72 = 4 := congrArg id rfl
theorem at_73 : atag gb_pG 73 = 0 := congrArg id rfl
theorem al_73 : alen gb_pG 73 = 4 := congrArg id rfl
theorem at_74 : atag gb_pG 74 = 0 := congrArg id rfl
theorem al_74 : alen gb_pG 74 = 4 := congrArg id rfl
theorem at_75 : atag gb_pG 75 = 0 := congrArg id rfl
theorem al_75 : alen gb_pG 75 = 4 := congrArg id rfl
theorem at_76 : atag gb_pG 76 = 0 := congrArg id rfl
theorem al_76 : alen gb_pG 76 = 4 := congrArg id rfl
theorem at_77 : atag gb_pG 77 = 0 := congrArg id rfl
theorem al_77 : alen gb_pG 77 = 4 := congrArg id rfl
theorem at_78 : atag gb_pG 78 = 0 := congrArg id rfl
theorem al_78 : alen gb_pG 78 = 6 := congrArg id rfl
theorem at_79 : atag gb_pG 79 = 0 := congrArg id rfl
theorem al_79 : alen gb_pG 79 = 256 := congrArg id rfl
theorem at_80 : atag gb_pG 80 = 10 := congrArg id rfl
theorem at_81 : atag gb_pG 81 = 0 := congrArg id rfl
theorem al_81 : alen gb_pG 81 = 5 := congrArg id rfl
theorem at_82 : atag gb_pG 82 = 18 := congrArg id rfl
theorem at_83 : atag gb_pG 83 = 0 := congrArg id rfl
theorem al_83 : alen gb_pG 83 = 12 := congrArg id rfl
theorem at_84 : atag gb_pG 84 = 0 := congrArg id rfl
theorem al_84 : alen gb_pG 84 = 12 := congrArg id rfl
theorem at_85 : atag gb_pG 85 = 0 := congrArg id rfl
theorem al_85 : alen gb_pG 85 = 12 := congrArg id rfl
theorem at_86 : atag gb_pG 86 = 0 := congrArg id rfl
theorem al_86 : alen gb_pG 86 = 12 := congrArg id rfl
theorem at_87 : atag gb_pG 87 = 0 := congrArg id rfl
theorem al_87 : alen gb_pG 87 = 12 := congrArg id rfl
theorem at_88 : atag gb_pG 88 = 0 := congrArg id rfl
theorem al_88 : alen gb_pG 88 = 6 := congrArg id rfl
theorem at_89 : atag gb_pG 89 = 0 := congrArg id rfl
theorem al_89 : alen gb_pG 89 = 6 := congrArg id rfl
theorem at_90 : atag gb_pG 90 = 0 := congrArg id rfl
theorem al_90 : alen gb_pG 90 = 6 := congrArg id rfl
theorem at_91 : atag gb_pG 91 = 0 := congrArg id rfl
theorem al_91 : alen gb_pG 91 = 6 := congrArg id rfl
theorem at_92 : atag gb_pG 92 = 0 := congrArg id rfl
theorem al_92 : alen gb_pG 92 = 8 := congrArg id rfl
theorem at_93 : atag gb_pG 93 = 0 := congrArg id rfl
theorem al_93 : alen gb_pG 93 = 8 := congrArg id rfl
theorem at_94 : atag gb_pG 94 = 0 := congrArg id rfl
theorem al_94 : alen gb_pG 94 = 8 := congrArg id rfl
theorem at_95 : atag gb_pG 95 = 0 := congrArg id rfl
theorem al_95 : alen gb_pG 95 = 8 := congrArg id rfl
theorem at_96 : atag gb_pG 96 = 0 := congrArg id rfl
theorem al_96 : alen gb_pG 96 = 8 := congrArg id rfl
theorem at_97 : atag gb_pG 97 = 10 := congrArg id rfl
theorem at_98 : atag gb_pG 98 = 0 := congrArg id rfl
theorem al_98 : alen gb_pG 98 = 5 := congrArg id rfl
theorem at_99 : atag gb_pG 99 = 18 := congrArg id rfl
theorem at_100 : atag gb_pG 100 = 0 := congrArg id rfl
theorem al_100 : alen gb_pG 100 = 12 := congrArg id rfl
theorem at_101 : atag gb_pG 101 = 0 := congrArg id rfl
theorem al_101 : alen gb_pG 101 = 12 := congrArg id rfl
theorem at_102 : atag gb_pG 102 = 0 := congrArg id rfl
theorem al_102 : alen gb_pG 102 = 12 := congrArg id rfl
theorem at_103 : atag gb_pG 103 = 0 := congrArg id rfl
theorem al_103 : alen gb_pG 103 = 12 := congrArg id rfl
theorem at_104 : atag gb_pG 104 = 0 := congrArg id rfl
theorem al_104 : alen gb_pG 104 = 12 := congrArg id rfl
theorem at_105 : atag gb_pG 105 = 0 := congrArg id rfl
theorem al_105 : alen gb_pG 105 = 6 := congrArg id rfl
theorem at_106 : atag gb_pG 106 = 0 := congrArg id rfl
theorem al_106 : alen gb_pG 106 = 6 := congrArg id rfl
theorem at_107 : atag gb_pG 107 = 0 := congrArg id rfl
theorem al_107 : alen gb_pG 107 = 6 := congrArg id rfl
theorem at_108 : atag gb_pG 108 = 0 := congrArg id rfl
theorem al_108 : alen gb_pG 108 = 6 := congrArg id rfl
theorem at_109 : atag gb_pG 109 = 0 := congrArg id rfl
theorem al_109 : alen gb_pG 109 = 8 := congrArg id rfl
theorem at_110 : atag gb_pG 110 = 0 := congrArg id rfl
theorem al_110 : alen gb_pG 110 = 8 := congrArg id rfl
theorem at_111 : atag gb_pG 111 = 0 := congrArg id rfl
theorem al_111 : alen gb_pG 111 = 8 := congrArg id rfl
theorem at_112 : atag gb_pG 112 = 0 := congrArg id rfl
theorem al_112 : alen gb_pG 112 = 8 := congrArg id rfl
theorem at_113 : atag gb_pG 113 = 0 := congrArg id rfl
theorem al_113 : alen gb_pG 113 = 8 := congrArg id rfl
theorem at_114 : atag gb_pG 114 = 12 := congrArg id rfl
theorem at_115 : atag gb_pG 115 = 0 := congrArg id rfl
theorem al_115 : alen gb_pG 115 = 10 := congrArg id rfl
theorem at_116 : atag gb_pG 116 = 4 := congrArg id rfl
theorem al_116 : alen gb_pG 116 = 10 := congrArg id rfl
theorem at_117 : atag gb_pG 117 = 0 := congrArg id rfl
theorem al_117 : alen gb_pG 117 = 3 := congrArg id rfl
theorem at_118 : atag gb_pG 118 = 0 := congrArg id rfl
theorem al_118 : alen gb_pG 118 = 3 := congrArg id rfl
theorem at_119 : atag gb_pG 119 = 0 := congrArg id rfl
theorem al_119 : alen gb_pG 119 = 3 := congrArg id rfl
theorem at_120 : atag gb_pG 120 = 0 := congrArg id rfl
theorem al_120 : alen gb_pG 120 = 3 := congrArg id rfl
theorem at_121 : atag gb_pG 121 = 0 := congrArg id rfl
theorem al_121 : alen gb_pG 121 = 3 := congrArg id rfl
theorem at_122 : atag gb_pG 122 = 0 := congrArg id rfl
theorem al_122 : alen gb_pG 122 = 3 := congrArg id rfl
theorem at_123 : atag gb_pG 123 = 0 := congrArg id rfl
theorem al_123 : alen gb_pG 123 = 3 := congrArg id rfl
theorem at_124 : atag gb_pG 124 = 0 := congrArg id rfl
theorem al_124 : alen gb_pG 124 = 3 := congrArg id rfl
theorem at_125 : atag gb_pG 125 = 0 := congrArg id rfl
theorem al_125 : alen gb_pG 125 = 3 := congrArg id rfl
theorem at_126 : atag gb_pG 126 = 0 := congrArg id rfl
theorem al_126 : alen gb_pG 126 = 3 := congrArg id rfl
theorem at_127 : atag gb_pG 127 = 4 := congrArg id rfl
theorem al_127 : alen gb_pG 127 = 10 := congrArg id rfl
theorem at_128 : atag gb_pG 128 = 0 := congrArg id rfl
theorem al_128 : alen gb_pG 128 = 3 := congrArg id rfl
theorem at_129 : atag gb_pG 129 = 0 := congrArg id rfl
theorem al_129 : alen gb_pG 129 = 3 := congrArg id rfl
theorem at_130 : atag gb_pG 130 = 0 := congrArg id rfl
theorem al_130 : alen gb_pG 130 = 3 := congrArg id rfl
theorem at_131 : atag gb_pG 131 = 0 := congrArg id rfl
theorem al_131 : alen gb_pG 131 = 3 := congrArg id rfl
theorem at_132 : atag gb_pG 132 = 0 := congrArg id rfl
theorem al_132 : alen gb_pG 132 = 3 := congrArg id rfl
theorem at_133 : atag gb_pG 133 = 0 := congrArg id rfl
theorem al_133 : alen gb_pG 133 = 3 := congrArg id rfl
theorem at_134 : atag gb_pG 134 = 0 := congrArg id rfl
theorem al_134 : alen gb_pG 134 = 3 := congrArg id rfl
theorem at_135 : atag gb_pG 135 = 0 := congrArg id rfl
theorem al_135 : alen gb_pG 135 = 3 := congrArg id rfl
theorem at_136 : atag gb_pG 136 = 0 := congrArg id rfl
theorem al_136 : alen gb_pG 136 = 3 := congrArg id rfl
theorem at_137 : atag gb_pG 137 = 0 := congrArg id rfl
theorem al_137 : alen gb_pG 137 = 3 := congrArg id rfl
theorem at_138 : atag gb_pG 138 = 4 := congrArg id rfl
theorem al_138 : alen gb_pG 138 = 10 := congrArg id rfl
theorem at_139 : atag gb_pG 139 = 0 := congrArg id rfl
theorem al_139 : alen gb_pG 139 = 3 := congrArg id rfl
theorem at_140 : atag gb_pG 140 = 0 := congrArg id rfl
theorem al_140 : alen gb_pG 140 = 3 := congrArg id rfl
theorem at_141 : atag gb_pG 141 = 0 := congrArg id rfl
theorem al_141 : alen gb_pG 141 = 3 := congrArg id rfl
theorem at_142 : atag gb_pG 142 = 0 := congrArg id rfl
theorem al_142 : alen gb_pG 142 = 3 := congrArg id rfl
theorem at_143 : atag gb_pG 143 = 0 := congrArg id rfl
theorem al_143 : alen gb_pG 143 = 3 := congrArg id rfl
theorem at_144 : atag gb_pG 144 = 0 := congrArg id rfl
theorem al_144 : alen gb_pG 144 = 3 := congrArg id rfl
theorem at_145 : atag gb_pG 145 = 0 := congrArg id rfl
theorem al_145 : alen gb_pG 145 = 3 := congrArg id rfl
theorem at_146 : atag gb_pG 146 = 0 := congrArg id rfl
theorem al_146 : alen gb_pG 146 = 3 := congrArg id rfl
theorem at_147 : atag gb_pG 147 = 0 := congrArg id rfl
theorem al_147 : alen gb_pG 147 = 3 := congrArg id rfl
theorem at_148 : atag gb_pG 148 = 0 := congrArg id rfl
theorem al_148 : alen gb_pG 148 = 3 := congrArg id rfl
theorem at_149 : atag gb_pG 149 = 0 := congrArg id rfl
theorem al_149 : alen gb_pG 149 = 10 := congrArg id rfl
theorem at_150 : atag gb_pG 150 = 0 := congrArg id rfl
theorem al_150 : alen gb_pG 150 = 10 := congrArg id rfl
theorem at_151 : atag gb_pG 151 = 0 := congrArg id rfl
theorem al_151 : alen gb_pG 151 = 10 := congrArg id rfl
theorem at_152 : atag gb_pG 152 = 12 := congrArg id rfl
theorem at_153 : atag gb_pG 153 = 0 := congrArg id rfl
theorem al_153 : alen gb_pG 153 = 10 := congrArg id rfl
theorem at_154 : atag gb_pG 154 = 4 := congrArg id rfl
theorem al_154 : alen gb_pG 154 = 10 := congrArg id rfl
theorem at_155 : atag gb_pG 155 = 0 := congrArg id rfl
theorem al_155 : alen gb_pG 155 = 3 := congrArg id rfl
theorem at_156 : atag gb_pG 156 = 0 := congrArg id rfl
theorem al_156 : alen gb_pG 156 = 3 := congrArg id rfl
theorem at_157 : atag gb_pG 157 = 0 := congrArg id rfl
theorem al_157 : alen gb_pG 157 = 3 := congrArg id rfl
theorem at_158 : atag gb_pG 158 = 0 := congrArg id rfl
theorem al_158 : alen gb_pG 158 = 3 := congrArg id rfl
theorem at_159 : atag gb_pG 159 = 0 := congrArg id rfl
theorem al_159 : alen gb_pG 159 = 3 := congrArg id rfl
theorem at_160 : atag gb_pG 160 = 0 := congrArg id rfl
theorem al_160 : alen gb_pG 160 = 3 := congrArg id rfl
theorem at_161 : atag gb_pG 161 = 0 := congrArg id rfl
theorem al_161 : alen gb_pG 161 = 3 := congrArg id rfl
theorem at_162 : atag gb_pG 162 = 0 := congrArg id rfl
theorem al_162 : alen gb_pG 162 = 3 := congrArg id rfl
theorem at_163 : atag gb_pG 163 = 0 := congrArg id rfl
theorem al_163 : alen gb_pG 163 = 3 := congrArg id rfl
theorem at_164 : atag gb_pG 164 = 0 := congrArg id rfl
theorem al_164 : alen gb_pG 164 = 3 := congrArg id rfl
theorem at_165 : atag gb_pG 165 = 4 := congrArg id rfl
theorem al_165 : alen gb_pG 165 = 10 := congrArg id rfl
theorem at_166 : atag gb_pG 166 = 0 := congrArg id rfl
theorem al_166 : alen gb_pG 166 = 3 := congrArg id rfl
theorem at_167 : atag gb_pG 167 = 0 := congrArg id rfl
theorem al_167 : alen gb_pG 167 = 3 := congrArg id rfl
theorem at_168 : atag gb_pG 168 = 0 := congrArg id rfl
theorem al_168 : alen gb_pG 168 = 3 := congrArg id rfl
theorem at_169 : atag gb_pG 169 = 0 := congrArg id rfl
theorem al_169 : alen gb_pG 169 = 3 := congrArg id rfl
theorem at_170 : atag gb_pG 170 = 0 := congrArg id rfl
theorem al_170 : alen gb_pG 170 = 3 := congrArg id rfl
theorem at_171 : atag gb_pG 171 = 0 := congrArg id rfl
theorem al_171 : alen gb_pG 171 = 3 := congrArg id rfl
theorem at_172 : atag gb_pG 172 = 0 := congrArg id rfl
theorem al_172 : alen gb_pG 172 = 3 := congrArg id rfl
theorem at_173 : atag gb_pG 173 = 0 := congrArg id rfl
theorem al_173 : alen gb_pG 173 = 3 := congrArg id rfl
theorem at_174 : atag gb_pG 174 = 0 := congrArg id rfl
theorem al_174 : alen gb_pG 174 = 3 := congrArg id rfl
theorem at_175 : atag gb_pG 175 = 0 := congrArg id rfl
theorem al_175 : alen gb_pG 175 = 3 := congrArg id rfl
theorem at_176 : atag gb_pG 176 = 4 := congrArg id rfl
theorem al_176 : alen gb_pG 176 = 10 := congrArg id rfl
theorem at_177 : atag gb_pG 177 = 0 := congrArg id rfl
theorem al_177 : alen gb_pG 177 = 3 := congrArg id rfl
theorem at_178 : atag gb_pG 178 = 0 := congrArg id rfl
theorem al_178 : alen gb_pG 178 = 3 := congrArg id rfl
theorem at_179 : atag gb_pG 179 = 0 := congrArg id rfl
theorem al_179 : alen gb_pG 179 = 3 := congrArg id rfl
theorem at_180 : atag gb_pG 180 = 0 := congrArg id rfl
theorem al_180 : alen gb_pG 180 = 3 := congrArg id rfl
theorem at_181 : atag gb_pG 181 = 0 := congrArg id rfl
theorem al_181 : alen gb_pG 181 = 3 := congrArg id rfl
theorem at_182 : atag gb_pG 182 = 0 := congrArg id rfl
theorem al_182 : alen gb_pG 182 = 3 := congrArg id rfl
theorem at_183 : atag gb_pG 183 = 0 := congrArg id rfl
theorem al_183 : alen gb_pG 183 = 3 := congrArg id rfl
theorem at_184 : atag gb_pG 184 = 0 := congrArg id rfl
theorem al_184 : alen gb_pG 184 = 3 := congrArg id rfl
theorem at_185 : atag gb_pG 185 = 0 := congrArg id rfl
theorem al_185 : alen gb_pG 185 = 3 := congrArg id rfl
theorem at_186 : atag gb_pG 186 = 0 := congrArg id rfl
theorem al_186 : alen gb_pG 186 = 3 := congrArg id rfl
theorem at_187 : atag gb_pG 187 = 0 := congrArg id rfl
theorem al_187 : alen gb_pG 187 = 10 := congrArg id rfl
theorem at_188 : atag gb_pG 188 = 0 := congrArg id rfl
theorem al_188 : alen gb_pG 188 = 10 := congrArg id rfl
theorem at_189 : atag gb_pG 189 = 0 := congrArg id rfl
theorem al_189 : alen gb_pG 189 = 10 := congrArg id rfl
theorem at_190 : atag gb_pG 190 = 20 := congrArg id rfl
theorem at_191 : atag gb_pG 191 = 1 := congrArg id rfl
theorem al_191 : alen gb_pG 191 = 400 := congrArg id rfl
theorem at_192 : atag gb_pG 192 = 0 := congrArg id rfl
theorem al_192 : alen gb_pG 192 = 2 := congrArg id rfl
theorem at_193 : atag gb_pG 193 = 0 := congrArg id rfl
theorem al_193 : alen gb_pG 193 = 2 := congrArg id rfl
theorem at_194 : atag gb_pG 194 = 0 := congrArg id rfl
theorem al_194 : alen gb_pG 194 = 48 := congrArg id rfl
theorem at_195 : atag gb_pG 195 = 0 := congrArg id rfl
theorem al_195 : alen gb_pG 195 = 2 := congrArg id rfl
theorem at_196 : atag gb_pG 196 = 0 := congrArg id rfl
theorem al_196 : alen gb_pG 196 = 72 := congrArg id rfl
theorem at_197 : atag gb_pG 197 = 0 := congrArg id rfl
theorem al_197 : alen gb_pG 197 = 2 := congrArg id rfl
theorem at_198 : atag gb_pG 198 = 0 := congrArg id rfl
theorem al_198 : alen gb_pG 198 = 48 := congrArg id rfl
theorem at_199 : atag gb_pG 199 = 0 := congrArg id rfl
theorem al_199 : alen gb_pG 199 = 2 := congrArg id rfl
theorem at_200 : atag gb_pG 200 = 0 := congrArg id rfl
theorem al_200 : alen gb_pG 200 = 80 := congrArg id rfl
theorem at_201 : atag gb_pG 201 = 0 := congrArg id rfl
theorem al_201 : alen gb_pG 201 = 2 := congrArg id rfl
theorem at_202 : atag gb_pG 202 = 0 := congrArg id rfl
theorem al_202 : alen gb_pG 202 = 260 := congrArg id rfl
theorem at_203 : atag gb_pG 203 = 0 := congrArg id rfl
theorem al_203 : alen gb_pG 203 = 8 := congrArg id rfl
theorem at_204 : atag gb_pG 204 = 0 := congrArg id rfl
theorem al_204 : alen gb_pG 204 = 880 := congrArg id rfl
theorem at_205 : atag gb_pG 205 = 0 := congrArg id rfl
theorem al_205 : alen gb_pG 205 = 880 := congrArg id rfl
theorem at_206 : atag gb_pG 206 = 0 := congrArg id rfl
theorem al_206 : alen gb_pG 206 = 3 := congrArg id rfl
theorem at_207 : atag gb_pG 207 = 0 := congrArg id rfl
theorem al_207 : alen gb_pG 207 = 108 := congrArg id rfl
theorem at_208 : atag gb_pG 208 = 0 := congrArg id rfl
theorem al_208 : alen gb_pG 208 = 3 := congrArg id rfl
theorem at_209 : atag gb_pG 209 = 0 := congrArg id rfl
theorem al_209 : alen gb_pG 209 = 360 := congrArg id rfl
theorem at_210 : atag gb_pG 210 = 0 := congrArg id rfl
theorem al_210 : alen gb_pG 210 = 3 := congrArg id rfl
theorem at_211 : atag gb_pG 211 = 0 := congrArg id rfl
theorem al_211 : alen gb_pG 211 = 60 := congrArg id rfl
theorem at_212 : atag gb_pG 212 = 0 := congrArg id rfl
theorem al_212 : alen gb_pG 212 = 48 := congrArg id rfl
theorem at_213 : atag gb_pG 213 = 0 := congrArg id rfl
theorem al_213 : alen gb_pG 213 = 6 := congrArg id rfl
theorem at_214 : atag gb_pG 214 = 0 := congrArg id rfl
theorem al_214 : alen gb_pG 214 = 12 := congrArg id rfl
theorem at_215 : atag gb_pG 215 = 0 := congrArg id rfl
theorem al_215 : alen gb_pG 215 = 3 := congrArg id rfl
theorem at_216 : atag gb_pG 216 = 0 := congrArg id rfl
theorem al_216 : alen gb_pG 216 = 3 := congrArg id rfl
theorem at_217 : atag gb_pG 217 = 0 := congrArg id rfl
theorem al_217 : alen gb_pG 217 = 256 := congrArg id rfl
theorem at_218 : atag gb_pG 218 = 0 := congrArg id rfl
theorem al_218 : alen gb_pG 218 = 256 := congrArg id rfl
theorem at_219 : atag gb_pG 219 = 3 := congrArg id rfl
theorem al_219 : alen gb_pG 219 = 16 := congrArg id rfl
theorem atr_5 {k : Nat} (h : k < 8) : atag gb_pG (6 + k) = 0 := by
  match k, h with
  | 0, _ => rfl
  | 1, _ => rfl
  | 2, _ => rfl
  | 3, _ => rfl
  | 4, _ => rfl
  | 5, _ => rfl
  | 6, _ => rfl
  | 7, _ => rfl
  | k + 8, h => omega
theorem alr_5 {k : Nat} (h : k < 8) : alen gb_pG (6 + k) = 110 := by
  match k, h with
  | 0, _ => rfl
  | 1, _ => rfl
  | 2, _ => rfl
  | 3, _ => rfl
  | 4, _ => rfl
  | 5, _ => rfl
  | 6, _ => rfl
  | 7, _ => rfl
  | k + 8, h => omega
theorem atr_14 {k : Nat} (h : k < 8) : atag gb_pG (15 + k) = 0 := by
  match k, h with
  | 0, _ => rfl
  | 1, _ => rfl
  | 2, _ => rfl
  | 3, _ => rfl
  | 4, _ => rfl
  | 5, _ => rfl
  | 6, _ => rfl
  | 7, _ => rfl
  | k + 8, h => omega
theorem alr_14 {k : Nat} (h : k < 8) : alen gb_pG (15 + k) = 110 := by
  match k, h with
  | 0, _ => rfl
  | 1, _ => rfl
  | 2, _ => rfl
  | 3, _ => rfl
  | 4, _ => rfl
  | 5, _ => rfl
  | 6, _ => rfl
  | 7, _ => rfl
  | k + 8, h => omega
theorem atr_40 {k : Nat} (h : k < 6) : atag gb_pG (41 + k) = 0 := by
  match k, h with
  | 0, _ => rfl
  | 1, _ => rfl
  | 2, _ => rfl
  | 3, _ => rfl
  | 4, _ => rfl
  | 5, _ => rfl
  | k + 6, h => omega
theorem alr_40 {k : Nat} (h : k < 6) : alen gb_pG (41 + k) = 16 := by
  match k, h with
  | 0, _ => rfl
  | 1, _ => rfl
  | 2, _ => rfl
  | 3, _ => rfl
  | 4, _ => rfl
  | 5, _ => rfl
  | k + 6, h => omega
theorem atr_48 {k : Nat} (h : k < 8) : atag gb_pG (49 + k) = 0 := by
  match k, h with
  | 0, _ => rfl
  | 1, _ => rfl
  | 2, _ => rfl
  | 3, _ => rfl
  | 4, _ => rfl
  | 5, _ => rfl
  | 6, _ => rfl
  | 7, _ => rfl
  | k + 8, h => omega
theorem alr_48 {k : Nat} (h : k < 8) : alen gb_pG (49 + k) = 16 := by
  match k, h with
  | 0, _ => rfl
  | 1, _ => rfl
  | 2, _ => rfl
  | 3, _ => rfl
  | 4, _ => rfl
  | 5, _ => rfl
  | 6, _ => rfl
  | 7, _ => rfl
  | k + 8, h => omega
theorem atr_58 {k : Nat} (h : k < 4) : atag gb_pG (59 + k) = 3 := by
  match k, h with
  | 0, _ => rfl
  | 1, _ => rfl
  | 2, _ => rfl
  | 3, _ => rfl
  | k + 4, h => omega
theorem alr_58 {k : Nat} (h : k < 4) : alen gb_pG (59 + k) = 17 := by
  match k, h with
  | 0, _ => rfl
  | 1, _ => rfl
  | 2, _ => rfl
  | 3, _ => rfl
  | k + 4, h => omega
theorem atr_64 {k : Nat} (h : k < 6) : atag gb_pG (65 + k) = 0 := by
  match k, h with
  | 0, _ => rfl
  | 1, _ => rfl
  | 2, _ => rfl
  | 3, _ => rfl
  | 4, _ => rfl
  | 5, _ => rfl
  | k + 6, h => omega
theorem alr_64 {k : Nat} (h : k < 6) : alen gb_pG (65 + k) = 8 := by
  match k, h with
  | 0, _ => rfl
  | 1, _ => rfl
  | 2, _ => rfl
  | 3, _ => rfl
  | 4, _ => rfl
  | 5, _ => rfl
  | k + 6, h => omega
theorem atr_71 {k : Nat} (h : k < 6) : atag gb_pG (72 + k) = 0 := by
  match k, h with
  | 0, _ => rfl
  | 1, _ => rfl
  | 2, _ => rfl
  | 3, _ => rfl
  | 4, _ => rfl
  | 5, _ => rfl
  | k + 6, h => omega
theorem alr_71 {k : Nat} (h : k < 6) : alen gb_pG (72 + k) = 4 := by
  match k, h with
  | 0, _ => rfl
  | 1, _ => rfl
  | 2, _ => rfl
  | 3, _ => rfl
  | 4, _ => rfl
  | 5, _ => rfl
  | k + 6, h => omega
theorem atr_116 {k : Nat} (h : k < 10) : atag gb_pG (117 + k) = 0 := by
  match k, h with
  | 0, _ => rfl
  | 1, _ => rfl
  | 2, _ => rfl
  | 3, _ => rfl
  | 4, _ => rfl
  | 5, _ => rfl
  | 6, _ => rfl
  | 7, _ => rfl
  | 8, _ => rfl
  | 9, _ => rfl
  | k + 10, h => omega
theorem alr_116 {k : Nat} (h : k < 10) : alen gb_pG (117 + k) = 3 := by
  match k, h with
  | 0, _ => rfl
  | 1, _ => rfl
  | 2, _ => rfl
  | 3, _ => rfl
  | 4, _ => rfl
  | 5, _ => rfl
  | 6, _ => rfl
  | 7, _ => rfl
  | 8, _ => rfl
  | 9, _ => rfl
  | k + 10, h => omega
theorem atr_127 {k : Nat} (h : k < 10) : atag gb_pG (128 + k) = 0 := by
  match k, h with
  | 0, _ => rfl
  | 1, _ => rfl
  | 2, _ => rfl
  | 3, _ => rfl
  | 4, _ => rfl
  | 5, _ => rfl
  | 6, _ => rfl
  | 7, _ => rfl
  | 8, _ => rfl
  | 9, _ => rfl
  | k + 10, h => omega
theorem alr_127 {k : Nat} (h : k < 10) : alen gb_pG (128 + k) = 3 := by
  match k, h with
  | 0, _ => rfl
  | 1, _ => rfl
  | 2, _ => rfl
  | 3, _ => rfl
  | 4, _ => rfl
  | 5, _ => rfl
  | 6, _ => rfl
  | 7, _ => rfl
  | 8, _ => rfl
  | 9, _ => rfl
  | k + 10, h => omega
theorem atr_138 {k : Nat} (h : k < 10) : atag gb_pG (139 + k) = 0 := by
  match k, h with
  | 0, _ => rfl
  | 1, _ => rfl
  | 2, _ => rfl
  | 3, _ => rfl
  | 4, _ => rfl
  | 5, _ => rfl
  | 6, _ => rfl
  | 7, _ => rfl
  | 8, _ => rfl
  | 9, _ => rfl
  | k + 10, h => omega
theorem alr_138 {k : Nat} (h : k < 10) : alen gb_pG (139 + k) = 3 := by
  match k, h with
  | 0, _ => rfl
  | 1, _ => rfl
  | 2, _ => rfl
  | 3, _ => rfl
  | 4, _ => rfl
  | 5, _ => rfl
  | 6, _ => rfl
  | 7, _ => rfl
  | 8, _ => rfl
  | 9, _ => rfl
  | k + 10, h => omega
theorem atr_154 {k : Nat} (h : k < 10) : atag gb_pG (155 + k) = 0 := by
  match k, h with
  | 0, _ => rfl
  | 1, _ => rfl
  | 2, _ => rfl
  | 3, _ => rfl
  | 4, _ => rfl
  | 5, _ => rfl
  | 6, _ => rfl
  | 7, _ => rfl
  | 8, _ => rfl
  | 9, _ => rfl
  | k + 10, h => omega
theorem alr_154 {k : Nat} (h : k < 10) : alen gb_pG (155 + k) = 3 := by
  match k, h with
  | 0, _ => rfl
  | 1, _ => rfl
  | 2, _ => rfl
  | 3, _ => rfl
  | 4, _ => rfl
  | 5, _ => rfl
  | 6, _ => rfl
  | 7, _ => rfl
  | 8, _ => rfl
  | 9, _ => rfl
  | k + 10, h => omega
theorem atr_165 {k : Nat} (h : k < 10) : atag gb_pG (166 + k) = 0 := by
  match k, h with
  | 0, _ => rfl
  | 1, _ => rfl
  | 2, _ => rfl
  | 3, _ => rfl
  | 4, _ => rfl
  | 5, _ => rfl
  | 6, _ => rfl
  | 7, _ => rfl
  | 8, _ => rfl
  | 9, _ => rfl
  | k + 10, h => omega
theorem alr_165 {k : Nat} (h : k < 10) : alen gb_pG (166 + k) = 3 := by
  match k, h with
  | 0, _ => rfl
  | 1, _ => rfl
  | 2, _ => rfl
  | 3, _ => rfl
  | 4, _ => rfl
  | 5, _ => rfl
  | 6, _ => rfl
  | 7, _ => rfl
  | 8, _ => rfl
  | 9, _ => rfl
  | k + 10, h => omega
theorem atr_176 {k : Nat} (h : k < 10) : atag gb_pG (177 + k) = 0 := by
  match k, h with
  | 0, _ => rfl
  | 1, _ => rfl
  | 2, _ => rfl
  | 3, _ => rfl
  | 4, _ => rfl
  | 5, _ => rfl
  | 6, _ => rfl
  | 7, _ => rfl
  | 8, _ => rfl
  | 9, _ => rfl
  | k + 10, h => omega
theorem alr_176 {k : Nat} (h : k < 10) : alen gb_pG (177 + k) = 3 := by
  match k, h with
  | 0, _ => rfl
  | 1, _ => rfl
  | 2, _ => rfl
  | 3, _ => rfl
  | 4, _ => rfl
  | 5, _ => rfl
  | 6, _ => rfl
  | 7, _ => rfl
  | 8, _ => rfl
  | 9, _ => rfl
  | k + 10, h => omega
/-- the state: ints, longs, the two swaps, the script -/
def gS (I : Nat → Nat → Int32) (J : Nat → Nat → Int64) (q : Bool × Bool) (X : Nat × (Nat → Int32)) : gb_Sg := (I, J, gb_Rw q, X)
def up (I : Nat → Nat → Int32) (a k : Nat) (v : Int32) : Nat → Nat → Int32 := fun x => if x = a then upd (I a) k v else I x
def upJ (I : Nat → Nat → Int64) (a k : Nat) (v : Int64) : Nat → Nat → Int64 := fun x => if x = a then vp_updL (I a) k v else I x
theorem up_at (I : Nat → Nat → Int32) (a k : Nat) (v : Int32) (x : Nat) : up I a k v x = if x = a then upd (I a) k v else I x := rfl
theorem upJ_at (I : Nat → Nat → Int64) (a k : Nat) (v : Int64) (x : Nat) : upJ I a k v x = if x = a then vp_updL (I a) k v else I x := rfl
theorem upd_at (f : Nat → Int32) (k : Nat) (v : Int32) (j : Nat) : upd f k v j = if j = k then v else f j := rfl
theorem updL_at (f : Nat → Int64) (k : Nat) (v : Int64) (j : Nat) : vp_updL f k v j = if j = k then v else f j := rfl
theorem gI_gS (I : Nat → Nat → Int32) (J : Nat → Nat → Int64) (q : Bool × Bool) (X : Nat × (Nat → Int32)) (a k : Nat) : gI (gS I J q X) a k = I a k := rfl
theorem gL_gS (I : Nat → Nat → Int32) (J : Nat → Nat → Int64) (q : Bool × Bool) (X : Nat × (Nat → Int32)) (a k : Nat) : gL (gS I J q X) a k = J a k := rfl
theorem gR_gS (I : Nat → Nat → Int32) (J : Nat → Nat → Int64) (q : Bool × Bool) (X : Nat × (Nat → Int32)) (a k : Nat) : gR (gS I J q X) a k = gb_Rw q a k := rfl
theorem sI_gS (I : Nat → Nat → Int32) (J : Nat → Nat → Int64) (q : Bool × Bool) (X : Nat × (Nat → Int32)) (a k : Nat) (v : Int32) : sI (gS I J q X) a k v = gS (up I a k v) J q X := by
  unfold sI gS up upd
  congr 1
  funext x y
  by_cases h : x = a
  · subst h
    by_cases h2 : y = k
    · simp [h2]
    · simp [h2]
  · simp [h]
theorem sL_gS (I : Nat → Nat → Int32) (J : Nat → Nat → Int64) (q : Bool × Bool) (X : Nat × (Nat → Int32)) (a k : Nat) (v : Int64) : sL (gS I J q X) a k v = gS I (upJ J a k v) q X := by
  unfold sL gS upJ vp_updL
  congr 2
  funext x y
  by_cases h : x = a
  · subst h
    by_cases h2 : y = k
    · simp [h2]
    · simp [h2]
  · simp [h]
theorem oob_nI {k n : Nat} (h : k < n) (hn : n ≤ 2147483648) : oob (nI k) n = false := by
  have := nI_clamp (n := k) (by omega)
  have h2 := nI_pos (n := k) (by omega)
  simp [oob, this, h2]
  omega
theorem oob_lit {k n : Nat} (h : k < n) (hn : n ≤ 2147483648) : oob (OfNat.ofNat k) n = false := oob_nI h hn
theorem ix_nI {k : Nat} (h : k < 2147483648) : ix (nI k) = k := nI_clamp h
theorem ix_lit {k : Nat} (h : k < 2147483648) : ix (OfNat.ofNat k) = k := nI_clamp h
theorem psh_int (x : Int32) (st : List Value) : psh (.int x) st = .int x :: st := rfl
theorem psh_long (x : Int64) (st : List Value) : psh (.long x) st = .long x :: st := rfl
theorem psh_null (st : List Value) : psh .null st = st := rfl
theorem kil_int (x : Int32) : kil (.int x) = .int x := rfl
theorem kil_ref (x : Nat) : kil (.ref x) = .ref x := rfl
theorem kil_null : kil .null = .null := rfl
theorem kil_long (x : Int64) : kil (.long x) = .null := rfl
theorem kil_rA (x : Nat) : kil (.retAddr x) = .retAddr x := rfl
theorem x_iload_0 {m : Nat} {r : List Instr} {ls st : List Value} {p : gb_Pi} {g : gb_Sg} {x : Int32} : gb_ex m (.iload 0 :: r) (.int x :: ls) st p g = gb_ex m r (.int x :: ls) (.int x :: st) p g := gb_ex_nx rfl
theorem x_iload_1 {m : Nat} {r : List Instr} {ls st : List Value} {p : gb_Pi} {g : gb_Sg} {a0 : Value} {x : Int32} : gb_ex m (.iload 1 :: r) (a0 :: .int x :: ls) st p g = gb_ex m r (a0 :: .int x :: ls) (.int x :: st) p g := gb_ex_nx rfl
theorem x_iload_2 {m : Nat} {r : List Instr} {ls st : List Value} {p : gb_Pi} {g : gb_Sg} {a0 a1 : Value} {x : Int32} : gb_ex m (.iload 2 :: r) (a0 :: a1 :: .int x :: ls) st p g = gb_ex m r (a0 :: a1 :: .int x :: ls) (.int x :: st) p g := gb_ex_nx rfl
theorem x_iload_3 {m : Nat} {r : List Instr} {ls st : List Value} {p : gb_Pi} {g : gb_Sg} {a0 a1 a2 : Value} {x : Int32} : gb_ex m (.iload 3 :: r) (a0 :: a1 :: a2 :: .int x :: ls) st p g = gb_ex m r (a0 :: a1 :: a2 :: .int x :: ls) (.int x :: st) p g := gb_ex_nx rfl
theorem x_iload_4 {m : Nat} {r : List Instr} {ls st : List Value} {p : gb_Pi} {g : gb_Sg} {a0 a1 a2 a3 : Value} {x : Int32} : gb_ex m (.iload 4 :: r) (a0 :: a1 :: a2 :: a3 :: .int x :: ls) st p g = gb_ex m r (a0 :: a1 :: a2 :: a3 :: .int x :: ls) (.int x :: st) p g := gb_ex_nx rfl
theorem x_iload_5 {m : Nat} {r : List Instr} {ls st : List Value} {p : gb_Pi} {g : gb_Sg} {a0 a1 a2 a3 a4 : Value} {x : Int32} : gb_ex m (.iload 5 :: r) (a0 :: a1 :: a2 :: a3 :: a4 :: .int x :: ls) st p g = gb_ex m r (a0 :: a1 :: a2 :: a3 :: a4 :: .int x :: ls) (.int x :: st) p g := gb_ex_nx rfl
theorem x_iload_6 {m : Nat} {r : List Instr} {ls st : List Value} {p : gb_Pi} {g : gb_Sg} {a0 a1 a2 a3 a4 a5 : Value} {x : Int32} : gb_ex m (.iload 6 :: r) (a0 :: a1 :: a2 :: a3 :: a4 :: a5 :: .int x :: ls) st p g = gb_ex m r (a0 :: a1 :: a2 :: a3 :: a4 :: a5 :: .int x :: ls) (.int x :: st) p g := gb_ex_nx rfl
theorem x_iload_7 {m : Nat} {r : List Instr} {ls st : List Value} {p : gb_Pi} {g : gb_Sg} {a0 a1 a2 a3 a4 a5 a6 : Value} {x : Int32} : gb_ex m (.iload 7 :: r) (a0 :: a1 :: a2 :: a3 :: a4 :: a5 :: a6 :: .int x :: ls) st p g = gb_ex m r (a0 :: a1 :: a2 :: a3 :: a4 :: a5 :: a6 :: .int x :: ls) (.int x :: st) p g := gb_ex_nx rfl
theorem x_iload_8 {m : Nat} {r : List Instr} {ls st : List Value} {p : gb_Pi} {g : gb_Sg} {a0 a1 a2 a3 a4 a5 a6 a7 : Value} {x : Int32} : gb_ex m (.iload 8 :: r) (a0 :: a1 :: a2 :: a3 :: a4 :: a5 :: a6 :: a7 :: .int x :: ls) st p g = gb_ex m r (a0 :: a1 :: a2 :: a3 :: a4 :: a5 :: a6 :: a7 :: .int x :: ls) (.int x :: st) p g := gb_ex_nx rfl
theorem x_iload_9 {m : Nat} {r : List Instr} {ls st : List Value} {p : gb_Pi} {g : gb_Sg} {a0 a1 a2 a3 a4 a5 a6 a7 a8 : Value} {x : Int32} : gb_ex m (.iload 9 :: r) (a0 :: a1 :: a2 :: a3 :: a4 :: a5 :: a6 :: a7 :: a8 :: .int x :: ls) st p g = gb_ex m r (a0 :: a1 :: a2 :: a3 :: a4 :: a5 :: a6 :: a7 :: a8 :: .int x :: ls) (.int x :: st) p g := gb_ex_nx rfl
theorem x_iload_10 {m : Nat} {r : List Instr} {ls st : List Value} {p : gb_Pi} {g : gb_Sg} {a0 a1 a2 a3 a4 a5 a6 a7 a8 a9 : Value} {x : Int32} : gb_ex m (.iload 10 :: r) (a0 :: a1 :: a2 :: a3 :: a4 :: a5 :: a6 :: a7 :: a8 :: a9 :: .int x :: ls) st p g = gb_ex m r (a0 :: a1 :: a2 :: a3 :: a4 :: a5 :: a6 :: a7 :: a8 :: a9 :: .int x :: ls) (.int x :: st) p g := gb_ex_nx rfl
theorem x_iload_11 {m : Nat} {r : List Instr} {ls st : List Value} {p : gb_Pi} {g : gb_Sg} {a0 a1 a2 a3 a4 a5 a6 a7 a8 a9 a10 : Value} {x : Int32} : gb_ex m (.iload 11 :: r) (a0 :: a1 :: a2 :: a3 :: a4 :: a5 :: a6 :: a7 :: a8 :: a9 :: a10 :: .int x :: ls) st p g = gb_ex m r (a0 :: a1 :: a2 :: a3 :: a4 :: a5 :: a6 :: a7 :: a8 :: a9 :: a10 :: .int x :: ls) (.int x :: st) p g := gb_ex_nx rfl
theorem x_iload_12 {m : Nat} {r : List Instr} {ls st : List Value} {p : gb_Pi} {g : gb_Sg} {a0 a1 a2 a3 a4 a5 a6 a7 a8 a9 a10 a11 : Value} {x : Int32} : gb_ex m (.iload 12 :: r) (a0 :: a1 :: a2 :: a3 :: a4 :: a5 :: a6 :: a7 :: a8 :: a9 :: a10 :: a11 :: .int x :: ls) st p g = gb_ex m r (a0 :: a1 :: a2 :: a3 :: a4 :: a5 :: a6 :: a7 :: a8 :: a9 :: a10 :: a11 :: .int x :: ls) (.int x :: st) p g := gb_ex_nx rfl
theorem x_iload_13 {m : Nat} {r : List Instr} {ls st : List Value} {p : gb_Pi} {g : gb_Sg} {a0 a1 a2 a3 a4 a5 a6 a7 a8 a9 a10 a11 a12 : Value} {x : Int32} : gb_ex m (.iload 13 :: r) (a0 :: a1 :: a2 :: a3 :: a4 :: a5 :: a6 :: a7 :: a8 :: a9 :: a10 :: a11 :: a12 :: .int x :: ls) st p g = gb_ex m r (a0 :: a1 :: a2 :: a3 :: a4 :: a5 :: a6 :: a7 :: a8 :: a9 :: a10 :: a11 :: a12 :: .int x :: ls) (.int x :: st) p g := gb_ex_nx rfl
theorem x_iload_14 {m : Nat} {r : List Instr} {ls st : List Value} {p : gb_Pi} {g : gb_Sg} {a0 a1 a2 a3 a4 a5 a6 a7 a8 a9 a10 a11 a12 a13 : Value} {x : Int32} : gb_ex m (.iload 14 :: r) (a0 :: a1 :: a2 :: a3 :: a4 :: a5 :: a6 :: a7 :: a8 :: a9 :: a10 :: a11 :: a12 :: a13 :: .int x :: ls) st p g = gb_ex m r (a0 :: a1 :: a2 :: a3 :: a4 :: a5 :: a6 :: a7 :: a8 :: a9 :: a10 :: a11 :: a12 :: a13 :: .int x :: ls) (.int x :: st) p g := gb_ex_nx rfl
theorem x_lload_0 {m : Nat} {r : List Instr} {ls st : List Value} {p : gb_Pi} {g : gb_Sg} {x : Int64} : gb_ex m (.lload 0 :: r) (.long x :: ls) st p g = gb_ex m r (.long x :: ls) (.long x :: st) p g := gb_ex_nx rfl
theorem x_lload_1 {m : Nat} {r : List Instr} {ls st : List Value} {p : gb_Pi} {g : gb_Sg} {a0 : Value} {x : Int64} : gb_ex m (.lload 1 :: r) (a0 :: .long x :: ls) st p g = gb_ex m r (a0 :: .long x :: ls) (.long x :: st) p g := gb_ex_nx rfl
theorem x_lload_2 {m : Nat} {r : List Instr} {ls st : List Value} {p : gb_Pi} {g : gb_Sg} {a0 a1 : Value} {x : Int64} : gb_ex m (.lload 2 :: r) (a0 :: a1 :: .long x :: ls) st p g = gb_ex m r (a0 :: a1 :: .long x :: ls) (.long x :: st) p g := gb_ex_nx rfl
theorem x_lload_3 {m : Nat} {r : List Instr} {ls st : List Value} {p : gb_Pi} {g : gb_Sg} {a0 a1 a2 : Value} {x : Int64} : gb_ex m (.lload 3 :: r) (a0 :: a1 :: a2 :: .long x :: ls) st p g = gb_ex m r (a0 :: a1 :: a2 :: .long x :: ls) (.long x :: st) p g := gb_ex_nx rfl
theorem x_lload_4 {m : Nat} {r : List Instr} {ls st : List Value} {p : gb_Pi} {g : gb_Sg} {a0 a1 a2 a3 : Value} {x : Int64} : gb_ex m (.lload 4 :: r) (a0 :: a1 :: a2 :: a3 :: .long x :: ls) st p g = gb_ex m r (a0 :: a1 :: a2 :: a3 :: .long x :: ls) (.long x :: st) p g := gb_ex_nx rfl
theorem x_lload_5 {m : Nat} {r : List Instr} {ls st : List Value} {p : gb_Pi} {g : gb_Sg} {a0 a1 a2 a3 a4 : Value} {x : Int64} : gb_ex m (.lload 5 :: r) (a0 :: a1 :: a2 :: a3 :: a4 :: .long x :: ls) st p g = gb_ex m r (a0 :: a1 :: a2 :: a3 :: a4 :: .long x :: ls) (.long x :: st) p g := gb_ex_nx rfl
theorem x_lload_6 {m : Nat} {r : List Instr} {ls st : List Value} {p : gb_Pi} {g : gb_Sg} {a0 a1 a2 a3 a4 a5 : Value} {x : Int64} : gb_ex m (.lload 6 :: r) (a0 :: a1 :: a2 :: a3 :: a4 :: a5 :: .long x :: ls) st p g = gb_ex m r (a0 :: a1 :: a2 :: a3 :: a4 :: a5 :: .long x :: ls) (.long x :: st) p g := gb_ex_nx rfl
theorem x_lload_7 {m : Nat} {r : List Instr} {ls st : List Value} {p : gb_Pi} {g : gb_Sg} {a0 a1 a2 a3 a4 a5 a6 : Value} {x : Int64} : gb_ex m (.lload 7 :: r) (a0 :: a1 :: a2 :: a3 :: a4 :: a5 :: a6 :: .long x :: ls) st p g = gb_ex m r (a0 :: a1 :: a2 :: a3 :: a4 :: a5 :: a6 :: .long x :: ls) (.long x :: st) p g := gb_ex_nx rfl
theorem x_lload_8 {m : Nat} {r : List Instr} {ls st : List Value} {p : gb_Pi} {g : gb_Sg} {a0 a1 a2 a3 a4 a5 a6 a7 : Value} {x : Int64} : gb_ex m (.lload 8 :: r) (a0 :: a1 :: a2 :: a3 :: a4 :: a5 :: a6 :: a7 :: .long x :: ls) st p g = gb_ex m r (a0 :: a1 :: a2 :: a3 :: a4 :: a5 :: a6 :: a7 :: .long x :: ls) (.long x :: st) p g := gb_ex_nx rfl
theorem x_lload_9 {m : Nat} {r : List Instr} {ls st : List Value} {p : gb_Pi} {g : gb_Sg} {a0 a1 a2 a3 a4 a5 a6 a7 a8 : Value} {x : Int64} : gb_ex m (.lload 9 :: r) (a0 :: a1 :: a2 :: a3 :: a4 :: a5 :: a6 :: a7 :: a8 :: .long x :: ls) st p g = gb_ex m r (a0 :: a1 :: a2 :: a3 :: a4 :: a5 :: a6 :: a7 :: a8 :: .long x :: ls) (.long x :: st) p g := gb_ex_nx rfl
theorem x_lload_12 {m : Nat} {r : List Instr} {ls st : List Value} {p : gb_Pi} {g : gb_Sg} {a0 a1 a2 a3 a4 a5 a6 a7 a8 a9 a10 a11 : Value} {x : Int64} : gb_ex m (.lload 12 :: r) (a0 :: a1 :: a2 :: a3 :: a4 :: a5 :: a6 :: a7 :: a8 :: a9 :: a10 :: a11 :: .long x :: ls) st p g = gb_ex m r (a0 :: a1 :: a2 :: a3 :: a4 :: a5 :: a6 :: a7 :: a8 :: a9 :: a10 :: a11 :: .long x :: ls) (.long x :: st) p g := gb_ex_nx rfl
theorem x_aload_0 {m : Nat} {r : List Instr} {ls st : List Value} {p : gb_Pi} {g : gb_Sg} {x : Nat} : gb_ex m (.aload 0 :: r) (.ref x :: ls) st p g = gb_ex m r (.ref x :: ls) (.ref x :: st) p g := gb_ex_nx rfl
theorem x_aload_1 {m : Nat} {r : List Instr} {ls st : List Value} {p : gb_Pi} {g : gb_Sg} {a0 : Value} {x : Nat} : gb_ex m (.aload 1 :: r) (a0 :: .ref x :: ls) st p g = gb_ex m r (a0 :: .ref x :: ls) (.ref x :: st) p g := gb_ex_nx rfl
theorem x_aload_2 {m : Nat} {r : List Instr} {ls st : List Value} {p : gb_Pi} {g : gb_Sg} {a0 a1 : Value} {x : Nat} : gb_ex m (.aload 2 :: r) (a0 :: a1 :: .ref x :: ls) st p g = gb_ex m r (a0 :: a1 :: .ref x :: ls) (.ref x :: st) p g := gb_ex_nx rfl
theorem x_aload_5 {m : Nat} {r : List Instr} {ls st : List Value} {p : gb_Pi} {g : gb_Sg} {a0 a1 a2 a3 a4 : Value} {x : Nat} : gb_ex m (.aload 5 :: r) (a0 :: a1 :: a2 :: a3 :: a4 :: .ref x :: ls) st p g = gb_ex m r (a0 :: a1 :: a2 :: a3 :: a4 :: .ref x :: ls) (.ref x :: st) p g := gb_ex_nx rfl
theorem x_aload_6 {m : Nat} {r : List Instr} {ls st : List Value} {p : gb_Pi} {g : gb_Sg} {a0 a1 a2 a3 a4 a5 : Value} {x : Nat} : gb_ex m (.aload 6 :: r) (a0 :: a1 :: a2 :: a3 :: a4 :: a5 :: .ref x :: ls) st p g = gb_ex m r (a0 :: a1 :: a2 :: a3 :: a4 :: a5 :: .ref x :: ls) (.ref x :: st) p g := gb_ex_nx rfl
theorem x_aload_s {m : Nat} {r : List Instr} {ls st : List Value} {p : gb_Pi} {g : gb_Sg} {x : Nat} : gb_ex m (.aload 0 :: r) (.retAddr x :: ls) st p g = gb_ex m r (.retAddr x :: ls) (.retAddr x :: st) p g := gb_ex_nx rfl
theorem x_istore_0 {m : Nat} {r : List Instr} {ls st : List Value} {p : gb_Pi} {g : gb_Sg} {a0 : Value} {x : Int32} : gb_ex m (.istore 0 :: r) (a0 :: ls) (.int x :: st) p g = gb_ex m r (.int x :: ls) st p g := gb_ex_nx (by simp [gb_stp, st1])
theorem x_istore_1 {m : Nat} {r : List Instr} {ls st : List Value} {p : gb_Pi} {g : gb_Sg} {a0 a1 : Value} {x : Int32} : gb_ex m (.istore 1 :: r) (a0 :: a1 :: ls) (.int x :: st) p g = gb_ex m r (kil a0 :: .int x :: ls) st p g := gb_ex_nx (by simp [gb_stp, st1])
theorem x_istore_2 {m : Nat} {r : List Instr} {ls st : List Value} {p : gb_Pi} {g : gb_Sg} {a0 a1 a2 : Value} {x : Int32} : gb_ex m (.istore 2 :: r) (a0 :: a1 :: a2 :: ls) (.int x :: st) p g = gb_ex m r (a0 :: kil a1 :: .int x :: ls) st p g := gb_ex_nx (by simp [gb_stp, st1])
theorem x_istore_3 {m : Nat} {r : List Instr} {ls st : List Value} {p : gb_Pi} {g : gb_Sg} {a0 a1 a2 a3 : Value} {x : Int32} : gb_ex m (.istore 3 :: r) (a0 :: a1 :: a2 :: a3 :: ls) (.int x :: st) p g = gb_ex m r (a0 :: a1 :: kil a2 :: .int x :: ls) st p g := gb_ex_nx (by simp [gb_stp, st1])
theorem x_istore_4 {m : Nat} {r : List Instr} {ls st : List Value} {p : gb_Pi} {g : gb_Sg} {a0 a1 a2 a3 a4 : Value} {x : Int32} : gb_ex m (.istore 4 :: r) (a0 :: a1 :: a2 :: a3 :: a4 :: ls) (.int x :: st) p g = gb_ex m r (a0 :: a1 :: a2 :: kil a3 :: .int x :: ls) st p g := gb_ex_nx (by simp [gb_stp, st1])
theorem x_istore_5 {m : Nat} {r : List Instr} {ls st : List Value} {p : gb_Pi} {g : gb_Sg} {a0 a1 a2 a3 a4 a5 : Value} {x : Int32} : gb_ex m (.istore 5 :: r) (a0 :: a1 :: a2 :: a3 :: a4 :: a5 :: ls) (.int x :: st) p g = gb_ex m r (a0 :: a1 :: a2 :: a3 :: kil a4 :: .int x :: ls) st p g := gb_ex_nx (by simp [gb_stp, st1])
theorem x_istore_6 {m : Nat} {r : List Instr} {ls st : List Value} {p : gb_Pi} {g : gb_Sg} {a0 a1 a2 a3 a4 a5 a6 : Value} {x : Int32} : gb_ex m (.istore 6 :: r) (a0 :: a1 :: a2 :: a3 :: a4 :: a5 :: a6 :: ls) (.int x :: st) p g = gb_ex m r (a0 :: a1 :: a2 :: a3 :: a4 :: kil a5 :: .int x :: ls) st p g := gb_ex_nx (by simp [gb_stp, st1])
theorem x_istore_7 {m : Nat} {r : List Instr} {ls st : List Value} {p : gb_Pi} {g : gb_Sg} {a0 a1 a2 a3 a4 a5 a6 a7 : Value} {x : Int32} : gb_ex m (.istore 7 :: r) (a0 :: a1 :: a2 :: a3 :: a4 :: a5 :: a6 :: a7 :: ls) (.int x :: st) p g = gb_ex m r (a0 :: a1 :: a2 :: a3 :: a4 :: a5 :: kil a6 :: .int x :: ls) st p g := gb_ex_nx (by simp [gb_stp, st1])
theorem x_istore_8 {m : Nat} {r : List Instr} {ls st : List Value} {p : gb_Pi} {g : gb_Sg} {a0 a1 a2 a3 a4 a5 a6 a7 a8 : Value} {x : Int32} : gb_ex m (.istore 8 :: r) (a0 :: a1 :: a2 :: a3 :: a4 :: a5 :: a6 :: a7 :: a8 :: ls) (.int x :: st) p g = gb_ex m r (a0 :: a1 :: a2 :: a3 :: a4 :: a5 :: a6 :: kil a7 :: .int x :: ls) st p g := gb_ex_nx (by simp [gb_stp, st1])
theorem x_istore_9 {m : Nat} {r : List Instr} {ls st : List Value} {p : gb_Pi} {g : gb_Sg} {a0 a1 a2 a3 a4 a5 a6 a7 a8 a9 : Value} {x : Int32} : gb_ex m (.istore 9 :: r) (a0 :: a1 :: a2 :: a3 :: a4 :: a5 :: a6 :: a7 :: a8 :: a9 :: ls) (.int x :: st) p g = gb_ex m r (a0 :: a1 :: a2 :: a3 :: a4 :: a5 :: a6 :: a7 :: kil a8 :: .int x :: ls) st p g := gb_ex_nx (by simp [gb_stp, st1])
theorem x_istore_10 {m : Nat} {r : List Instr} {ls st : List Value} {p : gb_Pi} {g : gb_Sg} {a0 a1 a2 a3 a4 a5 a6 a7 a8 a9 a10 : Value} {x : Int32} : gb_ex m (.istore 10 :: r) (a0 :: a1 :: a2 :: a3 :: a4 :: a5 :: a6 :: a7 :: a8 :: a9 :: a10 :: ls) (.int x :: st) p g = gb_ex m r (a0 :: a1 :: a2 :: a3 :: a4 :: a5 :: a6 :: a7 :: a8 :: kil a9 :: .int x :: ls) st p g := gb_ex_nx (by simp [gb_stp, st1])
theorem x_istore_11 {m : Nat} {r : List Instr} {ls st : List Value} {p : gb_Pi} {g : gb_Sg} {a0 a1 a2 a3 a4 a5 a6 a7 a8 a9 a10 a11 : Value} {x : Int32} : gb_ex m (.istore 11 :: r) (a0 :: a1 :: a2 :: a3 :: a4 :: a5 :: a6 :: a7 :: a8 :: a9 :: a10 :: a11 :: ls) (.int x :: st) p g = gb_ex m r (a0 :: a1 :: a2 :: a3 :: a4 :: a5 :: a6 :: a7 :: a8 :: a9 :: kil a10 :: .int x :: ls) st p g := gb_ex_nx (by simp [gb_stp, st1])
theorem x_istore_12 {m : Nat} {r : List Instr} {ls st : List Value} {p : gb_Pi} {g : gb_Sg} {a0 a1 a2 a3 a4 a5 a6 a7 a8 a9 a10 a11 a12 : Value} {x : Int32} : gb_ex m (.istore 12 :: r) (a0 :: a1 :: a2 :: a3 :: a4 :: a5 :: a6 :: a7 :: a8 :: a9 :: a10 :: a11 :: a12 :: ls) (.int x :: st) p g = gb_ex m r (a0 :: a1 :: a2 :: a3 :: a4 :: a5 :: a6 :: a7 :: a8 :: a9 :: a10 :: kil a11 :: .int x :: ls) st p g := gb_ex_nx (by simp [gb_stp, st1])
theorem x_istore_13 {m : Nat} {r : List Instr} {ls st : List Value} {p : gb_Pi} {g : gb_Sg} {a0 a1 a2 a3 a4 a5 a6 a7 a8 a9 a10 a11 a12 a13 : Value} {x : Int32} : gb_ex m (.istore 13 :: r) (a0 :: a1 :: a2 :: a3 :: a4 :: a5 :: a6 :: a7 :: a8 :: a9 :: a10 :: a11 :: a12 :: a13 :: ls) (.int x :: st) p g = gb_ex m r (a0 :: a1 :: a2 :: a3 :: a4 :: a5 :: a6 :: a7 :: a8 :: a9 :: a10 :: a11 :: kil a12 :: .int x :: ls) st p g := gb_ex_nx (by simp [gb_stp, st1])
theorem x_istore_14 {m : Nat} {r : List Instr} {ls st : List Value} {p : gb_Pi} {g : gb_Sg} {a0 a1 a2 a3 a4 a5 a6 a7 a8 a9 a10 a11 a12 a13 a14 : Value} {x : Int32} : gb_ex m (.istore 14 :: r) (a0 :: a1 :: a2 :: a3 :: a4 :: a5 :: a6 :: a7 :: a8 :: a9 :: a10 :: a11 :: a12 :: a13 :: a14 :: ls) (.int x :: st) p g = gb_ex m r (a0 :: a1 :: a2 :: a3 :: a4 :: a5 :: a6 :: a7 :: a8 :: a9 :: a10 :: a11 :: a12 :: kil a13 :: .int x :: ls) st p g := gb_ex_nx (by simp [gb_stp, st1])
theorem x_astore_1 {m : Nat} {r : List Instr} {ls st : List Value} {p : gb_Pi} {g : gb_Sg} {a0 a1 : Value} {x : Nat} : gb_ex m (.astore 1 :: r) (a0 :: a1 :: ls) (.ref x :: st) p g = gb_ex m r (kil a0 :: .ref x :: ls) st p g := gb_ex_nx (by simp [gb_stp, st1])
theorem x_astore_2 {m : Nat} {r : List Instr} {ls st : List Value} {p : gb_Pi} {g : gb_Sg} {a0 a1 a2 : Value} {x : Nat} : gb_ex m (.astore 2 :: r) (a0 :: a1 :: a2 :: ls) (.ref x :: st) p g = gb_ex m r (a0 :: kil a1 :: .ref x :: ls) st p g := gb_ex_nx (by simp [gb_stp, st1])
theorem x_astore_5 {m : Nat} {r : List Instr} {ls st : List Value} {p : gb_Pi} {g : gb_Sg} {a0 a1 a2 a3 a4 a5 : Value} {x : Nat} : gb_ex m (.astore 5 :: r) (a0 :: a1 :: a2 :: a3 :: a4 :: a5 :: ls) (.ref x :: st) p g = gb_ex m r (a0 :: a1 :: a2 :: a3 :: kil a4 :: .ref x :: ls) st p g := gb_ex_nx (by simp [gb_stp, st1])
theorem x_astore_6 {m : Nat} {r : List Instr} {ls st : List Value} {p : gb_Pi} {g : gb_Sg} {a0 a1 a2 a3 a4 a5 a6 : Value} {x : Nat} : gb_ex m (.astore 6 :: r) (a0 :: a1 :: a2 :: a3 :: a4 :: a5 :: a6 :: ls) (.ref x :: st) p g = gb_ex m r (a0 :: a1 :: a2 :: a3 :: a4 :: kil a5 :: .ref x :: ls) st p g := gb_ex_nx (by simp [gb_stp, st1])
theorem x_lstore_3 {m : Nat} {r : List Instr} {ls st : List Value} {p : gb_Pi} {g : gb_Sg} {a0 a1 a2 a3 a4 : Value} {x : Int64} : gb_ex m (.lstore 3 :: r) (a0 :: a1 :: a2 :: a3 :: a4 :: ls) (.long x :: st) p g = gb_ex m r (a0 :: a1 :: kil a2 :: .long x :: .null :: ls) st p g := gb_ex_nx (by simp [gb_stp, st2])
theorem x_lstore_4 {m : Nat} {r : List Instr} {ls st : List Value} {p : gb_Pi} {g : gb_Sg} {a0 a1 a2 a3 a4 a5 : Value} {x : Int64} : gb_ex m (.lstore 4 :: r) (a0 :: a1 :: a2 :: a3 :: a4 :: a5 :: ls) (.long x :: st) p g = gb_ex m r (a0 :: a1 :: a2 :: kil a3 :: .long x :: .null :: ls) st p g := gb_ex_nx (by simp [gb_stp, st2])
theorem x_lstore_5 {m : Nat} {r : List Instr} {ls st : List Value} {p : gb_Pi} {g : gb_Sg} {a0 a1 a2 a3 a4 a5 a6 : Value} {x : Int64} : gb_ex m (.lstore 5 :: r) (a0 :: a1 :: a2 :: a3 :: a4 :: a5 :: a6 :: ls) (.long x :: st) p g = gb_ex m r (a0 :: a1 :: a2 :: a3 :: kil a4 :: .long x :: .null :: ls) st p g := gb_ex_nx (by simp [gb_stp, st2])
theorem x_lstore_6 {m : Nat} {r : List Instr} {ls st : List Value} {p : gb_Pi} {g : gb_Sg} {a0 a1 a2 a3 a4 a5 a6 a7 : Value} {x : Int64} : gb_ex m (.lstore 6 :: r) (a0 :: a1 :: a2 :: a3 :: a4 :: a5 :: a6 :: a7 :: ls) (.long x :: st) p g = gb_ex m r (a0 :: a1 :: a2 :: a3 :: a4 :: kil a5 :: .long x :: .null :: ls) st p g := gb_ex_nx (by simp [gb_stp, st2])
theorem x_lstore_7 {m : Nat} {r : List Instr} {ls st : List Value} {p : gb_Pi} {g : gb_Sg} {a0 a1 a2 a3 a4 a5 a6 a7 a8 : Value} {x : Int64} : gb_ex m (.lstore 7 :: r) (a0 :: a1 :: a2 :: a3 :: a4 :: a5 :: a6 :: a7 :: a8 :: ls) (.long x :: st) p g = gb_ex m r (a0 :: a1 :: a2 :: a3 :: a4 :: a5 :: kil a6 :: .long x :: .null :: ls) st p g := gb_ex_nx (by simp [gb_stp, st2])
theorem x_lstore_8 {m : Nat} {r : List Instr} {ls st : List Value} {p : gb_Pi} {g : gb_Sg} {a0 a1 a2 a3 a4 a5 a6 a7 a8 a9 : Value} {x : Int64} : gb_ex m (.lstore 8 :: r) (a0 :: a1 :: a2 :: a3 :: a4 :: a5 :: a6 :: a7 :: a8 :: a9 :: ls) (.long x :: st) p g = gb_ex m r (a0 :: a1 :: a2 :: a3 :: a4 :: a5 :: a6 :: kil a7 :: .long x :: .null :: ls) st p g := gb_ex_nx (by simp [gb_stp, st2])
theorem x_lstore_9 {m : Nat} {r : List Instr} {ls st : List Value} {p : gb_Pi} {g : gb_Sg} {a0 a1 a2 a3 a4 a5 a6 a7 a8 a9 a10 : Value} {x : Int64} : gb_ex m (.lstore 9 :: r) (a0 :: a1 :: a2 :: a3 :: a4 :: a5 :: a6 :: a7 :: a8 :: a9 :: a10 :: ls) (.long x :: st) p g = gb_ex m r (a0 :: a1 :: a2 :: a3 :: a4 :: a5 :: a6 :: a7 :: kil a8 :: .long x :: .null :: ls) st p g := gb_ex_nx (by simp [gb_stp, st2])
theorem x_lstore_12 {m : Nat} {r : List Instr} {ls st : List Value} {p : gb_Pi} {g : gb_Sg} {a0 a1 a2 a3 a4 a5 a6 a7 a8 a9 a10 a11 a12 a13 : Value} {x : Int64} : gb_ex m (.lstore 12 :: r) (a0 :: a1 :: a2 :: a3 :: a4 :: a5 :: a6 :: a7 :: a8 :: a9 :: a10 :: a11 :: a12 :: a13 :: ls) (.long x :: st) p g = gb_ex m r (a0 :: a1 :: a2 :: a3 :: a4 :: a5 :: a6 :: a7 :: a8 :: a9 :: a10 :: kil a11 :: .long x :: .null :: ls) st p g := gb_ex_nx (by simp [gb_stp, st2])
theorem x_iinc_1_1 {m : Nat} {r : List Instr} {ls st : List Value} {p : gb_Pi} {g : gb_Sg} {a0 : Value} {x : Int32} : gb_ex m (.iinc 1 1 :: r) (a0 :: .int x :: ls) st p g = gb_ex m r (kil a0 :: .int (x + 1) :: ls) st p g := gb_ex_nx (by
  have h : Int32.ofInt 1 = 1 := by decide
  simp only [gb_stp, st1, ← h]
  rfl)
theorem x_iinc_10_1 {m : Nat} {r : List Instr} {ls st : List Value} {p : gb_Pi} {g : gb_Sg} {a0 a1 a2 a3 a4 a5 a6 a7 a8 a9 : Value} {x : Int32} : gb_ex m (.iinc 10 1 :: r) (a0 :: a1 :: a2 :: a3 :: a4 :: a5 :: a6 :: a7 :: a8 :: a9 :: .int x :: ls) st p g = gb_ex m r (a0 :: a1 :: a2 :: a3 :: a4 :: a5 :: a6 :: a7 :: a8 :: kil a9 :: .int (x + 1) :: ls) st p g := gb_ex_nx (by
  have h : Int32.ofInt 1 = 1 := by decide
  simp only [gb_stp, st1, ← h]
  rfl)
theorem x_iinc_11_1 {m : Nat} {r : List Instr} {ls st : List Value} {p : gb_Pi} {g : gb_Sg} {a0 a1 a2 a3 a4 a5 a6 a7 a8 a9 a10 : Value} {x : Int32} : gb_ex m (.iinc 11 1 :: r) (a0 :: a1 :: a2 :: a3 :: a4 :: a5 :: a6 :: a7 :: a8 :: a9 :: a10 :: .int x :: ls) st p g = gb_ex m r (a0 :: a1 :: a2 :: a3 :: a4 :: a5 :: a6 :: a7 :: a8 :: a9 :: kil a10 :: .int (x + 1) :: ls) st p g := gb_ex_nx (by
  have h : Int32.ofInt 1 = 1 := by decide
  simp only [gb_stp, st1, ← h]
  rfl)
theorem x_iinc_13_1 {m : Nat} {r : List Instr} {ls st : List Value} {p : gb_Pi} {g : gb_Sg} {a0 a1 a2 a3 a4 a5 a6 a7 a8 a9 a10 a11 a12 : Value} {x : Int32} : gb_ex m (.iinc 13 1 :: r) (a0 :: a1 :: a2 :: a3 :: a4 :: a5 :: a6 :: a7 :: a8 :: a9 :: a10 :: a11 :: a12 :: .int x :: ls) st p g = gb_ex m r (a0 :: a1 :: a2 :: a3 :: a4 :: a5 :: a6 :: a7 :: a8 :: a9 :: a10 :: a11 :: kil a12 :: .int (x + 1) :: ls) st p g := gb_ex_nx (by
  have h : Int32.ofInt 1 = 1 := by decide
  simp only [gb_stp, st1, ← h]
  rfl)
theorem x_iinc_2_m1 {m : Nat} {r : List Instr} {ls st : List Value} {p : gb_Pi} {g : gb_Sg} {a0 a1 : Value} {x : Int32} : gb_ex m (.iinc 2 (-1) :: r) (a0 :: a1 :: .int x :: ls) st p g = gb_ex m r (a0 :: kil a1 :: .int (x + (-1)) :: ls) st p g := gb_ex_nx (by
  have h : Int32.ofInt (-1) = (-1) := by decide
  simp only [gb_stp, st1, ← h]
  rfl)
theorem x_iinc_2_1 {m : Nat} {r : List Instr} {ls st : List Value} {p : gb_Pi} {g : gb_Sg} {a0 a1 : Value} {x : Int32} : gb_ex m (.iinc 2 1 :: r) (a0 :: a1 :: .int x :: ls) st p g = gb_ex m r (a0 :: kil a1 :: .int (x + 1) :: ls) st p g := gb_ex_nx (by
  have h : Int32.ofInt 1 = 1 := by decide
  simp only [gb_stp, st1, ← h]
  rfl)
theorem x_iinc_3_m1 {m : Nat} {r : List Instr} {ls st : List Value} {p : gb_Pi} {g : gb_Sg} {a0 a1 a2 : Value} {x : Int32} : gb_ex m (.iinc 3 (-1) :: r) (a0 :: a1 :: a2 :: .int x :: ls) st p g = gb_ex m r (a0 :: a1 :: kil a2 :: .int (x + (-1)) :: ls) st p g := gb_ex_nx (by
  have h : Int32.ofInt (-1) = (-1) := by decide
  simp only [gb_stp, st1, ← h]
  rfl)
theorem x_iinc_3_1 {m : Nat} {r : List Instr} {ls st : List Value} {p : gb_Pi} {g : gb_Sg} {a0 a1 a2 : Value} {x : Int32} : gb_ex m (.iinc 3 1 :: r) (a0 :: a1 :: a2 :: .int x :: ls) st p g = gb_ex m r (a0 :: a1 :: kil a2 :: .int (x + 1) :: ls) st p g := gb_ex_nx (by
  have h : Int32.ofInt 1 = 1 := by decide
  simp only [gb_stp, st1, ← h]
  rfl)
theorem x_iinc_3_6 {m : Nat} {r : List Instr} {ls st : List Value} {p : gb_Pi} {g : gb_Sg} {a0 a1 a2 : Value} {x : Int32} : gb_ex m (.iinc 3 6 :: r) (a0 :: a1 :: a2 :: .int x :: ls) st p g = gb_ex m r (a0 :: a1 :: kil a2 :: .int (x + 6) :: ls) st p g := gb_ex_nx (by
  have h : Int32.ofInt 6 = 6 := by decide
  simp only [gb_stp, st1, ← h]
  rfl)
theorem x_iinc_4_m1 {m : Nat} {r : List Instr} {ls st : List Value} {p : gb_Pi} {g : gb_Sg} {a0 a1 a2 a3 : Value} {x : Int32} : gb_ex m (.iinc 4 (-1) :: r) (a0 :: a1 :: a2 :: a3 :: .int x :: ls) st p g = gb_ex m r (a0 :: a1 :: a2 :: kil a3 :: .int (x + (-1)) :: ls) st p g := gb_ex_nx (by
  have h : Int32.ofInt (-1) = (-1) := by decide
  simp only [gb_stp, st1, ← h]
  rfl)
theorem x_iinc_4_1 {m : Nat} {r : List Instr} {ls st : List Value} {p : gb_Pi} {g : gb_Sg} {a0 a1 a2 a3 : Value} {x : Int32} : gb_ex m (.iinc 4 1 :: r) (a0 :: a1 :: a2 :: a3 :: .int x :: ls) st p g = gb_ex m r (a0 :: a1 :: a2 :: kil a3 :: .int (x + 1) :: ls) st p g := gb_ex_nx (by
  have h : Int32.ofInt 1 = 1 := by decide
  simp only [gb_stp, st1, ← h]
  rfl)
theorem x_iinc_5_m1 {m : Nat} {r : List Instr} {ls st : List Value} {p : gb_Pi} {g : gb_Sg} {a0 a1 a2 a3 a4 : Value} {x : Int32} : gb_ex m (.iinc 5 (-1) :: r) (a0 :: a1 :: a2 :: a3 :: a4 :: .int x :: ls) st p g = gb_ex m r (a0 :: a1 :: a2 :: a3 :: kil a4 :: .int (x + (-1)) :: ls) st p g := gb_ex_nx (by
  have h : Int32.ofInt (-1) = (-1) := by decide
  simp only [gb_stp, st1, ← h]
  rfl)
theorem x_iinc_5_1 {m : Nat} {r : List Instr} {ls st : List Value} {p : gb_Pi} {g : gb_Sg} {a0 a1 a2 a3 a4 : Value} {x : Int32} : gb_ex m (.iinc 5 1 :: r) (a0 :: a1 :: a2 :: a3 :: a4 :: .int x :: ls) st p g = gb_ex m r (a0 :: a1 :: a2 :: a3 :: kil a4 :: .int (x + 1) :: ls) st p g := gb_ex_nx (by
  have h : Int32.ofInt 1 = 1 := by decide
  simp only [gb_stp, st1, ← h]
  rfl)
theorem x_iinc_6_m1 {m : Nat} {r : List Instr} {ls st : List Value} {p : gb_Pi} {g : gb_Sg} {a0 a1 a2 a3 a4 a5 : Value} {x : Int32} : gb_ex m (.iinc 6 (-1) :: r) (a0 :: a1 :: a2 :: a3 :: a4 :: a5 :: .int x :: ls) st p g = gb_ex m r (a0 :: a1 :: a2 :: a3 :: a4 :: kil a5 :: .int (x + (-1)) :: ls) st p g := gb_ex_nx (by
  have h : Int32.ofInt (-1) = (-1) := by decide
  simp only [gb_stp, st1, ← h]
  rfl)
theorem x_iinc_6_1 {m : Nat} {r : List Instr} {ls st : List Value} {p : gb_Pi} {g : gb_Sg} {a0 a1 a2 a3 a4 a5 : Value} {x : Int32} : gb_ex m (.iinc 6 1 :: r) (a0 :: a1 :: a2 :: a3 :: a4 :: a5 :: .int x :: ls) st p g = gb_ex m r (a0 :: a1 :: a2 :: a3 :: a4 :: kil a5 :: .int (x + 1) :: ls) st p g := gb_ex_nx (by
  have h : Int32.ofInt 1 = 1 := by decide
  simp only [gb_stp, st1, ← h]
  rfl)
theorem x_iinc_7_1 {m : Nat} {r : List Instr} {ls st : List Value} {p : gb_Pi} {g : gb_Sg} {a0 a1 a2 a3 a4 a5 a6 : Value} {x : Int32} : gb_ex m (.iinc 7 1 :: r) (a0 :: a1 :: a2 :: a3 :: a4 :: a5 :: a6 :: .int x :: ls) st p g = gb_ex m r (a0 :: a1 :: a2 :: a3 :: a4 :: a5 :: kil a6 :: .int (x + 1) :: ls) st p g := gb_ex_nx (by
  have h : Int32.ofInt 1 = 1 := by decide
  simp only [gb_stp, st1, ← h]
  rfl)
theorem x_iinc_8_1 {m : Nat} {r : List Instr} {ls st : List Value} {p : gb_Pi} {g : gb_Sg} {a0 a1 a2 a3 a4 a5 a6 a7 : Value} {x : Int32} : gb_ex m (.iinc 8 1 :: r) (a0 :: a1 :: a2 :: a3 :: a4 :: a5 :: a6 :: a7 :: .int x :: ls) st p g = gb_ex m r (a0 :: a1 :: a2 :: a3 :: a4 :: a5 :: a6 :: kil a7 :: .int (x + 1) :: ls) st p g := gb_ex_nx (by
  have h : Int32.ofInt 1 = 1 := by decide
  simp only [gb_stp, st1, ← h]
  rfl)
theorem x_iinc_9_1 {m : Nat} {r : List Instr} {ls st : List Value} {p : gb_Pi} {g : gb_Sg} {a0 a1 a2 a3 a4 a5 a6 a7 a8 : Value} {x : Int32} : gb_ex m (.iinc 9 1 :: r) (a0 :: a1 :: a2 :: a3 :: a4 :: a5 :: a6 :: a7 :: a8 :: .int x :: ls) st p g = gb_ex m r (a0 :: a1 :: a2 :: a3 :: a4 :: a5 :: a6 :: a7 :: kil a8 :: .int (x + 1) :: ls) st p g := gb_ex_nx (by
  have h : Int32.ofInt 1 = 1 := by decide
  simp only [gb_stp, st1, ← h]
  rfl)
theorem x_c_m99 {m : Nat} {r : List Instr} {ls st : List Value} {p : gb_Pi} {g : gb_Sg} : gb_ex m (.sipush (-99) :: r) ls st p g = gb_ex m r ls (.int (-99) :: st) p g := gb_ex_nx (by
  have h : Int32.ofInt (-99) = (-99) := by decide
  rw [← h]
  rfl)
theorem x_c_m9 {m : Nat} {r : List Instr} {ls st : List Value} {p : gb_Pi} {g : gb_Sg} : gb_ex m (.sipush (-9) :: r) ls st p g = gb_ex m r ls (.int (-9) :: st) p g := gb_ex_nx (by
  have h : Int32.ofInt (-9) = (-9) := by decide
  rw [← h]
  rfl)
theorem x_c_m4 {m : Nat} {r : List Instr} {ls st : List Value} {p : gb_Pi} {g : gb_Sg} : gb_ex m (.sipush (-4) :: r) ls st p g = gb_ex m r ls (.int (-4) :: st) p g := gb_ex_nx (by
  have h : Int32.ofInt (-4) = (-4) := by decide
  rw [← h]
  rfl)
theorem x_c_m3 {m : Nat} {r : List Instr} {ls st : List Value} {p : gb_Pi} {g : gb_Sg} : gb_ex m (.sipush (-3) :: r) ls st p g = gb_ex m r ls (.int (-3) :: st) p g := gb_ex_nx (by
  have h : Int32.ofInt (-3) = (-3) := by decide
  rw [← h]
  rfl)
theorem x_c_m2 {m : Nat} {r : List Instr} {ls st : List Value} {p : gb_Pi} {g : gb_Sg} : gb_ex m (.sipush (-2) :: r) ls st p g = gb_ex m r ls (.int (-2) :: st) p g := gb_ex_nx (by
  have h : Int32.ofInt (-2) = (-2) := by decide
  rw [← h]
  rfl)
theorem x_c_m1 {m : Nat} {r : List Instr} {ls st : List Value} {p : gb_Pi} {g : gb_Sg} : gb_ex m (.sipush (-1) :: r) ls st p g = gb_ex m r ls (.int (-1) :: st) p g := gb_ex_nx (by
  have h : Int32.ofInt (-1) = (-1) := by decide
  rw [← h]
  rfl)
theorem x_c_0 {m : Nat} {r : List Instr} {ls st : List Value} {p : gb_Pi} {g : gb_Sg} : gb_ex m (.sipush 0 :: r) ls st p g = gb_ex m r ls (.int 0 :: st) p g := gb_ex_nx (by
  have h : Int32.ofInt 0 = 0 := by decide
  rw [← h]
  rfl)
theorem x_c_1 {m : Nat} {r : List Instr} {ls st : List Value} {p : gb_Pi} {g : gb_Sg} : gb_ex m (.sipush 1 :: r) ls st p g = gb_ex m r ls (.int 1 :: st) p g := gb_ex_nx (by
  have h : Int32.ofInt 1 = 1 := by decide
  rw [← h]
  rfl)
theorem x_c_2 {m : Nat} {r : List Instr} {ls st : List Value} {p : gb_Pi} {g : gb_Sg} : gb_ex m (.sipush 2 :: r) ls st p g = gb_ex m r ls (.int 2 :: st) p g := gb_ex_nx (by
  have h : Int32.ofInt 2 = 2 := by decide
  rw [← h]
  rfl)
theorem x_c_3 {m : Nat} {r : List Instr} {ls st : List Value} {p : gb_Pi} {g : gb_Sg} : gb_ex m (.sipush 3 :: r) ls st p g = gb_ex m r ls (.int 3 :: st) p g := gb_ex_nx (by
  have h : Int32.ofInt 3 = 3 := by decide
  rw [← h]
  rfl)
theorem x_c_4 {m : Nat} {r : List Instr} {ls st : List Value} {p : gb_Pi} {g : gb_Sg} : gb_ex m (.sipush 4 :: r) ls st p g = gb_ex m r ls (.int 4 :: st) p g := gb_ex_nx (by
  have h : Int32.ofInt 4 = 4 := by decide
  rw [← h]
  rfl)
theorem x_c_5 {m : Nat} {r : List Instr} {ls st : List Value} {p : gb_Pi} {g : gb_Sg} : gb_ex m (.sipush 5 :: r) ls st p g = gb_ex m r ls (.int 5 :: st) p g := gb_ex_nx (by
  have h : Int32.ofInt 5 = 5 := by decide
  rw [← h]
  rfl)
theorem x_c_6 {m : Nat} {r : List Instr} {ls st : List Value} {p : gb_Pi} {g : gb_Sg} : gb_ex m (.sipush 6 :: r) ls st p g = gb_ex m r ls (.int 6 :: st) p g := gb_ex_nx (by
  have h : Int32.ofInt 6 = 6 := by decide
  rw [← h]
  rfl)
theorem x_c_7 {m : Nat} {r : List Instr} {ls st : List Value} {p : gb_Pi} {g : gb_Sg} : gb_ex m (.sipush 7 :: r) ls st p g = gb_ex m r ls (.int 7 :: st) p g := gb_ex_nx (by
  have h : Int32.ofInt 7 = 7 := by decide
  rw [← h]
  rfl)
theorem x_c_8 {m : Nat} {r : List Instr} {ls st : List Value} {p : gb_Pi} {g : gb_Sg} : gb_ex m (.sipush 8 :: r) ls st p g = gb_ex m r ls (.int 8 :: st) p g := gb_ex_nx (by
  have h : Int32.ofInt 8 = 8 := by decide
  rw [← h]
  rfl)
theorem x_c_9 {m : Nat} {r : List Instr} {ls st : List Value} {p : gb_Pi} {g : gb_Sg} : gb_ex m (.sipush 9 :: r) ls st p g = gb_ex m r ls (.int 9 :: st) p g := gb_ex_nx (by
  have h : Int32.ofInt 9 = 9 := by decide
  rw [← h]
  rfl)
theorem x_c_10 {m : Nat} {r : List Instr} {ls st : List Value} {p : gb_Pi} {g : gb_Sg} : gb_ex m (.sipush 10 :: r) ls st p g = gb_ex m r ls (.int 10 :: st) p g := gb_ex_nx (by
  have h : Int32.ofInt 10 = 10 := by decide
  rw [← h]
  rfl)
theorem x_c_11 {m : Nat} {r : List Instr} {ls st : List Value} {p : gb_Pi} {g : gb_Sg} : gb_ex m (.sipush 11 :: r) ls st p g = gb_ex m r ls (.int 11 :: st) p g := gb_ex_nx (by
  have h : Int32.ofInt 11 = 11 := by decide
  rw [← h]
  rfl)
theorem x_c_12 {m : Nat} {r : List Instr} {ls st : List Value} {p : gb_Pi} {g : gb_Sg} : gb_ex m (.sipush 12 :: r) ls st p g = gb_ex m r ls (.int 12 :: st) p g := gb_ex_nx (by
  have h : Int32.ofInt 12 = 12 := by decide
  rw [← h]
  rfl)
theorem x_c_13 {m : Nat} {r : List Instr} {ls st : List Value} {p : gb_Pi} {g : gb_Sg} : gb_ex m (.sipush 13 :: r) ls st p g = gb_ex m r ls (.int 13 :: st) p g := gb_ex_nx (by
  have h : Int32.ofInt 13 = 13 := by decide
  rw [← h]
  rfl)
theorem x_c_15 {m : Nat} {r : List Instr} {ls st : List Value} {p : gb_Pi} {g : gb_Sg} : gb_ex m (.sipush 15 :: r) ls st p g = gb_ex m r ls (.int 15 :: st) p g := gb_ex_nx (by
  have h : Int32.ofInt 15 = 15 := by decide
  rw [← h]
  rfl)
theorem x_c_16 {m : Nat} {r : List Instr} {ls st : List Value} {p : gb_Pi} {g : gb_Sg} : gb_ex m (.sipush 16 :: r) ls st p g = gb_ex m r ls (.int 16 :: st) p g := gb_ex_nx (by
  have h : Int32.ofInt 16 = 16 := by decide
  rw [← h]
  rfl)
theorem x_c_17 {m : Nat} {r : List Instr} {ls st : List Value} {p : gb_Pi} {g : gb_Sg} : gb_ex m (.sipush 17 :: r) ls st p g = gb_ex m r ls (.int 17 :: st) p g := gb_ex_nx (by
  have h : Int32.ofInt 17 = 17 := by decide
  rw [← h]
  rfl)
theorem x_c_20 {m : Nat} {r : List Instr} {ls st : List Value} {p : gb_Pi} {g : gb_Sg} : gb_ex m (.sipush 20 :: r) ls st p g = gb_ex m r ls (.int 20 :: st) p g := gb_ex_nx (by
  have h : Int32.ofInt 20 = 20 := by decide
  rw [← h]
  rfl)
theorem x_c_24 {m : Nat} {r : List Instr} {ls st : List Value} {p : gb_Pi} {g : gb_Sg} : gb_ex m (.sipush 24 :: r) ls st p g = gb_ex m r ls (.int 24 :: st) p g := gb_ex_nx (by
  have h : Int32.ofInt 24 = 24 := by decide
  rw [← h]
  rfl)
theorem x_c_25 {m : Nat} {r : List Instr} {ls st : List Value} {p : gb_Pi} {g : gb_Sg} : gb_ex m (.sipush 25 :: r) ls st p g = gb_ex m r ls (.int 25 :: st) p g := gb_ex_nx (by
  have h : Int32.ofInt 25 = 25 := by decide
  rw [← h]
  rfl)
theorem x_c_31 {m : Nat} {r : List Instr} {ls st : List Value} {p : gb_Pi} {g : gb_Sg} : gb_ex m (.sipush 31 :: r) ls st p g = gb_ex m r ls (.int 31 :: st) p g := gb_ex_nx (by
  have h : Int32.ofInt 31 = 31 := by decide
  rw [← h]
  rfl)
theorem x_c_32 {m : Nat} {r : List Instr} {ls st : List Value} {p : gb_Pi} {g : gb_Sg} : gb_ex m (.sipush 32 :: r) ls st p g = gb_ex m r ls (.int 32 :: st) p g := gb_ex_nx (by
  have h : Int32.ofInt 32 = 32 := by decide
  rw [← h]
  rfl)
theorem x_c_36 {m : Nat} {r : List Instr} {ls st : List Value} {p : gb_Pi} {g : gb_Sg} : gb_ex m (.sipush 36 :: r) ls st p g = gb_ex m r ls (.int 36 :: st) p g := gb_ex_nx (by
  have h : Int32.ofInt 36 = 36 := by decide
  rw [← h]
  rfl)
theorem x_c_37 {m : Nat} {r : List Instr} {ls st : List Value} {p : gb_Pi} {g : gb_Sg} : gb_ex m (.sipush 37 :: r) ls st p g = gb_ex m r ls (.int 37 :: st) p g := gb_ex_nx (by
  have h : Int32.ofInt 37 = 37 := by decide
  rw [← h]
  rfl)
theorem x_c_38 {m : Nat} {r : List Instr} {ls st : List Value} {p : gb_Pi} {g : gb_Sg} : gb_ex m (.sipush 38 :: r) ls st p g = gb_ex m r ls (.int 38 :: st) p g := gb_ex_nx (by
  have h : Int32.ofInt 38 = 38 := by decide
  rw [← h]
  rfl)
theorem x_c_40 {m : Nat} {r : List Instr} {ls st : List Value} {p : gb_Pi} {g : gb_Sg} : gb_ex m (.sipush 40 :: r) ls st p g = gb_ex m r ls (.int 40 :: st) p g := gb_ex_nx (by
  have h : Int32.ofInt 40 = 40 := by decide
  rw [← h]
  rfl)
theorem x_c_44 {m : Nat} {r : List Instr} {ls st : List Value} {p : gb_Pi} {g : gb_Sg} : gb_ex m (.sipush 44 :: r) ls st p g = gb_ex m r ls (.int 44 :: st) p g := gb_ex_nx (by
  have h : Int32.ofInt 44 = 44 := by decide
  rw [← h]
  rfl)
theorem x_c_45 {m : Nat} {r : List Instr} {ls st : List Value} {p : gb_Pi} {g : gb_Sg} : gb_ex m (.sipush 45 :: r) ls st p g = gb_ex m r ls (.int 45 :: st) p g := gb_ex_nx (by
  have h : Int32.ofInt 45 = 45 := by decide
  rw [← h]
  rfl)
theorem x_c_48 {m : Nat} {r : List Instr} {ls st : List Value} {p : gb_Pi} {g : gb_Sg} : gb_ex m (.sipush 48 :: r) ls st p g = gb_ex m r ls (.int 48 :: st) p g := gb_ex_nx (by
  have h : Int32.ofInt 48 = 48 := by decide
  rw [← h]
  rfl)
theorem x_c_57 {m : Nat} {r : List Instr} {ls st : List Value} {p : gb_Pi} {g : gb_Sg} : gb_ex m (.sipush 57 :: r) ls st p g = gb_ex m r ls (.int 57 :: st) p g := gb_ex_nx (by
  have h : Int32.ofInt 57 = 57 := by decide
  rw [← h]
  rfl)
theorem x_c_58 {m : Nat} {r : List Instr} {ls st : List Value} {p : gb_Pi} {g : gb_Sg} : gb_ex m (.sipush 58 :: r) ls st p g = gb_ex m r ls (.int 58 :: st) p g := gb_ex_nx (by
  have h : Int32.ofInt 58 = 58 := by decide
  rw [← h]
  rfl)
theorem x_c_59 {m : Nat} {r : List Instr} {ls st : List Value} {p : gb_Pi} {g : gb_Sg} : gb_ex m (.sipush 59 :: r) ls st p g = gb_ex m r ls (.int 59 :: st) p g := gb_ex_nx (by
  have h : Int32.ofInt 59 = 59 := by decide
  rw [← h]
  rfl)
theorem x_c_60 {m : Nat} {r : List Instr} {ls st : List Value} {p : gb_Pi} {g : gb_Sg} : gb_ex m (.sipush 60 :: r) ls st p g = gb_ex m r ls (.int 60 :: st) p g := gb_ex_nx (by
  have h : Int32.ofInt 60 = 60 := by decide
  rw [← h]
  rfl)
theorem x_c_62 {m : Nat} {r : List Instr} {ls st : List Value} {p : gb_Pi} {g : gb_Sg} : gb_ex m (.sipush 62 :: r) ls st p g = gb_ex m r ls (.int 62 :: st) p g := gb_ex_nx (by
  have h : Int32.ofInt 62 = 62 := by decide
  rw [← h]
  rfl)
theorem x_c_63 {m : Nat} {r : List Instr} {ls st : List Value} {p : gb_Pi} {g : gb_Sg} : gb_ex m (.sipush 63 :: r) ls st p g = gb_ex m r ls (.int 63 :: st) p g := gb_ex_nx (by
  have h : Int32.ofInt 63 = 63 := by decide
  rw [← h]
  rfl)
theorem x_c_67 {m : Nat} {r : List Instr} {ls st : List Value} {p : gb_Pi} {g : gb_Sg} : gb_ex m (.sipush 67 :: r) ls st p g = gb_ex m r ls (.int 67 :: st) p g := gb_ex_nx (by
  have h : Int32.ofInt 67 = 67 := by decide
  rw [← h]
  rfl)
theorem x_c_70 {m : Nat} {r : List Instr} {ls st : List Value} {p : gb_Pi} {g : gb_Sg} : gb_ex m (.sipush 70 :: r) ls st p g = gb_ex m r ls (.int 70 :: st) p g := gb_ex_nx (by
  have h : Int32.ofInt 70 = 70 := by decide
  rw [← h]
  rfl)
theorem x_c_72 {m : Nat} {r : List Instr} {ls st : List Value} {p : gb_Pi} {g : gb_Sg} : gb_ex m (.sipush 72 :: r) ls st p g = gb_ex m r ls (.int 72 :: st) p g := gb_ex_nx (by
  have h : Int32.ofInt 72 = 72 := by decide
  rw [← h]
  rfl)
theorem x_c_79 {m : Nat} {r : List Instr} {ls st : List Value} {p : gb_Pi} {g : gb_Sg} : gb_ex m (.sipush 79 :: r) ls st p g = gb_ex m r ls (.int 79 :: st) p g := gb_ex_nx (by
  have h : Int32.ofInt 79 = 79 := by decide
  rw [← h]
  rfl)
theorem x_c_80 {m : Nat} {r : List Instr} {ls st : List Value} {p : gb_Pi} {g : gb_Sg} : gb_ex m (.sipush 80 :: r) ls st p g = gb_ex m r ls (.int 80 :: st) p g := gb_ex_nx (by
  have h : Int32.ofInt 80 = 80 := by decide
  rw [← h]
  rfl)
theorem x_c_99 {m : Nat} {r : List Instr} {ls st : List Value} {p : gb_Pi} {g : gb_Sg} : gb_ex m (.sipush 99 :: r) ls st p g = gb_ex m r ls (.int 99 :: st) p g := gb_ex_nx (by
  have h : Int32.ofInt 99 = 99 := by decide
  rw [← h]
  rfl)
theorem x_c_100 {m : Nat} {r : List Instr} {ls st : List Value} {p : gb_Pi} {g : gb_Sg} : gb_ex m (.sipush 100 :: r) ls st p g = gb_ex m r ls (.int 100 :: st) p g := gb_ex_nx (by
  have h : Int32.ofInt 100 = 100 := by decide
  rw [← h]
  rfl)
theorem x_c_104 {m : Nat} {r : List Instr} {ls st : List Value} {p : gb_Pi} {g : gb_Sg} : gb_ex m (.sipush 104 :: r) ls st p g = gb_ex m r ls (.int 104 :: st) p g := gb_ex_nx (by
  have h : Int32.ofInt 104 = 104 := by decide
  rw [← h]
  rfl)
theorem x_c_107 {m : Nat} {r : List Instr} {ls st : List Value} {p : gb_Pi} {g : gb_Sg} : gb_ex m (.sipush 107 :: r) ls st p g = gb_ex m r ls (.int 107 :: st) p g := gb_ex_nx (by
  have h : Int32.ofInt 107 = 107 := by decide
  rw [← h]
  rfl)
theorem x_c_108 {m : Nat} {r : List Instr} {ls st : List Value} {p : gb_Pi} {g : gb_Sg} : gb_ex m (.sipush 108 :: r) ls st p g = gb_ex m r ls (.int 108 :: st) p g := gb_ex_nx (by
  have h : Int32.ofInt 108 = 108 := by decide
  rw [← h]
  rfl)
theorem x_c_110 {m : Nat} {r : List Instr} {ls st : List Value} {p : gb_Pi} {g : gb_Sg} : gb_ex m (.sipush 110 :: r) ls st p g = gb_ex m r ls (.int 110 :: st) p g := gb_ex_nx (by
  have h : Int32.ofInt 110 = 110 := by decide
  rw [← h]
  rfl)
theorem x_c_116 {m : Nat} {r : List Instr} {ls st : List Value} {p : gb_Pi} {g : gb_Sg} : gb_ex m (.sipush 116 :: r) ls st p g = gb_ex m r ls (.int 116 :: st) p g := gb_ex_nx (by
  have h : Int32.ofInt 116 = 116 := by decide
  rw [← h]
  rfl)
theorem x_c_119 {m : Nat} {r : List Instr} {ls st : List Value} {p : gb_Pi} {g : gb_Sg} : gb_ex m (.sipush 119 :: r) ls st p g = gb_ex m r ls (.int 119 :: st) p g := gb_ex_nx (by
  have h : Int32.ofInt 119 = 119 := by decide
  rw [← h]
  rfl)
theorem x_c_120 {m : Nat} {r : List Instr} {ls st : List Value} {p : gb_Pi} {g : gb_Sg} : gb_ex m (.sipush 120 :: r) ls st p g = gb_ex m r ls (.int 120 :: st) p g := gb_ex_nx (by
  have h : Int32.ofInt 120 = 120 := by decide
  rw [← h]
  rfl)
theorem x_c_130 {m : Nat} {r : List Instr} {ls st : List Value} {p : gb_Pi} {g : gb_Sg} : gb_ex m (.sipush 130 :: r) ls st p g = gb_ex m r ls (.int 130 :: st) p g := gb_ex_nx (by
  have h : Int32.ofInt 130 = 130 := by decide
  rw [← h]
  rfl)
theorem x_c_159 {m : Nat} {r : List Instr} {ls st : List Value} {p : gb_Pi} {g : gb_Sg} : gb_ex m (.sipush 159 :: r) ls st p g = gb_ex m r ls (.int 159 :: st) p g := gb_ex_nx (by
  have h : Int32.ofInt 159 = 159 := by decide
  rw [← h]
  rfl)
theorem x_c_255 {m : Nat} {r : List Instr} {ls st : List Value} {p : gb_Pi} {g : gb_Sg} : gb_ex m (.sipush 255 :: r) ls st p g = gb_ex m r ls (.int 255 :: st) p g := gb_ex_nx (by
  have h : Int32.ofInt 255 = 255 := by decide
  rw [← h]
  rfl)
theorem x_c_256 {m : Nat} {r : List Instr} {ls st : List Value} {p : gb_Pi} {g : gb_Sg} : gb_ex m (.sipush 256 :: r) ls st p g = gb_ex m r ls (.int 256 :: st) p g := gb_ex_nx (by
  have h : Int32.ofInt 256 = 256 := by decide
  rw [← h]
  rfl)
theorem x_c_260 {m : Nat} {r : List Instr} {ls st : List Value} {p : gb_Pi} {g : gb_Sg} : gb_ex m (.sipush 260 :: r) ls st p g = gb_ex m r ls (.int 260 :: st) p g := gb_ex_nx (by
  have h : Int32.ofInt 260 = 260 := by decide
  rw [← h]
  rfl)
theorem x_c_360 {m : Nat} {r : List Instr} {ls st : List Value} {p : gb_Pi} {g : gb_Sg} : gb_ex m (.sipush 360 :: r) ls st p g = gb_ex m r ls (.int 360 :: st) p g := gb_ex_nx (by
  have h : Int32.ofInt 360 = 360 := by decide
  rw [← h]
  rfl)
theorem x_c_400 {m : Nat} {r : List Instr} {ls st : List Value} {p : gb_Pi} {g : gb_Sg} : gb_ex m (.sipush 400 :: r) ls st p g = gb_ex m r ls (.int 400 :: st) p g := gb_ex_nx (by
  have h : Int32.ofInt 400 = 400 := by decide
  rw [← h]
  rfl)
theorem x_c_880 {m : Nat} {r : List Instr} {ls st : List Value} {p : gb_Pi} {g : gb_Sg} : gb_ex m (.sipush 880 :: r) ls st p g = gb_ex m r ls (.int 880 :: st) p g := gb_ex_nx (by
  have h : Int32.ofInt 880 = 880 := by decide
  rw [← h]
  rfl)
theorem x_c_999 {m : Nat} {r : List Instr} {ls st : List Value} {p : gb_Pi} {g : gb_Sg} : gb_ex m (.sipush 999 :: r) ls st p g = gb_ex m r ls (.int 999 :: st) p g := gb_ex_nx (by
  have h : Int32.ofInt 999 = 999 := by decide
  rw [← h]
  rfl)
theorem x_c_1000 {m : Nat} {r : List Instr} {ls st : List Value} {p : gb_Pi} {g : gb_Sg} : gb_ex m (.sipush 1000 :: r) ls st p g = gb_ex m r ls (.int 1000 :: st) p g := gb_ex_nx (by
  have h : Int32.ofInt 1000 = 1000 := by decide
  rw [← h]
  rfl)
theorem x_c_9999 {m : Nat} {r : List Instr} {ls st : List Value} {p : gb_Pi} {g : gb_Sg} : gb_ex m (.sipush 9999 :: r) ls st p g = gb_ex m r ls (.int 9999 :: st) p g := gb_ex_nx (by
  have h : Int32.ofInt 9999 = 9999 := by decide
  rw [← h]
  rfl)
theorem x_c_99999 {m : Nat} {r : List Instr} {ls st : List Value} {p : gb_Pi} {g : gb_Sg} : gb_ex m (.sipush 99999 :: r) ls st p g = gb_ex m r ls (.int 99999 :: st) p g := gb_ex_nx (by
  have h : Int32.ofInt 99999 = 99999 := by decide
  rw [← h]
  rfl)
theorem x_c_1000000 {m : Nat} {r : List Instr} {ls st : List Value} {p : gb_Pi} {g : gb_Sg} : gb_ex m (.sipush 1000000 :: r) ls st p g = gb_ex m r ls (.int 1000000 :: st) p g := gb_ex_nx (by
  have h : Int32.ofInt 1000000 = 1000000 := by decide
  rw [← h]
  rfl)
theorem x_c_252645135 {m : Nat} {r : List Instr} {ls st : List Value} {p : gb_Pi} {g : gb_Sg} : gb_ex m (.sipush 252645135 :: r) ls st p g = gb_ex m r ls (.int 252645135 :: st) p g := gb_ex_nx (by
  have h : Int32.ofInt 252645135 = 252645135 := by decide
  rw [← h]
  rfl)
theorem x_c_858993459 {m : Nat} {r : List Instr} {ls st : List Value} {p : gb_Pi} {g : gb_Sg} : gb_ex m (.sipush 858993459 :: r) ls st p g = gb_ex m r ls (.int 858993459 :: st) p g := gb_ex_nx (by
  have h : Int32.ofInt 858993459 = 858993459 := by decide
  rw [← h]
  rfl)
theorem x_c_1431655765 {m : Nat} {r : List Instr} {ls st : List Value} {p : gb_Pi} {g : gb_Sg} : gb_ex m (.sipush 1431655765 :: r) ls st p g = gb_ex m r ls (.int 1431655765 :: st) p g := gb_ex_nx (by
  have h : Int32.ofInt 1431655765 = 1431655765 := by decide
  rw [← h]
  rfl)
theorem x_l_m4 {m : Nat} {r : List Instr} {ls st : List Value} {p : gb_Pi} {g : gb_Sg} : gb_ex m (.bipush (-4) :: r) ls st p g = gb_ex m r ls (.long (-4) :: st) p g := gb_ex_nx (by
  have h : Int64.ofInt (-4) = (-4) := by decide
  rw [← h]
  rfl)
theorem x_l_m1 {m : Nat} {r : List Instr} {ls st : List Value} {p : gb_Pi} {g : gb_Sg} : gb_ex m (.bipush (-1) :: r) ls st p g = gb_ex m r ls (.long (-1) :: st) p g := gb_ex_nx (by
  have h : Int64.ofInt (-1) = (-1) := by decide
  rw [← h]
  rfl)
theorem x_l_0 {m : Nat} {r : List Instr} {ls st : List Value} {p : gb_Pi} {g : gb_Sg} : gb_ex m (.bipush 0 :: r) ls st p g = gb_ex m r ls (.long 0 :: st) p g := gb_ex_nx (by
  have h : Int64.ofInt 0 = 0 := by decide
  rw [← h]
  rfl)
theorem x_l_1 {m : Nat} {r : List Instr} {ls st : List Value} {p : gb_Pi} {g : gb_Sg} : gb_ex m (.bipush 1 :: r) ls st p g = gb_ex m r ls (.long 1 :: st) p g := gb_ex_nx (by
  have h : Int64.ofInt 1 = 1 := by decide
  rw [← h]
  rfl)
theorem x_l_2 {m : Nat} {r : List Instr} {ls st : List Value} {p : gb_Pi} {g : gb_Sg} : gb_ex m (.bipush 2 :: r) ls st p g = gb_ex m r ls (.long 2 :: st) p g := gb_ex_nx (by
  have h : Int64.ofInt 2 = 2 := by decide
  rw [← h]
  rfl)
theorem x_l_3 {m : Nat} {r : List Instr} {ls st : List Value} {p : gb_Pi} {g : gb_Sg} : gb_ex m (.bipush 3 :: r) ls st p g = gb_ex m r ls (.long 3 :: st) p g := gb_ex_nx (by
  have h : Int64.ofInt 3 = 3 := by decide
  rw [← h]
  rfl)
theorem x_l_5 {m : Nat} {r : List Instr} {ls st : List Value} {p : gb_Pi} {g : gb_Sg} : gb_ex m (.bipush 5 :: r) ls st p g = gb_ex m r ls (.long 5 :: st) p g := gb_ex_nx (by
  have h : Int64.ofInt 5 = 5 := by decide
  rw [← h]
  rfl)
theorem x_l_7 {m : Nat} {r : List Instr} {ls st : List Value} {p : gb_Pi} {g : gb_Sg} : gb_ex m (.bipush 7 :: r) ls st p g = gb_ex m r ls (.long 7 :: st) p g := gb_ex_nx (by
  have h : Int64.ofInt 7 = 7 := by decide
  rw [← h]
  rfl)
theorem x_l_8 {m : Nat} {r : List Instr} {ls st : List Value} {p : gb_Pi} {g : gb_Sg} : gb_ex m (.bipush 8 :: r) ls st p g = gb_ex m r ls (.long 8 :: st) p g := gb_ex_nx (by
  have h : Int64.ofInt 8 = 8 := by decide
  rw [← h]
  rfl)
theorem x_l_9 {m : Nat} {r : List Instr} {ls st : List Value} {p : gb_Pi} {g : gb_Sg} : gb_ex m (.bipush 9 :: r) ls st p g = gb_ex m r ls (.long 9 :: st) p g := gb_ex_nx (by
  have h : Int64.ofInt 9 = 9 := by decide
  rw [← h]
  rfl)
theorem x_l_10 {m : Nat} {r : List Instr} {ls st : List Value} {p : gb_Pi} {g : gb_Sg} : gb_ex m (.bipush 10 :: r) ls st p g = gb_ex m r ls (.long 10 :: st) p g := gb_ex_nx (by
  have h : Int64.ofInt 10 = 10 := by decide
  rw [← h]
  rfl)
theorem x_l_48 {m : Nat} {r : List Instr} {ls st : List Value} {p : gb_Pi} {g : gb_Sg} : gb_ex m (.bipush 48 :: r) ls st p g = gb_ex m r ls (.long 48 :: st) p g := gb_ex_nx (by
  have h : Int64.ofInt 48 = 48 := by decide
  rw [← h]
  rfl)
theorem x_l_57 {m : Nat} {r : List Instr} {ls st : List Value} {p : gb_Pi} {g : gb_Sg} : gb_ex m (.bipush 57 :: r) ls st p g = gb_ex m r ls (.long 57 :: st) p g := gb_ex_nx (by
  have h : Int64.ofInt 57 = 57 := by decide
  rw [← h]
  rfl)
theorem x_l_99 {m : Nat} {r : List Instr} {ls st : List Value} {p : gb_Pi} {g : gb_Sg} : gb_ex m (.bipush 99 :: r) ls st p g = gb_ex m r ls (.long 99 :: st) p g := gb_ex_nx (by
  have h : Int64.ofInt 99 = 99 := by decide
  rw [← h]
  rfl)
theorem x_l_255 {m : Nat} {r : List Instr} {ls st : List Value} {p : gb_Pi} {g : gb_Sg} : gb_ex m (.bipush 255 :: r) ls st p g = gb_ex m r ls (.long 255 :: st) p g := gb_ex_nx (by
  have h : Int64.ofInt 255 = 255 := by decide
  rw [← h]
  rfl)
theorem x_l_999 {m : Nat} {r : List Instr} {ls st : List Value} {p : gb_Pi} {g : gb_Sg} : gb_ex m (.bipush 999 :: r) ls st p g = gb_ex m r ls (.long 999 :: st) p g := gb_ex_nx (by
  have h : Int64.ofInt 999 = 999 := by decide
  rw [← h]
  rfl)
theorem x_l_1000 {m : Nat} {r : List Instr} {ls st : List Value} {p : gb_Pi} {g : gb_Sg} : gb_ex m (.bipush 1000 :: r) ls st p g = gb_ex m r ls (.long 1000 :: st) p g := gb_ex_nx (by
  have h : Int64.ofInt 1000 = 1000 := by decide
  rw [← h]
  rfl)
theorem x_l_9999 {m : Nat} {r : List Instr} {ls st : List Value} {p : gb_Pi} {g : gb_Sg} : gb_ex m (.bipush 9999 :: r) ls st p g = gb_ex m r ls (.long 9999 :: st) p g := gb_ex_nx (by
  have h : Int64.ofInt 9999 = 9999 := by decide
  rw [← h]
  rfl)
theorem x_l_1000000 {m : Nat} {r : List Instr} {ls st : List Value} {p : gb_Pi} {g : gb_Sg} : gb_ex m (.bipush 1000000 :: r) ls st p g = gb_ex m r ls (.long 1000000 :: st) p g := gb_ex_nx (by
  have h : Int64.ofInt 1000000 = 1000000 := by decide
  rw [← h]
  rfl)
theorem x_l_1000000000 {m : Nat} {r : List Instr} {ls st : List Value} {p : gb_Pi} {g : gb_Sg} : gb_ex m (.bipush 1000000000 :: r) ls st p g = gb_ex m r ls (.long 1000000000 :: st) p g := gb_ex_nx (by
  have h : Int64.ofInt 1000000000 = 1000000000 := by decide
  rw [← h]
  rfl)
theorem x_l_4294967295 {m : Nat} {r : List Instr} {ls st : List Value} {p : gb_Pi} {g : gb_Sg} : gb_ex m (.bipush 4294967295 :: r) ls st p g = gb_ex m r ls (.long 4294967295 :: st) p g := gb_ex_nx (by
  have h : Int64.ofInt 4294967295 = 4294967295 := by decide
  rw [← h]
  rfl)
theorem x_iadd {m : Nat} {r : List Instr} {ls st : List Value} {p : gb_Pi} {g : gb_Sg} {x y : Int32} : gb_ex m (.iadd :: r) ls (.int y :: .int x :: st) p g = gb_ex m r ls (.int (x + y) :: st) p g := gb_ex_nx rfl
theorem x_isub {m : Nat} {r : List Instr} {ls st : List Value} {p : gb_Pi} {g : gb_Sg} {x y : Int32} : gb_ex m (.isub :: r) ls (.int y :: .int x :: st) p g = gb_ex m r ls (.int (x - y) :: st) p g := gb_ex_nx rfl
theorem x_imul {m : Nat} {r : List Instr} {ls st : List Value} {p : gb_Pi} {g : gb_Sg} {x y : Int32} : gb_ex m (.imul :: r) ls (.int y :: .int x :: st) p g = gb_ex m r ls (.int (x * y) :: st) p g := gb_ex_nx rfl
theorem x_iand {m : Nat} {r : List Instr} {ls st : List Value} {p : gb_Pi} {g : gb_Sg} {x y : Int32} : gb_ex m (.iand :: r) ls (.int y :: .int x :: st) p g = gb_ex m r ls (.int (x &&& y) :: st) p g := gb_ex_nx rfl
theorem x_ior {m : Nat} {r : List Instr} {ls st : List Value} {p : gb_Pi} {g : gb_Sg} {x y : Int32} : gb_ex m (.ior :: r) ls (.int y :: .int x :: st) p g = gb_ex m r ls (.int (x ||| y) :: st) p g := gb_ex_nx rfl
theorem x_ixor {m : Nat} {r : List Instr} {ls st : List Value} {p : gb_Pi} {g : gb_Sg} {x y : Int32} : gb_ex m (.ixor :: r) ls (.int y :: .int x :: st) p g = gb_ex m r ls (.int (x ^^^ y) :: st) p g := gb_ex_nx rfl
theorem x_ishl {m : Nat} {r : List Instr} {ls st : List Value} {p : gb_Pi} {g : gb_Sg} {x y : Int32} : gb_ex m (.ishl :: r) ls (.int y :: .int x :: st) p g = gb_ex m r ls (.int (x <<< (y &&& 31)) :: st) p g := gb_ex_nx rfl
theorem x_ishr {m : Nat} {r : List Instr} {ls st : List Value} {p : gb_Pi} {g : gb_Sg} {x y : Int32} : gb_ex m (.ishr :: r) ls (.int y :: .int x :: st) p g = gb_ex m r ls (.int (x >>> (y &&& 31)) :: st) p g := gb_ex_nx rfl
theorem x_iushr {m : Nat} {r : List Instr} {ls st : List Value} {p : gb_Pi} {g : gb_Sg} {x y : Int32} : gb_ex m (.iushr :: r) ls (.int y :: .int x :: st) p g = gb_ex m r ls (.int ((x.toUInt32 >>> (y.toUInt32 &&& Int32.toUInt32 31)).toInt32) :: st) p g := gb_ex_nx rfl
theorem x_ladd {m : Nat} {r : List Instr} {ls st : List Value} {p : gb_Pi} {g : gb_Sg} {x y : Int64} : gb_ex m (.ladd :: r) ls (.long y :: .long x :: st) p g = gb_ex m r ls (.long (x + y) :: st) p g := gb_ex_nx rfl
theorem x_lsub {m : Nat} {r : List Instr} {ls st : List Value} {p : gb_Pi} {g : gb_Sg} {x y : Int64} : gb_ex m (.lsub :: r) ls (.long y :: .long x :: st) p g = gb_ex m r ls (.long (x - y) :: st) p g := gb_ex_nx rfl
theorem x_lmul {m : Nat} {r : List Instr} {ls st : List Value} {p : gb_Pi} {g : gb_Sg} {x y : Int64} : gb_ex m (.lmul :: r) ls (.long y :: .long x :: st) p g = gb_ex m r ls (.long (x * y) :: st) p g := gb_ex_nx rfl
theorem x_land {m : Nat} {r : List Instr} {ls st : List Value} {p : gb_Pi} {g : gb_Sg} {x y : Int64} : gb_ex m (.land :: r) ls (.long y :: .long x :: st) p g = gb_ex m r ls (.long (x &&& y) :: st) p g := gb_ex_nx rfl
theorem x_lor {m : Nat} {r : List Instr} {ls st : List Value} {p : gb_Pi} {g : gb_Sg} {x y : Int64} : gb_ex m (.lor :: r) ls (.long y :: .long x :: st) p g = gb_ex m r ls (.long (x ||| y) :: st) p g := gb_ex_nx rfl
theorem x_idiv {m : Nat} {r : List Instr} {ls st : List Value} {p : gb_Pi} {g : gb_Sg} {x y : Int32} : gb_ex m (.idiv :: r) ls (.int y :: .int x :: st) p g = if y = 0 then none else gb_ex m r ls (.int (x / y) :: st) p g := by
  by_cases h : y = 0
  · rw [if_pos h]; exact gb_ex_no (by simp only [gb_stp, if_pos h])
  · rw [if_neg h]; exact gb_ex_nx (by simp only [gb_stp, if_neg h])
theorem x_irem {m : Nat} {r : List Instr} {ls st : List Value} {p : gb_Pi} {g : gb_Sg} {x y : Int32} : gb_ex m (.irem :: r) ls (.int y :: .int x :: st) p g = if y = 0 then none else gb_ex m r ls (.int (x - x / y * y) :: st) p g := by
  by_cases h : y = 0
  · rw [if_pos h]; exact gb_ex_no (by simp only [gb_stp, if_pos h])
  · rw [if_neg h]; exact gb_ex_nx (by simp only [gb_stp, if_neg h])
theorem x_ldiv {m : Nat} {r : List Instr} {ls st : List Value} {p : gb_Pi} {g : gb_Sg} {x y : Int64} : gb_ex m (.ldiv :: r) ls (.long y :: .long x :: st) p g = if y = 0 then none else gb_ex m r ls (.long (x / y) :: st) p g := by
  by_cases h : y = 0
  · rw [if_pos h]; exact gb_ex_no (by simp only [gb_stp, if_pos h])
  · rw [if_neg h]; exact gb_ex_nx (by simp only [gb_stp, if_neg h])
theorem x_lrem {m : Nat} {r : List Instr} {ls st : List Value} {p : gb_Pi} {g : gb_Sg} {x y : Int64} : gb_ex m (.lrem :: r) ls (.long y :: .long x :: st) p g = if y = 0 then none else gb_ex m r ls (.long (x - x / y * y) :: st) p g := by
  by_cases h : y = 0
  · rw [if_pos h]; exact gb_ex_no (by simp only [gb_stp, if_pos h])
  · rw [if_neg h]; exact gb_ex_nx (by simp only [gb_stp, if_neg h])
theorem x_ineg {m : Nat} {r : List Instr} {ls st : List Value} {p : gb_Pi} {g : gb_Sg} {x : Int32} : gb_ex m (.ineg :: r) ls (.int x :: st) p g = gb_ex m r ls (.int (-x) :: st) p g := gb_ex_nx rfl
theorem x_lushr {m : Nat} {r : List Instr} {ls st : List Value} {p : gb_Pi} {g : gb_Sg} {x : Int64} {y : Int32} : gb_ex m (.lushr :: r) ls (.int y :: .long x :: st) p g = gb_ex m r ls (.long (x.toUInt64 >>> (y.toInt64.toUInt64 &&& Int64.toUInt64 63)).toInt64 :: st) p g := gb_ex_nx rfl
theorem x_lshl {m : Nat} {r : List Instr} {ls st : List Value} {p : gb_Pi} {g : gb_Sg} {x : Int64} {y : Int32} : gb_ex m (.lshl :: r) ls (.int y :: .long x :: st) p g = gb_ex m r ls (.long (x <<< (y.toInt64 &&& 63)) :: st) p g := gb_ex_nx rfl
theorem x_lshr {m : Nat} {r : List Instr} {ls st : List Value} {p : gb_Pi} {g : gb_Sg} {x : Int64} {y : Int32} : gb_ex m (.lshr :: r) ls (.int y :: .long x :: st) p g = gb_ex m r ls (.long (x >>> (y.toInt64 &&& 63)) :: st) p g := gb_ex_nx rfl
theorem x_i2l {m : Nat} {r : List Instr} {ls st : List Value} {p : gb_Pi} {g : gb_Sg} {x : Int32} : gb_ex m (.i2l :: r) ls (.int x :: st) p g = gb_ex m r ls (.long x.toInt64 :: st) p g := gb_ex_nx rfl
theorem x_l2i {m : Nat} {r : List Instr} {ls st : List Value} {p : gb_Pi} {g : gb_Sg} {x : Int64} : gb_ex m (.l2i :: r) ls (.long x :: st) p g = gb_ex m r ls (.int x.toInt32 :: st) p g := gb_ex_nx rfl
theorem x_i2b {m : Nat} {r : List Instr} {ls st : List Value} {p : gb_Pi} {g : gb_Sg} {x : Int32} : gb_ex m (.i2b :: r) ls (.int x :: st) p g = gb_ex m r ls (.int x.toInt8.toInt32 :: st) p g := gb_ex_nx rfl
theorem x_dup_i {m : Nat} {r : List Instr} {ls st : List Value} {p : gb_Pi} {g : gb_Sg} {x : Int32} : gb_ex m (.dup :: r) ls (.int x :: st) p g = gb_ex m r ls (.int x :: .int x :: st) p g := gb_ex_nx rfl
theorem x_dup_r {m : Nat} {r : List Instr} {ls st : List Value} {p : gb_Pi} {g : gb_Sg} {x : Nat} : gb_ex m (.dup :: r) ls (.ref x :: st) p g = gb_ex m r ls (.ref x :: .ref x :: st) p g := gb_ex_nx rfl
theorem x_dup2 {m : Nat} {r : List Instr} {ls st : List Value} {p : gb_Pi} {g : gb_Sg} {x : Int32} {a : Nat} : gb_ex m (.dup2 :: r) ls (.int x :: .ref a :: st) p g = gb_ex m r ls (.int x :: .ref a :: .int x :: .ref a :: st) p g := gb_ex_nx rfl
theorem x_pop {m : Nat} {r : List Instr} {ls st : List Value} {p : gb_Pi} {g : gb_Sg} {a : Nat} (h : st.length ≤ 4) : gb_ex m (.pop :: r) ls (.ref a :: st) p g = gb_ex m r ls st p g := gb_ex_nx (by simp only [gb_stp, if_pos h])
theorem x_max {m : Nat} {r : List Instr} {ls st : List Value} {p : gb_Pi} {g : gb_Sg} {x y : Int32} (h : st.length ≤ 4) : gb_ex m (.fadd :: r) ls (.int y :: .int x :: st) p g = gb_ex m r ls (.int (if x < y then y else x) :: st) p g := gb_ex_nx (by simp only [gb_stp, if_pos h])
theorem x_min {m : Nat} {r : List Instr} {ls st : List Value} {p : gb_Pi} {g : gb_Sg} {x y : Int32} (h : st.length ≤ 4) : gb_ex m (.fsub :: r) ls (.int y :: .int x :: st) p g = gb_ex m r ls (.int (if y < x then y else x) :: st) p g := gb_ex_nx (by simp only [gb_stp, if_pos h])
theorem x_maxl {m : Nat} {r : List Instr} {ls st : List Value} {p : gb_Pi} {g : gb_Sg} {x y : Int64} (h : st.length ≤ 4) : gb_ex m (.dadd :: r) ls (.long y :: .long x :: st) p g = gb_ex m r ls (.long (if y < x then x else y) :: st) p g := gb_ex_nx (by simp only [gb_stp, if_pos h])
theorem x_goto {m : Nat} {r : List Instr} {ls st : List Value} {p : gb_Pi} {g : gb_Sg} {t : Nat} : gb_ex m (.goto (no_index (OfNat.ofNat t)) :: r) ls st p g = gb_ex m (gb_tgt m (OfNat.ofNat t)) ls st p g := gb_ex_jp rfl
theorem x_if_eq {m : Nat} {r : List Instr} {ls st : List Value} {p : gb_Pi} {g : gb_Sg} {t : Nat} {x : Int32} : gb_ex m (.ifCond .eq (no_index (OfNat.ofNat t)) :: r) ls (.int x :: st) p g = if x = 0 then gb_ex m (gb_tgt m (OfNat.ofNat t)) ls st p g else gb_ex m r ls st p g := by
  by_cases h : x = 0
  · rw [if_pos h]; exact gb_ex_jp (by simp only [gb_stp, gb_cnd, decide_eq_true h, if_true]; rfl)
  · rw [if_neg h]; exact gb_ex_nx (by simp only [gb_stp, gb_cnd, decide_eq_false h]; rfl)
theorem x_if_ne {m : Nat} {r : List Instr} {ls st : List Value} {p : gb_Pi} {g : gb_Sg} {t : Nat} {x : Int32} : gb_ex m (.ifCond .ne (no_index (OfNat.ofNat t)) :: r) ls (.int x :: st) p g = if x ≠ 0 then gb_ex m (gb_tgt m (OfNat.ofNat t)) ls st p g else gb_ex m r ls st p g := by
  by_cases h : x ≠ 0
  · rw [if_pos h]; exact gb_ex_jp (by simp only [gb_stp, gb_cnd, decide_eq_true h, if_true]; rfl)
  · rw [if_neg h]; exact gb_ex_nx (by simp only [gb_stp, gb_cnd, decide_eq_false h]; rfl)
theorem x_if_lt {m : Nat} {r : List Instr} {ls st : List Value} {p : gb_Pi} {g : gb_Sg} {t : Nat} {x : Int32} : gb_ex m (.ifCond .lt (no_index (OfNat.ofNat t)) :: r) ls (.int x :: st) p g = if x < 0 then gb_ex m (gb_tgt m (OfNat.ofNat t)) ls st p g else gb_ex m r ls st p g := by
  by_cases h : x < 0
  · rw [if_pos h]; exact gb_ex_jp (by simp only [gb_stp, gb_cnd, decide_eq_true h, if_true]; rfl)
  · rw [if_neg h]; exact gb_ex_nx (by simp only [gb_stp, gb_cnd, decide_eq_false h]; rfl)
theorem x_if_ge {m : Nat} {r : List Instr} {ls st : List Value} {p : gb_Pi} {g : gb_Sg} {t : Nat} {x : Int32} : gb_ex m (.ifCond .ge (no_index (OfNat.ofNat t)) :: r) ls (.int x :: st) p g = if 0 ≤ x then gb_ex m (gb_tgt m (OfNat.ofNat t)) ls st p g else gb_ex m r ls st p g := by
  by_cases h : 0 ≤ x
  · rw [if_pos h]; exact gb_ex_jp (by simp only [gb_stp, gb_cnd, decide_eq_true h, if_true]; rfl)
  · rw [if_neg h]; exact gb_ex_nx (by simp only [gb_stp, gb_cnd, decide_eq_false h]; rfl)
theorem x_if_gt {m : Nat} {r : List Instr} {ls st : List Value} {p : gb_Pi} {g : gb_Sg} {t : Nat} {x : Int32} : gb_ex m (.ifCond .gt (no_index (OfNat.ofNat t)) :: r) ls (.int x :: st) p g = if 0 < x then gb_ex m (gb_tgt m (OfNat.ofNat t)) ls st p g else gb_ex m r ls st p g := by
  by_cases h : 0 < x
  · rw [if_pos h]; exact gb_ex_jp (by simp only [gb_stp, gb_cnd, decide_eq_true h, if_true]; rfl)
  · rw [if_neg h]; exact gb_ex_nx (by simp only [gb_stp, gb_cnd, decide_eq_false h]; rfl)
theorem x_if_le {m : Nat} {r : List Instr} {ls st : List Value} {p : gb_Pi} {g : gb_Sg} {t : Nat} {x : Int32} : gb_ex m (.ifCond .le (no_index (OfNat.ofNat t)) :: r) ls (.int x :: st) p g = if x ≤ 0 then gb_ex m (gb_tgt m (OfNat.ofNat t)) ls st p g else gb_ex m r ls st p g := by
  by_cases h : x ≤ 0
  · rw [if_pos h]; exact gb_ex_jp (by simp only [gb_stp, gb_cnd, decide_eq_true h, if_true]; rfl)
  · rw [if_neg h]; exact gb_ex_nx (by simp only [gb_stp, gb_cnd, decide_eq_false h]; rfl)
theorem x_ic_eq {m : Nat} {r : List Instr} {ls st : List Value} {p : gb_Pi} {g : gb_Sg} {t : Nat} {x y : Int32} : gb_ex m (.if_icmp .eq (no_index (OfNat.ofNat t)) :: r) ls (.int y :: .int x :: st) p g = if x = y then gb_ex m (gb_tgt m (OfNat.ofNat t)) ls st p g else gb_ex m r ls st p g := by
  by_cases h : x = y
  · rw [if_pos h]; exact gb_ex_jp (by simp only [gb_stp, gb_cnd, decide_eq_true h, if_true]; rfl)
  · rw [if_neg h]; exact gb_ex_nx (by simp only [gb_stp, gb_cnd, decide_eq_false h]; rfl)
theorem x_ic_ne {m : Nat} {r : List Instr} {ls st : List Value} {p : gb_Pi} {g : gb_Sg} {t : Nat} {x y : Int32} : gb_ex m (.if_icmp .ne (no_index (OfNat.ofNat t)) :: r) ls (.int y :: .int x :: st) p g = if x ≠ y then gb_ex m (gb_tgt m (OfNat.ofNat t)) ls st p g else gb_ex m r ls st p g := by
  by_cases h : x ≠ y
  · rw [if_pos h]; exact gb_ex_jp (by simp only [gb_stp, gb_cnd, decide_eq_true h, if_true]; rfl)
  · rw [if_neg h]; exact gb_ex_nx (by simp only [gb_stp, gb_cnd, decide_eq_false h]; rfl)
theorem x_ic_lt {m : Nat} {r : List Instr} {ls st : List Value} {p : gb_Pi} {g : gb_Sg} {t : Nat} {x y : Int32} : gb_ex m (.if_icmp .lt (no_index (OfNat.ofNat t)) :: r) ls (.int y :: .int x :: st) p g = if x < y then gb_ex m (gb_tgt m (OfNat.ofNat t)) ls st p g else gb_ex m r ls st p g := by
  by_cases h : x < y
  · rw [if_pos h]; exact gb_ex_jp (by simp only [gb_stp, gb_cnd, decide_eq_true h, if_true]; rfl)
  · rw [if_neg h]; exact gb_ex_nx (by simp only [gb_stp, gb_cnd, decide_eq_false h]; rfl)
theorem x_ic_ge {m : Nat} {r : List Instr} {ls st : List Value} {p : gb_Pi} {g : gb_Sg} {t : Nat} {x y : Int32} : gb_ex m (.if_icmp .ge (no_index (OfNat.ofNat t)) :: r) ls (.int y :: .int x :: st) p g = if y ≤ x then gb_ex m (gb_tgt m (OfNat.ofNat t)) ls st p g else gb_ex m r ls st p g := by
  by_cases h : y ≤ x
  · rw [if_pos h]; exact gb_ex_jp (by simp only [gb_stp, gb_cnd, decide_eq_true h, if_true]; rfl)
  · rw [if_neg h]; exact gb_ex_nx (by simp only [gb_stp, gb_cnd, decide_eq_false h]; rfl)
theorem x_ic_gt {m : Nat} {r : List Instr} {ls st : List Value} {p : gb_Pi} {g : gb_Sg} {t : Nat} {x y : Int32} : gb_ex m (.if_icmp .gt (no_index (OfNat.ofNat t)) :: r) ls (.int y :: .int x :: st) p g = if y < x then gb_ex m (gb_tgt m (OfNat.ofNat t)) ls st p g else gb_ex m r ls st p g := by
  by_cases h : y < x
  · rw [if_pos h]; exact gb_ex_jp (by simp only [gb_stp, gb_cnd, decide_eq_true h, if_true]; rfl)
  · rw [if_neg h]; exact gb_ex_nx (by simp only [gb_stp, gb_cnd, decide_eq_false h]; rfl)
theorem x_ic_le {m : Nat} {r : List Instr} {ls st : List Value} {p : gb_Pi} {g : gb_Sg} {t : Nat} {x y : Int32} : gb_ex m (.if_icmp .le (no_index (OfNat.ofNat t)) :: r) ls (.int y :: .int x :: st) p g = if x ≤ y then gb_ex m (gb_tgt m (OfNat.ofNat t)) ls st p g else gb_ex m r ls st p g := by
  by_cases h : x ≤ y
  · rw [if_pos h]; exact gb_ex_jp (by simp only [gb_stp, gb_cnd, decide_eq_true h, if_true]; rfl)
  · rw [if_neg h]; exact gb_ex_nx (by simp only [gb_stp, gb_cnd, decide_eq_false h]; rfl)
theorem lg_cmp_eq0 (x y : Int64) : lg_cmp x y = 0 ↔ x = y := by
  unfold lg_cmp
  split
  · rename_i h; constructor
    · intro q; exact absurd q (by decide)
    · intro q; subst q; exact absurd h (Int64.lt_irrefl)
  · split
    · rename_i h; exact ⟨fun _ => h, fun _ => rfl⟩
    · rename_i h; exact ⟨fun q => absurd q (by decide), fun q => absurd q h⟩
theorem lg_cmp_lt0 (x y : Int64) : lg_cmp x y < 0 ↔ x < y := by
  unfold lg_cmp
  split
  · rename_i h
    exact ⟨fun q => absurd q (by decide), fun q => absurd (Int64.lt_trans q h) Int64.lt_irrefl⟩
  · rename_i h1
    split
    · rename_i h; subst h; exact ⟨fun q => absurd q (by decide), fun q => absurd q Int64.lt_irrefl⟩
    · rename_i h
      refine ⟨fun _ => ?_, fun _ => by decide⟩
      rw [gt_iff_lt, Int64.lt_iff_toInt_lt] at h1
      rw [Int64.lt_iff_toInt_lt]
      have : x.toInt ≠ y.toInt := fun q => h (Int64.toInt_inj.mp q)
      omega
theorem lg_cmp_gt0 (x y : Int64) : 0 < lg_cmp x y ↔ y < x := by
  unfold lg_cmp
  split
  · rename_i h
    exact ⟨fun _ => h, fun _ => by decide⟩
  · rename_i h1
    split
    · exact ⟨fun q => absurd q (by decide), fun q => absurd q h1⟩
    · exact ⟨fun q => absurd q (by decide), fun q => absurd q h1⟩
theorem lg_cmp_ge0 (x y : Int64) : 0 ≤ lg_cmp x y ↔ y ≤ x := by
  have := lg_cmp_lt0 x y
  rw [← Int32.not_lt, this, Int64.not_lt]
theorem lg_cmp_le0 (x y : Int64) : lg_cmp x y ≤ 0 ↔ x ≤ y := by
  have := lg_cmp_gt0 x y
  rw [← Int32.not_lt, this, Int64.not_lt]
theorem x_lc_eq {m : Nat} {r : List Instr} {ls st : List Value} {p : gb_Pi} {g : gb_Sg} {t : Nat} {x y : Int64} : gb_ex m (.lcmp :: .ifCond .eq (no_index (OfNat.ofNat t)) :: r) ls (.long y :: .long x :: st) p g = if x = y then gb_ex m (gb_tgt m (OfNat.ofNat t)) ls st p g else gb_ex m r ls st p g := by
  rw [gb_ex_nx (show gb_stp .lcmp ls (.long y :: .long x :: st) p g = gb_nx ls (.int (lg_cmp x y) :: st) p g from rfl), x_if_eq]
  simp only [ne_eq, lg_cmp_eq0, lg_cmp_lt0, lg_cmp_gt0, lg_cmp_ge0, lg_cmp_le0]
theorem x_lc_ne {m : Nat} {r : List Instr} {ls st : List Value} {p : gb_Pi} {g : gb_Sg} {t : Nat} {x y : Int64} : gb_ex m (.lcmp :: .ifCond .ne (no_index (OfNat.ofNat t)) :: r) ls (.long y :: .long x :: st) p g = if x ≠ y then gb_ex m (gb_tgt m (OfNat.ofNat t)) ls st p g else gb_ex m r ls st p g := by
  rw [gb_ex_nx (show gb_stp .lcmp ls (.long y :: .long x :: st) p g = gb_nx ls (.int (lg_cmp x y) :: st) p g from rfl), x_if_ne]
  simp only [ne_eq, lg_cmp_eq0, lg_cmp_lt0, lg_cmp_gt0, lg_cmp_ge0, lg_cmp_le0]
theorem x_lc_lt {m : Nat} {r : List Instr} {ls st : List Value} {p : gb_Pi} {g : gb_Sg} {t : Nat} {x y : Int64} : gb_ex m (.lcmp :: .ifCond .lt (no_index (OfNat.ofNat t)) :: r) ls (.long y :: .long x :: st) p g = if x < y then gb_ex m (gb_tgt m (OfNat.ofNat t)) ls st p g else gb_ex m r ls st p g := by
  rw [gb_ex_nx (show gb_stp .lcmp ls (.long y :: .long x :: st) p g = gb_nx ls (.int (lg_cmp x y) :: st) p g from rfl), x_if_lt]
  simp only [ne_eq, lg_cmp_eq0, lg_cmp_lt0, lg_cmp_gt0, lg_cmp_ge0, lg_cmp_le0]
theorem x_lc_ge {m : Nat} {r : List Instr} {ls st : List Value} {p : gb_Pi} {g : gb_Sg} {t : Nat} {x y : Int64} : gb_ex m (.lcmp :: .ifCond .ge (no_index (OfNat.ofNat t)) :: r) ls (.long y :: .long x :: st) p g = if y ≤ x then gb_ex m (gb_tgt m (OfNat.ofNat t)) ls st p g else gb_ex m r ls st p g := by
  rw [gb_ex_nx (show gb_stp .lcmp ls (.long y :: .long x :: st) p g = gb_nx ls (.int (lg_cmp x y) :: st) p g from rfl), x_if_ge]
  simp only [ne_eq, lg_cmp_eq0, lg_cmp_lt0, lg_cmp_gt0, lg_cmp_ge0, lg_cmp_le0]
theorem x_lc_gt {m : Nat} {r : List Instr} {ls st : List Value} {p : gb_Pi} {g : gb_Sg} {t : Nat} {x y : Int64} : gb_ex m (.lcmp :: .ifCond .gt (no_index (OfNat.ofNat t)) :: r) ls (.long y :: .long x :: st) p g = if y < x then gb_ex m (gb_tgt m (OfNat.ofNat t)) ls st p g else gb_ex m r ls st p g := by
  rw [gb_ex_nx (show gb_stp .lcmp ls (.long y :: .long x :: st) p g = gb_nx ls (.int (lg_cmp x y) :: st) p g from rfl), x_if_gt]
  simp only [ne_eq, lg_cmp_eq0, lg_cmp_lt0, lg_cmp_gt0, lg_cmp_ge0, lg_cmp_le0]
theorem x_lc_le {m : Nat} {r : List Instr} {ls st : List Value} {p : gb_Pi} {g : gb_Sg} {t : Nat} {x y : Int64} : gb_ex m (.lcmp :: .ifCond .le (no_index (OfNat.ofNat t)) :: r) ls (.long y :: .long x :: st) p g = if x ≤ y then gb_ex m (gb_tgt m (OfNat.ofNat t)) ls st p g else gb_ex m r ls st p g := by
  rw [gb_ex_nx (show gb_stp .lcmp ls (.long y :: .long x :: st) p g = gb_nx ls (.int (lg_cmp x y) :: st) p g from rfl), x_if_le]
  simp only [ne_eq, lg_cmp_eq0, lg_cmp_lt0, lg_cmp_gt0, lg_cmp_ge0, lg_cmp_le0]
def gb_orf {α : Type} (o : Option Nat) (f : Nat → Option α) : Option α := match o with
  | some b => f b
  | none => none
theorem orf_some {α : Type} (b : Nat) (f : Nat → Option α) : gb_orf (some b) f = f b := rfl
theorem x_get_0 {m : Nat} {r : List Instr} {ls st : List Value} {p : gb_Pi} {I : Nat → Nat → Int32} {J : Nat → Nat → Int64} {q : Bool × Bool} {X : Nat × (Nat → Int32)} {a : Nat} (h : atag p a = 10) : gb_ex m (.getfield 0 :: r) ls (.ref a :: st) p (gS I J q X) = gb_orf (gb_Rw q a 0) (fun b => gb_ex m r ls (.ref b :: st) p (gS I J q X)) := by
  cases hz : gb_Rw q a 0 with
  | none => exact gb_ex_no (by
      show (if atag p a = 10 then _ else _) = _
      rw [if_pos h]
      show (match gb_Rw q a 0 with | some b => _ | none => _) = _
      rw [hz])
  | some b => exact gb_ex_nx (by
      show (if atag p a = 10 then _ else _) = _
      rw [if_pos h]
      show (match gb_Rw q a 0 with | some b => _ | none => _) = _
      rw [hz])
theorem x_put_0 {m : Nat} {r : List Instr} {ls st : List Value} {p : gb_Pi} {g : gb_Sg} {a x : Nat} (h : atag p a = 10) : gb_ex m (.putfield 0 :: r) ls (.ref x :: .ref a :: st) p g = gb_ex m r ls st p (sR g a 0 (some x)) := gb_ex_nx (by
  show (if atag p a = 10 then _ else _) = _
  rw [if_pos h] <;> rfl)
theorem x_get_1 {m : Nat} {r : List Instr} {ls st : List Value} {p : gb_Pi} {g : gb_Sg} {a : Nat} (h : atag p a = 10) : gb_ex m (.getfield 1 :: r) ls (.ref a :: st) p g = gb_ex m r ls (.int (gI g a 1) :: st) p g := gb_ex_nx (by
  show (if atag p a = 10 then _ else _) = _
  rw [if_pos h] <;> rfl)
theorem x_put_1 {m : Nat} {r : List Instr} {ls st : List Value} {p : gb_Pi} {g : gb_Sg} {a : Nat} {x : Int32} (h : atag p a = 10) : gb_ex m (.putfield 1 :: r) ls (.int x :: .ref a :: st) p g = gb_ex m r ls st p (sI g a 1 x) := gb_ex_nx (by
  show (if atag p a = 10 then _ else _) = _
  rw [if_pos h] <;> rfl)
theorem x_get_2 {m : Nat} {r : List Instr} {ls st : List Value} {p : gb_Pi} {I : Nat → Nat → Int32} {J : Nat → Nat → Int64} {q : Bool × Bool} {X : Nat × (Nat → Int32)} {a : Nat} (h : atag p a = 10) : gb_ex m (.getfield 2 :: r) ls (.ref a :: st) p (gS I J q X) = gb_orf (gb_Rw q a 2) (fun b => gb_ex m r ls (.ref b :: st) p (gS I J q X)) := by
  cases hz : gb_Rw q a 2 with
  | none => exact gb_ex_no (by
      show (if atag p a = 10 then _ else _) = _
      rw [if_pos h]
      show (match gb_Rw q a 2 with | some b => _ | none => _) = _
      rw [hz])
  | some b => exact gb_ex_nx (by
      show (if atag p a = 10 then _ else _) = _
      rw [if_pos h]
      show (match gb_Rw q a 2 with | some b => _ | none => _) = _
      rw [hz])
theorem x_put_2 {m : Nat} {r : List Instr} {ls st : List Value} {p : gb_Pi} {g : gb_Sg} {a x : Nat} (h : atag p a = 10) : gb_ex m (.putfield 2 :: r) ls (.ref x :: .ref a :: st) p g = gb_ex m r ls st p (sR g a 2 (some x)) := gb_ex_nx (by
  show (if atag p a = 10 then _ else _) = _
  rw [if_pos h] <;> rfl)
theorem x_get_3 {m : Nat} {r : List Instr} {ls st : List Value} {p : gb_Pi} {g : gb_Sg} {a : Nat} (h : atag p a = 10) : gb_ex m (.getfield 3 :: r) ls (.ref a :: st) p g = gb_ex m r ls (.int (gI g a 3) :: st) p g := gb_ex_nx (by
  show (if atag p a = 10 then _ else _) = _
  rw [if_pos h] <;> rfl)
theorem x_put_3 {m : Nat} {r : List Instr} {ls st : List Value} {p : gb_Pi} {g : gb_Sg} {a : Nat} {x : Int32} (h : atag p a = 10) : gb_ex m (.putfield 3 :: r) ls (.int x :: .ref a :: st) p g = gb_ex m r ls st p (sI g a 3 x) := gb_ex_nx (by
  show (if atag p a = 10 then _ else _) = _
  rw [if_pos h] <;> rfl)
theorem x_get_4 {m : Nat} {r : List Instr} {ls st : List Value} {p : gb_Pi} {I : Nat → Nat → Int32} {J : Nat → Nat → Int64} {q : Bool × Bool} {X : Nat × (Nat → Int32)} {a : Nat} (h : atag p a = 10) : gb_ex m (.getfield 4 :: r) ls (.ref a :: st) p (gS I J q X) = gb_orf (gb_Rw q a 4) (fun b => gb_ex m r ls (.ref b :: st) p (gS I J q X)) := by
  cases hz : gb_Rw q a 4 with
  | none => exact gb_ex_no (by
      show (if atag p a = 10 then _ else _) = _
      rw [if_pos h]
      show (match gb_Rw q a 4 with | some b => _ | none => _) = _
      rw [hz])
  | some b => exact gb_ex_nx (by
      show (if atag p a = 10 then _ else _) = _
      rw [if_pos h]
      show (match gb_Rw q a 4 with | some b => _ | none => _) = _
      rw [hz])
theorem x_put_4 {m : Nat} {r : List Instr} {ls st : List Value} {p : gb_Pi} {g : gb_Sg} {a x : Nat} (h : atag p a = 10) : gb_ex m (.putfield 4 :: r) ls (.ref x :: .ref a :: st) p g = gb_ex m r ls st p (sR g a 4 (some x)) := gb_ex_nx (by
  show (if atag p a = 10 then _ else _) = _
  rw [if_pos h] <;> rfl)
theorem x_get_5 {m : Nat} {r : List Instr} {ls st : List Value} {p : gb_Pi} {I : Nat → Nat → Int32} {J : Nat → Nat → Int64} {q : Bool × Bool} {X : Nat × (Nat → Int32)} {a : Nat} (h : atag p a = 10) : gb_ex m (.getfield 5 :: r) ls (.ref a :: st) p (gS I J q X) = gb_orf (gb_Rw q a 5) (fun b => gb_ex m r ls (.ref b :: st) p (gS I J q X)) := by
  cases hz : gb_Rw q a 5 with
  | none => exact gb_ex_no (by
      show (if atag p a = 10 then _ else _) = _
      rw [if_pos h]
      show (match gb_Rw q a 5 with | some b => _ | none => _) = _
      rw [hz])
  | some b => exact gb_ex_nx (by
      show (if atag p a = 10 then _ else _) = _
      rw [if_pos h]
      show (match gb_Rw q a 5 with | some b => _ | none => _) = _
      rw [hz])
theorem x_put_5 {m : Nat} {r : List Instr} {ls st : List Value} {p : gb_Pi} {g : gb_Sg} {a x : Nat} (h : atag p a = 10) : gb_ex m (.putfield 5 :: r) ls (.ref x :: .ref a :: st) p g = gb_ex m r ls st p (sR g a 5 (some x)) := gb_ex_nx (by
  show (if atag p a = 10 then _ else _) = _
  rw [if_pos h] <;> rfl)
theorem x_get_6 {m : Nat} {r : List Instr} {ls st : List Value} {p : gb_Pi} {I : Nat → Nat → Int32} {J : Nat → Nat → Int64} {q : Bool × Bool} {X : Nat × (Nat → Int32)} {a : Nat} (h : atag p a = 10) : gb_ex m (.getfield 6 :: r) ls (.ref a :: st) p (gS I J q X) = gb_orf (gb_Rw q a 6) (fun b => gb_ex m r ls (.ref b :: st) p (gS I J q X)) := by
  cases hz : gb_Rw q a 6 with
  | none => exact gb_ex_no (by
      show (if atag p a = 10 then _ else _) = _
      rw [if_pos h]
      show (match gb_Rw q a 6 with | some b => _ | none => _) = _
      rw [hz])
  | some b => exact gb_ex_nx (by
      show (if atag p a = 10 then _ else _) = _
      rw [if_pos h]
      show (match gb_Rw q a 6 with | some b => _ | none => _) = _
      rw [hz])
theorem x_put_6 {m : Nat} {r : List Instr} {ls st : List Value} {p : gb_Pi} {g : gb_Sg} {a x : Nat} (h : atag p a = 10) : gb_ex m (.putfield 6 :: r) ls (.ref x :: .ref a :: st) p g = gb_ex m r ls st p (sR g a 6 (some x)) := gb_ex_nx (by
  show (if atag p a = 10 then _ else _) = _
  rw [if_pos h] <;> rfl)
theorem x_get_7 {m : Nat} {r : List Instr} {ls st : List Value} {p : gb_Pi} {I : Nat → Nat → Int32} {J : Nat → Nat → Int64} {q : Bool × Bool} {X : Nat × (Nat → Int32)} {a : Nat} (h : atag p a = 10) : gb_ex m (.getfield 7 :: r) ls (.ref a :: st) p (gS I J q X) = gb_orf (gb_Rw q a 7) (fun b => gb_ex m r ls (.ref b :: st) p (gS I J q X)) := by
  cases hz : gb_Rw q a 7 with
  | none => exact gb_ex_no (by
      show (if atag p a = 10 then _ else _) = _
      rw [if_pos h]
      show (match gb_Rw q a 7 with | some b => _ | none => _) = _
      rw [hz])
  | some b => exact gb_ex_nx (by
      show (if atag p a = 10 then _ else _) = _
      rw [if_pos h]
      show (match gb_Rw q a 7 with | some b => _ | none => _) = _
      rw [hz])
theorem x_put_7 {m : Nat} {r : List Instr} {ls st : List Value} {p : gb_Pi} {g : gb_Sg} {a x : Nat} (h : atag p a = 10) : gb_ex m (.putfield 7 :: r) ls (.ref x :: .ref a :: st) p g = gb_ex m r ls st p (sR g a 7 (some x)) := gb_ex_nx (by
  show (if atag p a = 10 then _ else _) = _
  rw [if_pos h] <;> rfl)
theorem x_get_8 {m : Nat} {r : List Instr} {ls st : List Value} {p : gb_Pi} {g : gb_Sg} {a : Nat} (h : atag p a = 10) : gb_ex m (.getfield 8 :: r) ls (.ref a :: st) p g = gb_ex m r ls (.int (gI g a 8) :: st) p g := gb_ex_nx (by
  show (if atag p a = 10 then _ else _) = _
  rw [if_pos h] <;> rfl)
theorem x_put_8 {m : Nat} {r : List Instr} {ls st : List Value} {p : gb_Pi} {g : gb_Sg} {a : Nat} {x : Int32} (h : atag p a = 10) : gb_ex m (.putfield 8 :: r) ls (.int x :: .ref a :: st) p g = gb_ex m r ls st p (sI g a 8 x) := gb_ex_nx (by
  show (if atag p a = 10 then _ else _) = _
  rw [if_pos h] <;> rfl)
theorem x_get_9 {m : Nat} {r : List Instr} {ls st : List Value} {p : gb_Pi} {I : Nat → Nat → Int32} {J : Nat → Nat → Int64} {q : Bool × Bool} {X : Nat × (Nat → Int32)} {a : Nat} (h : atag p a = 10) : gb_ex m (.getfield 9 :: r) ls (.ref a :: st) p (gS I J q X) = gb_orf (gb_Rw q a 9) (fun b => gb_ex m r ls (.ref b :: st) p (gS I J q X)) := by
  cases hz : gb_Rw q a 9 with
  | none => exact gb_ex_no (by
      show (if atag p a = 10 then _ else _) = _
      rw [if_pos h]
      show (match gb_Rw q a 9 with | some b => _ | none => _) = _
      rw [hz])
  | some b => exact gb_ex_nx (by
      show (if atag p a = 10 then _ else _) = _
      rw [if_pos h]
      show (match gb_Rw q a 9 with | some b => _ | none => _) = _
      rw [hz])
theorem x_put_9 {m : Nat} {r : List Instr} {ls st : List Value} {p : gb_Pi} {g : gb_Sg} {a x : Nat} (h : atag p a = 10) : gb_ex m (.putfield 9 :: r) ls (.ref x :: .ref a :: st) p g = gb_ex m r ls st p (sR g a 9 (some x)) := gb_ex_nx (by
  show (if atag p a = 10 then _ else _) = _
  rw [if_pos h] <;> rfl)
theorem x_get_10 {m : Nat} {r : List Instr} {ls st : List Value} {p : gb_Pi} {I : Nat → Nat → Int32} {J : Nat → Nat → Int64} {q : Bool × Bool} {X : Nat × (Nat → Int32)} {a : Nat} (h : atag p a = 10) : gb_ex m (.getfield 10 :: r) ls (.ref a :: st) p (gS I J q X) = gb_orf (gb_Rw q a 10) (fun b => gb_ex m r ls (.ref b :: st) p (gS I J q X)) := by
  cases hz : gb_Rw q a 10 with
  | none => exact gb_ex_no (by
      show (if atag p a = 10 then _ else _) = _
      rw [if_pos h]
      show (match gb_Rw q a 10 with | some b => _ | none => _) = _
      rw [hz])
  | some b => exact gb_ex_nx (by
      show (if atag p a = 10 then _ else _) = _
      rw [if_pos h]
      show (match gb_Rw q a 10 with | some b => _ | none => _) = _
      rw [hz])
theorem x_put_10 {m : Nat} {r : List Instr} {ls st : List Value} {p : gb_Pi} {g : gb_Sg} {a x : Nat} (h : atag p a = 10) : gb_ex m (.putfield 10 :: r) ls (.ref x :: .ref a :: st) p g = gb_ex m r ls st p (sR g a 10 (some x)) := gb_ex_nx (by
  show (if atag p a = 10 then _ else _) = _
  rw [if_pos h] <;> rfl)
theorem x_get_11 {m : Nat} {r : List Instr} {ls st : List Value} {p : gb_Pi} {I : Nat → Nat → Int32} {J : Nat → Nat → Int64} {q : Bool × Bool} {X : Nat × (Nat → Int32)} {a : Nat} (h : atag p a = 10) : gb_ex m (.getfield 11 :: r) ls (.ref a :: st) p (gS I J q X) = gb_orf (gb_Rw q a 11) (fun b => gb_ex m r ls (.ref b :: st) p (gS I J q X)) := by
  cases hz : gb_Rw q a 11 with
  | none => exact gb_ex_no (by
      show (if atag p a = 10 then _ else _) = _
      rw [if_pos h]
      show (match gb_Rw q a 11 with | some b => _ | none => _) = _
      rw [hz])
  | some b => exact gb_ex_nx (by
      show (if atag p a = 10 then _ else _) = _
      rw [if_pos h]
      show (match gb_Rw q a 11 with | some b => _ | none => _) = _
      rw [hz])
theorem x_put_11 {m : Nat} {r : List Instr} {ls st : List Value} {p : gb_Pi} {g : gb_Sg} {a x : Nat} (h : atag p a = 10) : gb_ex m (.putfield 11 :: r) ls (.ref x :: .ref a :: st) p g = gb_ex m r ls st p (sR g a 11 (some x)) := gb_ex_nx (by
  show (if atag p a = 10 then _ else _) = _
  rw [if_pos h] <;> rfl)
theorem x_get_12 {m : Nat} {r : List Instr} {ls st : List Value} {p : gb_Pi} {I : Nat → Nat → Int32} {J : Nat → Nat → Int64} {q : Bool × Bool} {X : Nat × (Nat → Int32)} {a : Nat} (h : atag p a = 10) : gb_ex m (.getfield 12 :: r) ls (.ref a :: st) p (gS I J q X) = gb_orf (gb_Rw q a 12) (fun b => gb_ex m r ls (.ref b :: st) p (gS I J q X)) := by
  cases hz : gb_Rw q a 12 with
  | none => exact gb_ex_no (by
      show (if atag p a = 10 then _ else _) = _
      rw [if_pos h]
      show (match gb_Rw q a 12 with | some b => _ | none => _) = _
      rw [hz])
  | some b => exact gb_ex_nx (by
      show (if atag p a = 10 then _ else _) = _
      rw [if_pos h]
      show (match gb_Rw q a 12 with | some b => _ | none => _) = _
      rw [hz])
theorem x_put_12 {m : Nat} {r : List Instr} {ls st : List Value} {p : gb_Pi} {g : gb_Sg} {a x : Nat} (h : atag p a = 10) : gb_ex m (.putfield 12 :: r) ls (.ref x :: .ref a :: st) p g = gb_ex m r ls st p (sR g a 12 (some x)) := gb_ex_nx (by
  show (if atag p a = 10 then _ else _) = _
  rw [if_pos h] <;> rfl)
theorem x_get_13 {m : Nat} {r : List Instr} {ls st : List Value} {p : gb_Pi} {I : Nat → Nat → Int32} {J : Nat → Nat → Int64} {q : Bool × Bool} {X : Nat × (Nat → Int32)} {a : Nat} (h : atag p a = 10) : gb_ex m (.getfield 13 :: r) ls (.ref a :: st) p (gS I J q X) = gb_orf (gb_Rw q a 13) (fun b => gb_ex m r ls (.ref b :: st) p (gS I J q X)) := by
  cases hz : gb_Rw q a 13 with
  | none => exact gb_ex_no (by
      show (if atag p a = 10 then _ else _) = _
      rw [if_pos h]
      show (match gb_Rw q a 13 with | some b => _ | none => _) = _
      rw [hz])
  | some b => exact gb_ex_nx (by
      show (if atag p a = 10 then _ else _) = _
      rw [if_pos h]
      show (match gb_Rw q a 13 with | some b => _ | none => _) = _
      rw [hz])
theorem x_put_13 {m : Nat} {r : List Instr} {ls st : List Value} {p : gb_Pi} {g : gb_Sg} {a x : Nat} (h : atag p a = 10) : gb_ex m (.putfield 13 :: r) ls (.ref x :: .ref a :: st) p g = gb_ex m r ls st p (sR g a 13 (some x)) := gb_ex_nx (by
  show (if atag p a = 10 then _ else _) = _
  rw [if_pos h] <;> rfl)
theorem x_get_64 {m : Nat} {r : List Instr} {ls st : List Value} {p : gb_Pi} {g : gb_Sg} {a : Nat} (h : atag p a = 11) : gb_ex m (.getfield 64 :: r) ls (.ref a :: st) p g = gb_ex m r ls (.int (gI g a 0) :: st) p g := gb_ex_nx (by
  show (if atag p a = 11 then _ else _) = _
  rw [if_pos h] <;> rfl)
theorem x_put_64 {m : Nat} {r : List Instr} {ls st : List Value} {p : gb_Pi} {g : gb_Sg} {a : Nat} {x : Int32} (h : atag p a = 11) : gb_ex m (.putfield 64 :: r) ls (.int x :: .ref a :: st) p g = gb_ex m r ls st p (sI g a 0 x) := gb_ex_nx (by
  show (if atag p a = 11 then _ else _) = _
  rw [if_pos h] <;> rfl)
theorem x_get_65 {m : Nat} {r : List Instr} {ls st : List Value} {p : gb_Pi} {g : gb_Sg} {a : Nat} (h : atag p a = 11) : gb_ex m (.getfield 65 :: r) ls (.ref a :: st) p g = gb_ex m r ls (.int (gI g a 1) :: st) p g := gb_ex_nx (by
  show (if atag p a = 11 then _ else _) = _
  rw [if_pos h] <;> rfl)
theorem x_put_65 {m : Nat} {r : List Instr} {ls st : List Value} {p : gb_Pi} {g : gb_Sg} {a : Nat} {x : Int32} (h : atag p a = 11) : gb_ex m (.putfield 65 :: r) ls (.int x :: .ref a :: st) p g = gb_ex m r ls st p (sI g a 1 x) := gb_ex_nx (by
  show (if atag p a = 11 then _ else _) = _
  rw [if_pos h] <;> rfl)
theorem x_get_66 {m : Nat} {r : List Instr} {ls st : List Value} {p : gb_Pi} {I : Nat → Nat → Int32} {J : Nat → Nat → Int64} {q : Bool × Bool} {X : Nat × (Nat → Int32)} {a : Nat} (h : atag p a = 11) : gb_ex m (.getfield 66 :: r) ls (.ref a :: st) p (gS I J q X) = gb_orf (gb_Rw q a 2) (fun b => gb_ex m r ls (.ref b :: st) p (gS I J q X)) := by
  cases hz : gb_Rw q a 2 with
  | none => exact gb_ex_no (by
      show (if atag p a = 11 then _ else _) = _
      rw [if_pos h]
      show (match gb_Rw q a 2 with | some b => _ | none => _) = _
      rw [hz])
  | some b => exact gb_ex_nx (by
      show (if atag p a = 11 then _ else _) = _
      rw [if_pos h]
      show (match gb_Rw q a 2 with | some b => _ | none => _) = _
      rw [hz])
theorem x_put_66 {m : Nat} {r : List Instr} {ls st : List Value} {p : gb_Pi} {g : gb_Sg} {a x : Nat} (h : atag p a = 11) : gb_ex m (.putfield 66 :: r) ls (.ref x :: .ref a :: st) p g = gb_ex m r ls st p (sR g a 2 (some x)) := gb_ex_nx (by
  show (if atag p a = 11 then _ else _) = _
  rw [if_pos h] <;> rfl)
theorem x_get_67 {m : Nat} {r : List Instr} {ls st : List Value} {p : gb_Pi} {I : Nat → Nat → Int32} {J : Nat → Nat → Int64} {q : Bool × Bool} {X : Nat × (Nat → Int32)} {a : Nat} (h : atag p a = 11) : gb_ex m (.getfield 67 :: r) ls (.ref a :: st) p (gS I J q X) = gb_orf (gb_Rw q a 3) (fun b => gb_ex m r ls (.ref b :: st) p (gS I J q X)) := by
  cases hz : gb_Rw q a 3 with
  | none => exact gb_ex_no (by
      show (if atag p a = 11 then _ else _) = _
      rw [if_pos h]
      show (match gb_Rw q a 3 with | some b => _ | none => _) = _
      rw [hz])
  | some b => exact gb_ex_nx (by
      show (if atag p a = 11 then _ else _) = _
      rw [if_pos h]
      show (match gb_Rw q a 3 with | some b => _ | none => _) = _
      rw [hz])
theorem x_put_67 {m : Nat} {r : List Instr} {ls st : List Value} {p : gb_Pi} {g : gb_Sg} {a x : Nat} (h : atag p a = 11) : gb_ex m (.putfield 67 :: r) ls (.ref x :: .ref a :: st) p g = gb_ex m r ls st p (sR g a 3 (some x)) := gb_ex_nx (by
  show (if atag p a = 11 then _ else _) = _
  rw [if_pos h] <;> rfl)
theorem x_get_68 {m : Nat} {r : List Instr} {ls st : List Value} {p : gb_Pi} {I : Nat → Nat → Int32} {J : Nat → Nat → Int64} {q : Bool × Bool} {X : Nat × (Nat → Int32)} {a : Nat} (h : atag p a = 11) : gb_ex m (.getfield 68 :: r) ls (.ref a :: st) p (gS I J q X) = gb_orf (gb_Rw q a 4) (fun b => gb_ex m r ls (.ref b :: st) p (gS I J q X)) := by
  cases hz : gb_Rw q a 4 with
  | none => exact gb_ex_no (by
      show (if atag p a = 11 then _ else _) = _
      rw [if_pos h]
      show (match gb_Rw q a 4 with | some b => _ | none => _) = _
      rw [hz])
  | some b => exact gb_ex_nx (by
      show (if atag p a = 11 then _ else _) = _
      rw [if_pos h]
      show (match gb_Rw q a 4 with | some b => _ | none => _) = _
      rw [hz])
theorem x_put_68 {m : Nat} {r : List Instr} {ls st : List Value} {p : gb_Pi} {g : gb_Sg} {a x : Nat} (h : atag p a = 11) : gb_ex m (.putfield 68 :: r) ls (.ref x :: .ref a :: st) p g = gb_ex m r ls st p (sR g a 4 (some x)) := gb_ex_nx (by
  show (if atag p a = 11 then _ else _) = _
  rw [if_pos h] <;> rfl)
theorem x_get_128 {m : Nat} {r : List Instr} {ls st : List Value} {p : gb_Pi} {g : gb_Sg} {a : Nat} (h : atag p a = 12) : gb_ex m (.getfield 128 :: r) ls (.ref a :: st) p g = gb_ex m r ls (.int (gI g a 0) :: st) p g := gb_ex_nx (by
  show (if atag p a = 12 then _ else _) = _
  rw [if_pos h] <;> rfl)
theorem x_put_128 {m : Nat} {r : List Instr} {ls st : List Value} {p : gb_Pi} {g : gb_Sg} {a : Nat} {x : Int32} (h : atag p a = 12) : gb_ex m (.putfield 128 :: r) ls (.int x :: .ref a :: st) p g = gb_ex m r ls st p (sI g a 0 x) := gb_ex_nx (by
  show (if atag p a = 12 then _ else _) = _
  rw [if_pos h] <;> rfl)
theorem x_get_129 {m : Nat} {r : List Instr} {ls st : List Value} {p : gb_Pi} {I : Nat → Nat → Int32} {J : Nat → Nat → Int64} {q : Bool × Bool} {X : Nat × (Nat → Int32)} {a : Nat} (h : atag p a = 12) : gb_ex m (.getfield 129 :: r) ls (.ref a :: st) p (gS I J q X) = gb_orf (gb_Rw q a 1) (fun b => gb_ex m r ls (.ref b :: st) p (gS I J q X)) := by
  cases hz : gb_Rw q a 1 with
  | none => exact gb_ex_no (by
      show (if atag p a = 12 then _ else _) = _
      rw [if_pos h]
      show (match gb_Rw q a 1 with | some b => _ | none => _) = _
      rw [hz])
  | some b => exact gb_ex_nx (by
      show (if atag p a = 12 then _ else _) = _
      rw [if_pos h]
      show (match gb_Rw q a 1 with | some b => _ | none => _) = _
      rw [hz])
theorem x_put_129 {m : Nat} {r : List Instr} {ls st : List Value} {p : gb_Pi} {g : gb_Sg} {a x : Nat} (h : atag p a = 12) : gb_ex m (.putfield 129 :: r) ls (.ref x :: .ref a :: st) p g = gb_ex m r ls st p (sR g a 1 (some x)) := gb_ex_nx (by
  show (if atag p a = 12 then _ else _) = _
  rw [if_pos h] <;> rfl)
theorem x_get_130 {m : Nat} {r : List Instr} {ls st : List Value} {p : gb_Pi} {I : Nat → Nat → Int32} {J : Nat → Nat → Int64} {q : Bool × Bool} {X : Nat × (Nat → Int32)} {a : Nat} (h : atag p a = 12) : gb_ex m (.getfield 130 :: r) ls (.ref a :: st) p (gS I J q X) = gb_orf (gb_Rw q a 2) (fun b => gb_ex m r ls (.ref b :: st) p (gS I J q X)) := by
  cases hz : gb_Rw q a 2 with
  | none => exact gb_ex_no (by
      show (if atag p a = 12 then _ else _) = _
      rw [if_pos h]
      show (match gb_Rw q a 2 with | some b => _ | none => _) = _
      rw [hz])
  | some b => exact gb_ex_nx (by
      show (if atag p a = 12 then _ else _) = _
      rw [if_pos h]
      show (match gb_Rw q a 2 with | some b => _ | none => _) = _
      rw [hz])
theorem x_put_130 {m : Nat} {r : List Instr} {ls st : List Value} {p : gb_Pi} {g : gb_Sg} {a x : Nat} (h : atag p a = 12) : gb_ex m (.putfield 130 :: r) ls (.ref x :: .ref a :: st) p g = gb_ex m r ls st p (sR g a 2 (some x)) := gb_ex_nx (by
  show (if atag p a = 12 then _ else _) = _
  rw [if_pos h] <;> rfl)
theorem x_get_131 {m : Nat} {r : List Instr} {ls st : List Value} {p : gb_Pi} {I : Nat → Nat → Int32} {J : Nat → Nat → Int64} {q : Bool × Bool} {X : Nat × (Nat → Int32)} {a : Nat} (h : atag p a = 12) : gb_ex m (.getfield 131 :: r) ls (.ref a :: st) p (gS I J q X) = gb_orf (gb_Rw q a 3) (fun b => gb_ex m r ls (.ref b :: st) p (gS I J q X)) := by
  cases hz : gb_Rw q a 3 with
  | none => exact gb_ex_no (by
      show (if atag p a = 12 then _ else _) = _
      rw [if_pos h]
      show (match gb_Rw q a 3 with | some b => _ | none => _) = _
      rw [hz])
  | some b => exact gb_ex_nx (by
      show (if atag p a = 12 then _ else _) = _
      rw [if_pos h]
      show (match gb_Rw q a 3 with | some b => _ | none => _) = _
      rw [hz])
theorem x_put_131 {m : Nat} {r : List Instr} {ls st : List Value} {p : gb_Pi} {g : gb_Sg} {a x : Nat} (h : atag p a = 12) : gb_ex m (.putfield 131 :: r) ls (.ref x :: .ref a :: st) p g = gb_ex m r ls st p (sR g a 3 (some x)) := gb_ex_nx (by
  show (if atag p a = 12 then _ else _) = _
  rw [if_pos h] <;> rfl)
theorem x_get_132 {m : Nat} {r : List Instr} {ls st : List Value} {p : gb_Pi} {I : Nat → Nat → Int32} {J : Nat → Nat → Int64} {q : Bool × Bool} {X : Nat × (Nat → Int32)} {a : Nat} (h : atag p a = 12) : gb_ex m (.getfield 132 :: r) ls (.ref a :: st) p (gS I J q X) = gb_orf (gb_Rw q a 4) (fun b => gb_ex m r ls (.ref b :: st) p (gS I J q X)) := by
  cases hz : gb_Rw q a 4 with
  | none => exact gb_ex_no (by
      show (if atag p a = 12 then _ else _) = _
      rw [if_pos h]
      show (match gb_Rw q a 4 with | some b => _ | none => _) = _
      rw [hz])
  | some b => exact gb_ex_nx (by
      show (if atag p a = 12 then _ else _) = _
      rw [if_pos h]
      show (match gb_Rw q a 4 with | some b => _ | none => _) = _
      rw [hz])
theorem x_put_132 {m : Nat} {r : List Instr} {ls st : List Value} {p : gb_Pi} {g : gb_Sg} {a x : Nat} (h : atag p a = 12) : gb_ex m (.putfield 132 :: r) ls (.ref x :: .ref a :: st) p g = gb_ex m r ls st p (sR g a 4 (some x)) := gb_ex_nx (by
  show (if atag p a = 12 then _ else _) = _
  rw [if_pos h] <;> rfl)
theorem x_get_133 {m : Nat} {r : List Instr} {ls st : List Value} {p : gb_Pi} {I : Nat → Nat → Int32} {J : Nat → Nat → Int64} {q : Bool × Bool} {X : Nat × (Nat → Int32)} {a : Nat} (h : atag p a = 12) : gb_ex m (.getfield 133 :: r) ls (.ref a :: st) p (gS I J q X) = gb_orf (gb_Rw q a 5) (fun b => gb_ex m r ls (.ref b :: st) p (gS I J q X)) := by
  cases hz : gb_Rw q a 5 with
  | none => exact gb_ex_no (by
      show (if atag p a = 12 then _ else _) = _
      rw [if_pos h]
      show (match gb_Rw q a 5 with | some b => _ | none => _) = _
      rw [hz])
  | some b => exact gb_ex_nx (by
      show (if atag p a = 12 then _ else _) = _
      rw [if_pos h]
      show (match gb_Rw q a 5 with | some b => _ | none => _) = _
      rw [hz])
theorem x_put_133 {m : Nat} {r : List Instr} {ls st : List Value} {p : gb_Pi} {g : gb_Sg} {a x : Nat} (h : atag p a = 12) : gb_ex m (.putfield 133 :: r) ls (.ref x :: .ref a :: st) p g = gb_ex m r ls st p (sR g a 5 (some x)) := gb_ex_nx (by
  show (if atag p a = 12 then _ else _) = _
  rw [if_pos h] <;> rfl)
theorem x_get_134 {m : Nat} {r : List Instr} {ls st : List Value} {p : gb_Pi} {I : Nat → Nat → Int32} {J : Nat → Nat → Int64} {q : Bool × Bool} {X : Nat × (Nat → Int32)} {a : Nat} (h : atag p a = 12) : gb_ex m (.getfield 134 :: r) ls (.ref a :: st) p (gS I J q X) = gb_orf (gb_Rw q a 6) (fun b => gb_ex m r ls (.ref b :: st) p (gS I J q X)) := by
  cases hz : gb_Rw q a 6 with
  | none => exact gb_ex_no (by
      show (if atag p a = 12 then _ else _) = _
      rw [if_pos h]
      show (match gb_Rw q a 6 with | some b => _ | none => _) = _
      rw [hz])
  | some b => exact gb_ex_nx (by
      show (if atag p a = 12 then _ else _) = _
      rw [if_pos h]
      show (match gb_Rw q a 6 with | some b => _ | none => _) = _
      rw [hz])
theorem x_put_134 {m : Nat} {r : List Instr} {ls st : List Value} {p : gb_Pi} {g : gb_Sg} {a x : Nat} (h : atag p a = 12) : gb_ex m (.putfield 134 :: r) ls (.ref x :: .ref a :: st) p g = gb_ex m r ls st p (sR g a 6 (some x)) := gb_ex_nx (by
  show (if atag p a = 12 then _ else _) = _
  rw [if_pos h] <;> rfl)
theorem x_get_135 {m : Nat} {r : List Instr} {ls st : List Value} {p : gb_Pi} {I : Nat → Nat → Int32} {J : Nat → Nat → Int64} {q : Bool × Bool} {X : Nat × (Nat → Int32)} {a : Nat} (h : atag p a = 12) : gb_ex m (.getfield 135 :: r) ls (.ref a :: st) p (gS I J q X) = gb_orf (gb_Rw q a 7) (fun b => gb_ex m r ls (.ref b :: st) p (gS I J q X)) := by
  cases hz : gb_Rw q a 7 with
  | none => exact gb_ex_no (by
      show (if atag p a = 12 then _ else _) = _
      rw [if_pos h]
      show (match gb_Rw q a 7 with | some b => _ | none => _) = _
      rw [hz])
  | some b => exact gb_ex_nx (by
      show (if atag p a = 12 then _ else _) = _
      rw [if_pos h]
      show (match gb_Rw q a 7 with | some b => _ | none => _) = _
      rw [hz])
theorem x_put_135 {m : Nat} {r : List Instr} {ls st : List Value} {p : gb_Pi} {g : gb_Sg} {a x : Nat} (h : atag p a = 12) : gb_ex m (.putfield 135 :: r) ls (.ref x :: .ref a :: st) p g = gb_ex m r ls st p (sR g a 7 (some x)) := gb_ex_nx (by
  show (if atag p a = 12 then _ else _) = _
  rw [if_pos h] <;> rfl)
theorem x_get_192 {m : Nat} {r : List Instr} {ls st : List Value} {p : gb_Pi} {I : Nat → Nat → Int32} {J : Nat → Nat → Int64} {q : Bool × Bool} {X : Nat × (Nat → Int32)} {a : Nat} (h : atag p a = 13) : gb_ex m (.getfield 192 :: r) ls (.ref a :: st) p (gS I J q X) = gb_orf (gb_Rw q a 0) (fun b => gb_ex m r ls (.ref b :: st) p (gS I J q X)) := by
  cases hz : gb_Rw q a 0 with
  | none => exact gb_ex_no (by
      show (if atag p a = 13 then _ else _) = _
      rw [if_pos h]
      show (match gb_Rw q a 0 with | some b => _ | none => _) = _
      rw [hz])
  | some b => exact gb_ex_nx (by
      show (if atag p a = 13 then _ else _) = _
      rw [if_pos h]
      show (match gb_Rw q a 0 with | some b => _ | none => _) = _
      rw [hz])
theorem x_put_192 {m : Nat} {r : List Instr} {ls st : List Value} {p : gb_Pi} {g : gb_Sg} {a x : Nat} (h : atag p a = 13) : gb_ex m (.putfield 192 :: r) ls (.ref x :: .ref a :: st) p g = gb_ex m r ls st p (sR g a 0 (some x)) := gb_ex_nx (by
  show (if atag p a = 13 then _ else _) = _
  rw [if_pos h] <;> rfl)
theorem x_get_193 {m : Nat} {r : List Instr} {ls st : List Value} {p : gb_Pi} {I : Nat → Nat → Int32} {J : Nat → Nat → Int64} {q : Bool × Bool} {X : Nat × (Nat → Int32)} {a : Nat} (h : atag p a = 13) : gb_ex m (.getfield 193 :: r) ls (.ref a :: st) p (gS I J q X) = gb_orf (gb_Rw q a 1) (fun b => gb_ex m r ls (.ref b :: st) p (gS I J q X)) := by
  cases hz : gb_Rw q a 1 with
  | none => exact gb_ex_no (by
      show (if atag p a = 13 then _ else _) = _
      rw [if_pos h]
      show (match gb_Rw q a 1 with | some b => _ | none => _) = _
      rw [hz])
  | some b => exact gb_ex_nx (by
      show (if atag p a = 13 then _ else _) = _
      rw [if_pos h]
      show (match gb_Rw q a 1 with | some b => _ | none => _) = _
      rw [hz])
theorem x_put_193 {m : Nat} {r : List Instr} {ls st : List Value} {p : gb_Pi} {g : gb_Sg} {a x : Nat} (h : atag p a = 13) : gb_ex m (.putfield 193 :: r) ls (.ref x :: .ref a :: st) p g = gb_ex m r ls st p (sR g a 1 (some x)) := gb_ex_nx (by
  show (if atag p a = 13 then _ else _) = _
  rw [if_pos h] <;> rfl)
theorem x_get_256 {m : Nat} {r : List Instr} {ls st : List Value} {p : gb_Pi} {I : Nat → Nat → Int32} {J : Nat → Nat → Int64} {q : Bool × Bool} {X : Nat × (Nat → Int32)} {a : Nat} (h : atag p a = 14) : gb_ex m (.getfield 256 :: r) ls (.ref a :: st) p (gS I J q X) = gb_orf (gb_Rw q a 0) (fun b => gb_ex m r ls (.ref b :: st) p (gS I J q X)) := by
  cases hz : gb_Rw q a 0 with
  | none => exact gb_ex_no (by
      show (if atag p a = 14 then _ else _) = _
      rw [if_pos h]
      show (match gb_Rw q a 0 with | some b => _ | none => _) = _
      rw [hz])
  | some b => exact gb_ex_nx (by
      show (if atag p a = 14 then _ else _) = _
      rw [if_pos h]
      show (match gb_Rw q a 0 with | some b => _ | none => _) = _
      rw [hz])
theorem x_put_256 {m : Nat} {r : List Instr} {ls st : List Value} {p : gb_Pi} {g : gb_Sg} {a x : Nat} (h : atag p a = 14) : gb_ex m (.putfield 256 :: r) ls (.ref x :: .ref a :: st) p g = gb_ex m r ls st p (sR g a 0 (some x)) := gb_ex_nx (by
  show (if atag p a = 14 then _ else _) = _
  rw [if_pos h] <;> rfl)
theorem x_get_257 {m : Nat} {r : List Instr} {ls st : List Value} {p : gb_Pi} {I : Nat → Nat → Int32} {J : Nat → Nat → Int64} {q : Bool × Bool} {X : Nat × (Nat → Int32)} {a : Nat} (h : atag p a = 14) : gb_ex m (.getfield 257 :: r) ls (.ref a :: st) p (gS I J q X) = gb_orf (gb_Rw q a 1) (fun b => gb_ex m r ls (.ref b :: st) p (gS I J q X)) := by
  cases hz : gb_Rw q a 1 with
  | none => exact gb_ex_no (by
      show (if atag p a = 14 then _ else _) = _
      rw [if_pos h]
      show (match gb_Rw q a 1 with | some b => _ | none => _) = _
      rw [hz])
  | some b => exact gb_ex_nx (by
      show (if atag p a = 14 then _ else _) = _
      rw [if_pos h]
      show (match gb_Rw q a 1 with | some b => _ | none => _) = _
      rw [hz])
theorem x_put_257 {m : Nat} {r : List Instr} {ls st : List Value} {p : gb_Pi} {g : gb_Sg} {a x : Nat} (h : atag p a = 14) : gb_ex m (.putfield 257 :: r) ls (.ref x :: .ref a :: st) p g = gb_ex m r ls st p (sR g a 1 (some x)) := gb_ex_nx (by
  show (if atag p a = 14 then _ else _) = _
  rw [if_pos h] <;> rfl)
theorem x_get_258 {m : Nat} {r : List Instr} {ls st : List Value} {p : gb_Pi} {I : Nat → Nat → Int32} {J : Nat → Nat → Int64} {q : Bool × Bool} {X : Nat × (Nat → Int32)} {a : Nat} (h : atag p a = 14) : gb_ex m (.getfield 258 :: r) ls (.ref a :: st) p (gS I J q X) = gb_orf (gb_Rw q a 2) (fun b => gb_ex m r ls (.ref b :: st) p (gS I J q X)) := by
  cases hz : gb_Rw q a 2 with
  | none => exact gb_ex_no (by
      show (if atag p a = 14 then _ else _) = _
      rw [if_pos h]
      show (match gb_Rw q a 2 with | some b => _ | none => _) = _
      rw [hz])
  | some b => exact gb_ex_nx (by
      show (if atag p a = 14 then _ else _) = _
      rw [if_pos h]
      show (match gb_Rw q a 2 with | some b => _ | none => _) = _
      rw [hz])
theorem x_put_258 {m : Nat} {r : List Instr} {ls st : List Value} {p : gb_Pi} {g : gb_Sg} {a x : Nat} (h : atag p a = 14) : gb_ex m (.putfield 258 :: r) ls (.ref x :: .ref a :: st) p g = gb_ex m r ls st p (sR g a 2 (some x)) := gb_ex_nx (by
  show (if atag p a = 14 then _ else _) = _
  rw [if_pos h] <;> rfl)
theorem x_get_259 {m : Nat} {r : List Instr} {ls st : List Value} {p : gb_Pi} {I : Nat → Nat → Int32} {J : Nat → Nat → Int64} {q : Bool × Bool} {X : Nat × (Nat → Int32)} {a : Nat} (h : atag p a = 14) : gb_ex m (.getfield 259 :: r) ls (.ref a :: st) p (gS I J q X) = gb_orf (gb_Rw q a 3) (fun b => gb_ex m r ls (.ref b :: st) p (gS I J q X)) := by
  cases hz : gb_Rw q a 3 with
  | none => exact gb_ex_no (by
      show (if atag p a = 14 then _ else _) = _
      rw [if_pos h]
      show (match gb_Rw q a 3 with | some b => _ | none => _) = _
      rw [hz])
  | some b => exact gb_ex_nx (by
      show (if atag p a = 14 then _ else _) = _
      rw [if_pos h]
      show (match gb_Rw q a 3 with | some b => _ | none => _) = _
      rw [hz])
theorem x_put_259 {m : Nat} {r : List Instr} {ls st : List Value} {p : gb_Pi} {g : gb_Sg} {a x : Nat} (h : atag p a = 14) : gb_ex m (.putfield 259 :: r) ls (.ref x :: .ref a :: st) p g = gb_ex m r ls st p (sR g a 3 (some x)) := gb_ex_nx (by
  show (if atag p a = 14 then _ else _) = _
  rw [if_pos h] <;> rfl)
theorem x_get_260 {m : Nat} {r : List Instr} {ls st : List Value} {p : gb_Pi} {I : Nat → Nat → Int32} {J : Nat → Nat → Int64} {q : Bool × Bool} {X : Nat × (Nat → Int32)} {a : Nat} (h : atag p a = 14) : gb_ex m (.getfield 260 :: r) ls (.ref a :: st) p (gS I J q X) = gb_orf (gb_Rw q a 4) (fun b => gb_ex m r ls (.ref b :: st) p (gS I J q X)) := by
  cases hz : gb_Rw q a 4 with
  | none => exact gb_ex_no (by
      show (if atag p a = 14 then _ else _) = _
      rw [if_pos h]
      show (match gb_Rw q a 4 with | some b => _ | none => _) = _
      rw [hz])
  | some b => exact gb_ex_nx (by
      show (if atag p a = 14 then _ else _) = _
      rw [if_pos h]
      show (match gb_Rw q a 4 with | some b => _ | none => _) = _
      rw [hz])
theorem x_put_260 {m : Nat} {r : List Instr} {ls st : List Value} {p : gb_Pi} {g : gb_Sg} {a x : Nat} (h : atag p a = 14) : gb_ex m (.putfield 260 :: r) ls (.ref x :: .ref a :: st) p g = gb_ex m r ls st p (sR g a 4 (some x)) := gb_ex_nx (by
  show (if atag p a = 14 then _ else _) = _
  rw [if_pos h] <;> rfl)
theorem x_get_320 {m : Nat} {r : List Instr} {ls st : List Value} {p : gb_Pi} {I : Nat → Nat → Int32} {J : Nat → Nat → Int64} {q : Bool × Bool} {X : Nat × (Nat → Int32)} {a : Nat} (h : atag p a = 15) : gb_ex m (.getfield 320 :: r) ls (.ref a :: st) p (gS I J q X) = gb_orf (gb_Rw q a 0) (fun b => gb_ex m r ls (.ref b :: st) p (gS I J q X)) := by
  cases hz : gb_Rw q a 0 with
  | none => exact gb_ex_no (by
      show (if atag p a = 15 then _ else _) = _
      rw [if_pos h]
      show (match gb_Rw q a 0 with | some b => _ | none => _) = _
      rw [hz])
  | some b => exact gb_ex_nx (by
      show (if atag p a = 15 then _ else _) = _
      rw [if_pos h]
      show (match gb_Rw q a 0 with | some b => _ | none => _) = _
      rw [hz])
theorem x_put_320 {m : Nat} {r : List Instr} {ls st : List Value} {p : gb_Pi} {g : gb_Sg} {a x : Nat} (h : atag p a = 15) : gb_ex m (.putfield 320 :: r) ls (.ref x :: .ref a :: st) p g = gb_ex m r ls st p (sR g a 0 (some x)) := gb_ex_nx (by
  show (if atag p a = 15 then _ else _) = _
  rw [if_pos h] <;> rfl)
theorem x_get_321 {m : Nat} {r : List Instr} {ls st : List Value} {p : gb_Pi} {g : gb_Sg} {a : Nat} (h : atag p a = 15) : gb_ex m (.getfield 321 :: r) ls (.ref a :: st) p g = gb_ex m r ls (.int (gI g a 1) :: st) p g := gb_ex_nx (by
  show (if atag p a = 15 then _ else _) = _
  rw [if_pos h] <;> rfl)
theorem x_put_321 {m : Nat} {r : List Instr} {ls st : List Value} {p : gb_Pi} {g : gb_Sg} {a : Nat} {x : Int32} (h : atag p a = 15) : gb_ex m (.putfield 321 :: r) ls (.int x :: .ref a :: st) p g = gb_ex m r ls st p (sI g a 1 x) := gb_ex_nx (by
  show (if atag p a = 15 then _ else _) = _
  rw [if_pos h] <;> rfl)
theorem x_get_322 {m : Nat} {r : List Instr} {ls st : List Value} {p : gb_Pi} {g : gb_Sg} {a : Nat} (h : atag p a = 15) : gb_ex m (.getfield 322 :: r) ls (.ref a :: st) p g = gb_ex m r ls (.int (gI g a 2) :: st) p g := gb_ex_nx (by
  show (if atag p a = 15 then _ else _) = _
  rw [if_pos h] <;> rfl)
theorem x_put_322 {m : Nat} {r : List Instr} {ls st : List Value} {p : gb_Pi} {g : gb_Sg} {a : Nat} {x : Int32} (h : atag p a = 15) : gb_ex m (.putfield 322 :: r) ls (.int x :: .ref a :: st) p g = gb_ex m r ls st p (sI g a 2 x) := gb_ex_nx (by
  show (if atag p a = 15 then _ else _) = _
  rw [if_pos h] <;> rfl)
theorem x_get_323 {m : Nat} {r : List Instr} {ls st : List Value} {p : gb_Pi} {g : gb_Sg} {a : Nat} (h : atag p a = 15) : gb_ex m (.getfield 323 :: r) ls (.ref a :: st) p g = gb_ex m r ls (.int (gI g a 3) :: st) p g := gb_ex_nx (by
  show (if atag p a = 15 then _ else _) = _
  rw [if_pos h] <;> rfl)
theorem x_put_323 {m : Nat} {r : List Instr} {ls st : List Value} {p : gb_Pi} {g : gb_Sg} {a : Nat} {x : Int32} (h : atag p a = 15) : gb_ex m (.putfield 323 :: r) ls (.int x :: .ref a :: st) p g = gb_ex m r ls st p (sI g a 3 x) := gb_ex_nx (by
  show (if atag p a = 15 then _ else _) = _
  rw [if_pos h] <;> rfl)
theorem x_get_384 {m : Nat} {r : List Instr} {ls st : List Value} {p : gb_Pi} {g : gb_Sg} {a : Nat} (h : atag p a = 16) : gb_ex m (.getfield 384 :: r) ls (.ref a :: st) p g = gb_ex m r ls (.int (gI g a 0) :: st) p g := gb_ex_nx (by
  show (if atag p a = 16 then _ else _) = _
  rw [if_pos h] <;> rfl)
theorem x_put_384 {m : Nat} {r : List Instr} {ls st : List Value} {p : gb_Pi} {g : gb_Sg} {a : Nat} {x : Int32} (h : atag p a = 16) : gb_ex m (.putfield 384 :: r) ls (.int x :: .ref a :: st) p g = gb_ex m r ls st p (sI g a 0 x) := gb_ex_nx (by
  show (if atag p a = 16 then _ else _) = _
  rw [if_pos h] <;> rfl)
theorem x_get_385 {m : Nat} {r : List Instr} {ls st : List Value} {p : gb_Pi} {I : Nat → Nat → Int32} {J : Nat → Nat → Int64} {q : Bool × Bool} {X : Nat × (Nat → Int32)} {a : Nat} (h : atag p a = 16) : gb_ex m (.getfield 385 :: r) ls (.ref a :: st) p (gS I J q X) = gb_orf (gb_Rw q a 1) (fun b => gb_ex m r ls (.ref b :: st) p (gS I J q X)) := by
  cases hz : gb_Rw q a 1 with
  | none => exact gb_ex_no (by
      show (if atag p a = 16 then _ else _) = _
      rw [if_pos h]
      show (match gb_Rw q a 1 with | some b => _ | none => _) = _
      rw [hz])
  | some b => exact gb_ex_nx (by
      show (if atag p a = 16 then _ else _) = _
      rw [if_pos h]
      show (match gb_Rw q a 1 with | some b => _ | none => _) = _
      rw [hz])
theorem x_put_385 {m : Nat} {r : List Instr} {ls st : List Value} {p : gb_Pi} {g : gb_Sg} {a x : Nat} (h : atag p a = 16) : gb_ex m (.putfield 385 :: r) ls (.ref x :: .ref a :: st) p g = gb_ex m r ls st p (sR g a 1 (some x)) := gb_ex_nx (by
  show (if atag p a = 16 then _ else _) = _
  rw [if_pos h] <;> rfl)
theorem x_get_386 {m : Nat} {r : List Instr} {ls st : List Value} {p : gb_Pi} {I : Nat → Nat → Int32} {J : Nat → Nat → Int64} {q : Bool × Bool} {X : Nat × (Nat → Int32)} {a : Nat} (h : atag p a = 16) : gb_ex m (.getfield 386 :: r) ls (.ref a :: st) p (gS I J q X) = gb_orf (gb_Rw q a 2) (fun b => gb_ex m r ls (.ref b :: st) p (gS I J q X)) := by
  cases hz : gb_Rw q a 2 with
  | none => exact gb_ex_no (by
      show (if atag p a = 16 then _ else _) = _
      rw [if_pos h]
      show (match gb_Rw q a 2 with | some b => _ | none => _) = _
      rw [hz])
  | some b => exact gb_ex_nx (by
      show (if atag p a = 16 then _ else _) = _
      rw [if_pos h]
      show (match gb_Rw q a 2 with | some b => _ | none => _) = _
      rw [hz])
theorem x_put_386 {m : Nat} {r : List Instr} {ls st : List Value} {p : gb_Pi} {g : gb_Sg} {a x : Nat} (h : atag p a = 16) : gb_ex m (.putfield 386 :: r) ls (.ref x :: .ref a :: st) p g = gb_ex m r ls st p (sR g a 2 (some x)) := gb_ex_nx (by
  show (if atag p a = 16 then _ else _) = _
  rw [if_pos h] <;> rfl)
theorem x_get_387 {m : Nat} {r : List Instr} {ls st : List Value} {p : gb_Pi} {I : Nat → Nat → Int32} {J : Nat → Nat → Int64} {q : Bool × Bool} {X : Nat × (Nat → Int32)} {a : Nat} (h : atag p a = 16) : gb_ex m (.getfield 387 :: r) ls (.ref a :: st) p (gS I J q X) = gb_orf (gb_Rw q a 3) (fun b => gb_ex m r ls (.ref b :: st) p (gS I J q X)) := by
  cases hz : gb_Rw q a 3 with
  | none => exact gb_ex_no (by
      show (if atag p a = 16 then _ else _) = _
      rw [if_pos h]
      show (match gb_Rw q a 3 with | some b => _ | none => _) = _
      rw [hz])
  | some b => exact gb_ex_nx (by
      show (if atag p a = 16 then _ else _) = _
      rw [if_pos h]
      show (match gb_Rw q a 3 with | some b => _ | none => _) = _
      rw [hz])
theorem x_put_387 {m : Nat} {r : List Instr} {ls st : List Value} {p : gb_Pi} {g : gb_Sg} {a x : Nat} (h : atag p a = 16) : gb_ex m (.putfield 387 :: r) ls (.ref x :: .ref a :: st) p g = gb_ex m r ls st p (sR g a 3 (some x)) := gb_ex_nx (by
  show (if atag p a = 16 then _ else _) = _
  rw [if_pos h] <;> rfl)
theorem x_get_388 {m : Nat} {r : List Instr} {ls st : List Value} {p : gb_Pi} {g : gb_Sg} {a : Nat} (h : atag p a = 16) : gb_ex m (.getfield 388 :: r) ls (.ref a :: st) p g = gb_ex m r ls (.int (gI g a 4) :: st) p g := gb_ex_nx (by
  show (if atag p a = 16 then _ else _) = _
  rw [if_pos h] <;> rfl)
theorem x_put_388 {m : Nat} {r : List Instr} {ls st : List Value} {p : gb_Pi} {g : gb_Sg} {a : Nat} {x : Int32} (h : atag p a = 16) : gb_ex m (.putfield 388 :: r) ls (.int x :: .ref a :: st) p g = gb_ex m r ls st p (sI g a 4 x) := gb_ex_nx (by
  show (if atag p a = 16 then _ else _) = _
  rw [if_pos h] <;> rfl)
theorem x_get_389 {m : Nat} {r : List Instr} {ls st : List Value} {p : gb_Pi} {I : Nat → Nat → Int32} {J : Nat → Nat → Int64} {q : Bool × Bool} {X : Nat × (Nat → Int32)} {a : Nat} (h : atag p a = 16) : gb_ex m (.getfield 389 :: r) ls (.ref a :: st) p (gS I J q X) = gb_orf (gb_Rw q a 5) (fun b => gb_ex m r ls (.ref b :: st) p (gS I J q X)) := by
  cases hz : gb_Rw q a 5 with
  | none => exact gb_ex_no (by
      show (if atag p a = 16 then _ else _) = _
      rw [if_pos h]
      show (match gb_Rw q a 5 with | some b => _ | none => _) = _
      rw [hz])
  | some b => exact gb_ex_nx (by
      show (if atag p a = 16 then _ else _) = _
      rw [if_pos h]
      show (match gb_Rw q a 5 with | some b => _ | none => _) = _
      rw [hz])
theorem x_put_389 {m : Nat} {r : List Instr} {ls st : List Value} {p : gb_Pi} {g : gb_Sg} {a x : Nat} (h : atag p a = 16) : gb_ex m (.putfield 389 :: r) ls (.ref x :: .ref a :: st) p g = gb_ex m r ls st p (sR g a 5 (some x)) := gb_ex_nx (by
  show (if atag p a = 16 then _ else _) = _
  rw [if_pos h] <;> rfl)
theorem x_get_390 {m : Nat} {r : List Instr} {ls st : List Value} {p : gb_Pi} {I : Nat → Nat → Int32} {J : Nat → Nat → Int64} {q : Bool × Bool} {X : Nat × (Nat → Int32)} {a : Nat} (h : atag p a = 16) : gb_ex m (.getfield 390 :: r) ls (.ref a :: st) p (gS I J q X) = gb_orf (gb_Rw q a 6) (fun b => gb_ex m r ls (.ref b :: st) p (gS I J q X)) := by
  cases hz : gb_Rw q a 6 with
  | none => exact gb_ex_no (by
      show (if atag p a = 16 then _ else _) = _
      rw [if_pos h]
      show (match gb_Rw q a 6 with | some b => _ | none => _) = _
      rw [hz])
  | some b => exact gb_ex_nx (by
      show (if atag p a = 16 then _ else _) = _
      rw [if_pos h]
      show (match gb_Rw q a 6 with | some b => _ | none => _) = _
      rw [hz])
theorem x_put_390 {m : Nat} {r : List Instr} {ls st : List Value} {p : gb_Pi} {g : gb_Sg} {a x : Nat} (h : atag p a = 16) : gb_ex m (.putfield 390 :: r) ls (.ref x :: .ref a :: st) p g = gb_ex m r ls st p (sR g a 6 (some x)) := gb_ex_nx (by
  show (if atag p a = 16 then _ else _) = _
  rw [if_pos h] <;> rfl)
theorem x_get_391 {m : Nat} {r : List Instr} {ls st : List Value} {p : gb_Pi} {I : Nat → Nat → Int32} {J : Nat → Nat → Int64} {q : Bool × Bool} {X : Nat × (Nat → Int32)} {a : Nat} (h : atag p a = 16) : gb_ex m (.getfield 391 :: r) ls (.ref a :: st) p (gS I J q X) = gb_orf (gb_Rw q a 7) (fun b => gb_ex m r ls (.ref b :: st) p (gS I J q X)) := by
  cases hz : gb_Rw q a 7 with
  | none => exact gb_ex_no (by
      show (if atag p a = 16 then _ else _) = _
      rw [if_pos h]
      show (match gb_Rw q a 7 with | some b => _ | none => _) = _
      rw [hz])
  | some b => exact gb_ex_nx (by
      show (if atag p a = 16 then _ else _) = _
      rw [if_pos h]
      show (match gb_Rw q a 7 with | some b => _ | none => _) = _
      rw [hz])
theorem x_put_391 {m : Nat} {r : List Instr} {ls st : List Value} {p : gb_Pi} {g : gb_Sg} {a x : Nat} (h : atag p a = 16) : gb_ex m (.putfield 391 :: r) ls (.ref x :: .ref a :: st) p g = gb_ex m r ls st p (sR g a 7 (some x)) := gb_ex_nx (by
  show (if atag p a = 16 then _ else _) = _
  rw [if_pos h] <;> rfl)
theorem x_get_392 {m : Nat} {r : List Instr} {ls st : List Value} {p : gb_Pi} {I : Nat → Nat → Int32} {J : Nat → Nat → Int64} {q : Bool × Bool} {X : Nat × (Nat → Int32)} {a : Nat} (h : atag p a = 16) : gb_ex m (.getfield 392 :: r) ls (.ref a :: st) p (gS I J q X) = gb_orf (gb_Rw q a 8) (fun b => gb_ex m r ls (.ref b :: st) p (gS I J q X)) := by
  cases hz : gb_Rw q a 8 with
  | none => exact gb_ex_no (by
      show (if atag p a = 16 then _ else _) = _
      rw [if_pos h]
      show (match gb_Rw q a 8 with | some b => _ | none => _) = _
      rw [hz])
  | some b => exact gb_ex_nx (by
      show (if atag p a = 16 then _ else _) = _
      rw [if_pos h]
      show (match gb_Rw q a 8 with | some b => _ | none => _) = _
      rw [hz])
theorem x_put_392 {m : Nat} {r : List Instr} {ls st : List Value} {p : gb_Pi} {g : gb_Sg} {a x : Nat} (h : atag p a = 16) : gb_ex m (.putfield 392 :: r) ls (.ref x :: .ref a :: st) p g = gb_ex m r ls st p (sR g a 8 (some x)) := gb_ex_nx (by
  show (if atag p a = 16 then _ else _) = _
  rw [if_pos h] <;> rfl)
theorem x_get_393 {m : Nat} {r : List Instr} {ls st : List Value} {p : gb_Pi} {I : Nat → Nat → Int32} {J : Nat → Nat → Int64} {q : Bool × Bool} {X : Nat × (Nat → Int32)} {a : Nat} (h : atag p a = 16) : gb_ex m (.getfield 393 :: r) ls (.ref a :: st) p (gS I J q X) = gb_orf (gb_Rw q a 9) (fun b => gb_ex m r ls (.ref b :: st) p (gS I J q X)) := by
  cases hz : gb_Rw q a 9 with
  | none => exact gb_ex_no (by
      show (if atag p a = 16 then _ else _) = _
      rw [if_pos h]
      show (match gb_Rw q a 9 with | some b => _ | none => _) = _
      rw [hz])
  | some b => exact gb_ex_nx (by
      show (if atag p a = 16 then _ else _) = _
      rw [if_pos h]
      show (match gb_Rw q a 9 with | some b => _ | none => _) = _
      rw [hz])
theorem x_put_393 {m : Nat} {r : List Instr} {ls st : List Value} {p : gb_Pi} {g : gb_Sg} {a x : Nat} (h : atag p a = 16) : gb_ex m (.putfield 393 :: r) ls (.ref x :: .ref a :: st) p g = gb_ex m r ls st p (sR g a 9 (some x)) := gb_ex_nx (by
  show (if atag p a = 16 then _ else _) = _
  rw [if_pos h] <;> rfl)
theorem x_get_394 {m : Nat} {r : List Instr} {ls st : List Value} {p : gb_Pi} {g : gb_Sg} {a : Nat} (h : atag p a = 16) : gb_ex m (.getfield 394 :: r) ls (.ref a :: st) p g = gb_ex m r ls (.int (gI g a 10) :: st) p g := gb_ex_nx (by
  show (if atag p a = 16 then _ else _) = _
  rw [if_pos h] <;> rfl)
theorem x_put_394 {m : Nat} {r : List Instr} {ls st : List Value} {p : gb_Pi} {g : gb_Sg} {a : Nat} {x : Int32} (h : atag p a = 16) : gb_ex m (.putfield 394 :: r) ls (.int x :: .ref a :: st) p g = gb_ex m r ls st p (sI g a 10 x) := gb_ex_nx (by
  show (if atag p a = 16 then _ else _) = _
  rw [if_pos h] <;> rfl)
theorem x_get_395 {m : Nat} {r : List Instr} {ls st : List Value} {p : gb_Pi} {I : Nat → Nat → Int32} {J : Nat → Nat → Int64} {q : Bool × Bool} {X : Nat × (Nat → Int32)} {a : Nat} (h : atag p a = 16) : gb_ex m (.getfield 395 :: r) ls (.ref a :: st) p (gS I J q X) = gb_orf (gb_Rw q a 11) (fun b => gb_ex m r ls (.ref b :: st) p (gS I J q X)) := by
  cases hz : gb_Rw q a 11 with
  | none => exact gb_ex_no (by
      show (if atag p a = 16 then _ else _) = _
      rw [if_pos h]
      show (match gb_Rw q a 11 with | some b => _ | none => _) = _
      rw [hz])
  | some b => exact gb_ex_nx (by
      show (if atag p a = 16 then _ else _) = _
      rw [if_pos h]
      show (match gb_Rw q a 11 with | some b => _ | none => _) = _
      rw [hz])
theorem x_put_395 {m : Nat} {r : List Instr} {ls st : List Value} {p : gb_Pi} {g : gb_Sg} {a x : Nat} (h : atag p a = 16) : gb_ex m (.putfield 395 :: r) ls (.ref x :: .ref a :: st) p g = gb_ex m r ls st p (sR g a 11 (some x)) := gb_ex_nx (by
  show (if atag p a = 16 then _ else _) = _
  rw [if_pos h] <;> rfl)
theorem x_get_396 {m : Nat} {r : List Instr} {ls st : List Value} {p : gb_Pi} {g : gb_Sg} {a : Nat} (h : atag p a = 16) : gb_ex m (.getfield 396 :: r) ls (.ref a :: st) p g = gb_ex m r ls (.int (gI g a 12) :: st) p g := gb_ex_nx (by
  show (if atag p a = 16 then _ else _) = _
  rw [if_pos h] <;> rfl)
theorem x_put_396 {m : Nat} {r : List Instr} {ls st : List Value} {p : gb_Pi} {g : gb_Sg} {a : Nat} {x : Int32} (h : atag p a = 16) : gb_ex m (.putfield 396 :: r) ls (.int x :: .ref a :: st) p g = gb_ex m r ls st p (sI g a 12 x) := gb_ex_nx (by
  show (if atag p a = 16 then _ else _) = _
  rw [if_pos h] <;> rfl)
theorem x_get_397 {m : Nat} {r : List Instr} {ls st : List Value} {p : gb_Pi} {I : Nat → Nat → Int32} {J : Nat → Nat → Int64} {q : Bool × Bool} {X : Nat × (Nat → Int32)} {a : Nat} (h : atag p a = 16) : gb_ex m (.getfield 397 :: r) ls (.ref a :: st) p (gS I J q X) = gb_orf (gb_Rw q a 13) (fun b => gb_ex m r ls (.ref b :: st) p (gS I J q X)) := by
  cases hz : gb_Rw q a 13 with
  | none => exact gb_ex_no (by
      show (if atag p a = 16 then _ else _) = _
      rw [if_pos h]
      show (match gb_Rw q a 13 with | some b => _ | none => _) = _
      rw [hz])
  | some b => exact gb_ex_nx (by
      show (if atag p a = 16 then _ else _) = _
      rw [if_pos h]
      show (match gb_Rw q a 13 with | some b => _ | none => _) = _
      rw [hz])
theorem x_put_397 {m : Nat} {r : List Instr} {ls st : List Value} {p : gb_Pi} {g : gb_Sg} {a x : Nat} (h : atag p a = 16) : gb_ex m (.putfield 397 :: r) ls (.ref x :: .ref a :: st) p g = gb_ex m r ls st p (sR g a 13 (some x)) := gb_ex_nx (by
  show (if atag p a = 16 then _ else _) = _
  rw [if_pos h] <;> rfl)
theorem x_get_398 {m : Nat} {r : List Instr} {ls st : List Value} {p : gb_Pi} {I : Nat → Nat → Int32} {J : Nat → Nat → Int64} {q : Bool × Bool} {X : Nat × (Nat → Int32)} {a : Nat} (h : atag p a = 16) : gb_ex m (.getfield 398 :: r) ls (.ref a :: st) p (gS I J q X) = gb_orf (gb_Rw q a 14) (fun b => gb_ex m r ls (.ref b :: st) p (gS I J q X)) := by
  cases hz : gb_Rw q a 14 with
  | none => exact gb_ex_no (by
      show (if atag p a = 16 then _ else _) = _
      rw [if_pos h]
      show (match gb_Rw q a 14 with | some b => _ | none => _) = _
      rw [hz])
  | some b => exact gb_ex_nx (by
      show (if atag p a = 16 then _ else _) = _
      rw [if_pos h]
      show (match gb_Rw q a 14 with | some b => _ | none => _) = _
      rw [hz])
theorem x_put_398 {m : Nat} {r : List Instr} {ls st : List Value} {p : gb_Pi} {g : gb_Sg} {a x : Nat} (h : atag p a = 16) : gb_ex m (.putfield 398 :: r) ls (.ref x :: .ref a :: st) p g = gb_ex m r ls st p (sR g a 14 (some x)) := gb_ex_nx (by
  show (if atag p a = 16 then _ else _) = _
  rw [if_pos h] <;> rfl)
theorem x_get_399 {m : Nat} {r : List Instr} {ls st : List Value} {p : gb_Pi} {I : Nat → Nat → Int32} {J : Nat → Nat → Int64} {q : Bool × Bool} {X : Nat × (Nat → Int32)} {a : Nat} (h : atag p a = 16) : gb_ex m (.getfield 399 :: r) ls (.ref a :: st) p (gS I J q X) = gb_orf (gb_Rw q a 15) (fun b => gb_ex m r ls (.ref b :: st) p (gS I J q X)) := by
  cases hz : gb_Rw q a 15 with
  | none => exact gb_ex_no (by
      show (if atag p a = 16 then _ else _) = _
      rw [if_pos h]
      show (match gb_Rw q a 15 with | some b => _ | none => _) = _
      rw [hz])
  | some b => exact gb_ex_nx (by
      show (if atag p a = 16 then _ else _) = _
      rw [if_pos h]
      show (match gb_Rw q a 15 with | some b => _ | none => _) = _
      rw [hz])
theorem x_put_399 {m : Nat} {r : List Instr} {ls st : List Value} {p : gb_Pi} {g : gb_Sg} {a x : Nat} (h : atag p a = 16) : gb_ex m (.putfield 399 :: r) ls (.ref x :: .ref a :: st) p g = gb_ex m r ls st p (sR g a 15 (some x)) := gb_ex_nx (by
  show (if atag p a = 16 then _ else _) = _
  rw [if_pos h] <;> rfl)
theorem x_get_448 {m : Nat} {r : List Instr} {ls st : List Value} {p : gb_Pi} {I : Nat → Nat → Int32} {J : Nat → Nat → Int64} {q : Bool × Bool} {X : Nat × (Nat → Int32)} {a : Nat} (h : atag p a = 17) : gb_ex m (.getfield 448 :: r) ls (.ref a :: st) p (gS I J q X) = gb_orf (gb_Rw q a 0) (fun b => gb_ex m r ls (.ref b :: st) p (gS I J q X)) := by
  cases hz : gb_Rw q a 0 with
  | none => exact gb_ex_no (by
      show (if atag p a = 17 then _ else _) = _
      rw [if_pos h]
      show (match gb_Rw q a 0 with | some b => _ | none => _) = _
      rw [hz])
  | some b => exact gb_ex_nx (by
      show (if atag p a = 17 then _ else _) = _
      rw [if_pos h]
      show (match gb_Rw q a 0 with | some b => _ | none => _) = _
      rw [hz])
theorem x_put_448 {m : Nat} {r : List Instr} {ls st : List Value} {p : gb_Pi} {g : gb_Sg} {a x : Nat} (h : atag p a = 17) : gb_ex m (.putfield 448 :: r) ls (.ref x :: .ref a :: st) p g = gb_ex m r ls st p (sR g a 0 (some x)) := gb_ex_nx (by
  show (if atag p a = 17 then _ else _) = _
  rw [if_pos h] <;> rfl)
theorem x_get_449 {m : Nat} {r : List Instr} {ls st : List Value} {p : gb_Pi} {I : Nat → Nat → Int32} {J : Nat → Nat → Int64} {q : Bool × Bool} {X : Nat × (Nat → Int32)} {a : Nat} (h : atag p a = 17) : gb_ex m (.getfield 449 :: r) ls (.ref a :: st) p (gS I J q X) = gb_orf (gb_Rw q a 1) (fun b => gb_ex m r ls (.ref b :: st) p (gS I J q X)) := by
  cases hz : gb_Rw q a 1 with
  | none => exact gb_ex_no (by
      show (if atag p a = 17 then _ else _) = _
      rw [if_pos h]
      show (match gb_Rw q a 1 with | some b => _ | none => _) = _
      rw [hz])
  | some b => exact gb_ex_nx (by
      show (if atag p a = 17 then _ else _) = _
      rw [if_pos h]
      show (match gb_Rw q a 1 with | some b => _ | none => _) = _
      rw [hz])
theorem x_put_449 {m : Nat} {r : List Instr} {ls st : List Value} {p : gb_Pi} {g : gb_Sg} {a x : Nat} (h : atag p a = 17) : gb_ex m (.putfield 449 :: r) ls (.ref x :: .ref a :: st) p g = gb_ex m r ls st p (sR g a 1 (some x)) := gb_ex_nx (by
  show (if atag p a = 17 then _ else _) = _
  rw [if_pos h] <;> rfl)
theorem x_get_450 {m : Nat} {r : List Instr} {ls st : List Value} {p : gb_Pi} {I : Nat → Nat → Int32} {J : Nat → Nat → Int64} {q : Bool × Bool} {X : Nat × (Nat → Int32)} {a : Nat} (h : atag p a = 17) : gb_ex m (.getfield 450 :: r) ls (.ref a :: st) p (gS I J q X) = gb_orf (gb_Rw q a 2) (fun b => gb_ex m r ls (.ref b :: st) p (gS I J q X)) := by
  cases hz : gb_Rw q a 2 with
  | none => exact gb_ex_no (by
      show (if atag p a = 17 then _ else _) = _
      rw [if_pos h]
      show (match gb_Rw q a 2 with | some b => _ | none => _) = _
      rw [hz])
  | some b => exact gb_ex_nx (by
      show (if atag p a = 17 then _ else _) = _
      rw [if_pos h]
      show (match gb_Rw q a 2 with | some b => _ | none => _) = _
      rw [hz])
theorem x_put_450 {m : Nat} {r : List Instr} {ls st : List Value} {p : gb_Pi} {g : gb_Sg} {a x : Nat} (h : atag p a = 17) : gb_ex m (.putfield 450 :: r) ls (.ref x :: .ref a :: st) p g = gb_ex m r ls st p (sR g a 2 (some x)) := gb_ex_nx (by
  show (if atag p a = 17 then _ else _) = _
  rw [if_pos h] <;> rfl)
theorem x_get_451 {m : Nat} {r : List Instr} {ls st : List Value} {p : gb_Pi} {I : Nat → Nat → Int32} {J : Nat → Nat → Int64} {q : Bool × Bool} {X : Nat × (Nat → Int32)} {a : Nat} (h : atag p a = 17) : gb_ex m (.getfield 451 :: r) ls (.ref a :: st) p (gS I J q X) = gb_orf (gb_Rw q a 3) (fun b => gb_ex m r ls (.ref b :: st) p (gS I J q X)) := by
  cases hz : gb_Rw q a 3 with
  | none => exact gb_ex_no (by
      show (if atag p a = 17 then _ else _) = _
      rw [if_pos h]
      show (match gb_Rw q a 3 with | some b => _ | none => _) = _
      rw [hz])
  | some b => exact gb_ex_nx (by
      show (if atag p a = 17 then _ else _) = _
      rw [if_pos h]
      show (match gb_Rw q a 3 with | some b => _ | none => _) = _
      rw [hz])
theorem x_put_451 {m : Nat} {r : List Instr} {ls st : List Value} {p : gb_Pi} {g : gb_Sg} {a x : Nat} (h : atag p a = 17) : gb_ex m (.putfield 451 :: r) ls (.ref x :: .ref a :: st) p g = gb_ex m r ls st p (sR g a 3 (some x)) := gb_ex_nx (by
  show (if atag p a = 17 then _ else _) = _
  rw [if_pos h] <;> rfl)
theorem x_get_512 {m : Nat} {r : List Instr} {ls st : List Value} {p : gb_Pi} {g : gb_Sg} {a : Nat} (h : atag p a = 18) : gb_ex m (.getfield 512 :: r) ls (.ref a :: st) p g = gb_ex m r ls (.int (gI g a 0) :: st) p g := gb_ex_nx (by
  show (if atag p a = 18 then _ else _) = _
  rw [if_pos h] <;> rfl)
theorem x_put_512 {m : Nat} {r : List Instr} {ls st : List Value} {p : gb_Pi} {g : gb_Sg} {a : Nat} {x : Int32} (h : atag p a = 18) : gb_ex m (.putfield 512 :: r) ls (.int x :: .ref a :: st) p g = gb_ex m r ls st p (sI g a 0 x) := gb_ex_nx (by
  show (if atag p a = 18 then _ else _) = _
  rw [if_pos h] <;> rfl)
theorem x_get_513 {m : Nat} {r : List Instr} {ls st : List Value} {p : gb_Pi} {I : Nat → Nat → Int32} {J : Nat → Nat → Int64} {q : Bool × Bool} {X : Nat × (Nat → Int32)} {a : Nat} (h : atag p a = 18) : gb_ex m (.getfield 513 :: r) ls (.ref a :: st) p (gS I J q X) = gb_orf (gb_Rw q a 1) (fun b => gb_ex m r ls (.ref b :: st) p (gS I J q X)) := by
  cases hz : gb_Rw q a 1 with
  | none => exact gb_ex_no (by
      show (if atag p a = 18 then _ else _) = _
      rw [if_pos h]
      show (match gb_Rw q a 1 with | some b => _ | none => _) = _
      rw [hz])
  | some b => exact gb_ex_nx (by
      show (if atag p a = 18 then _ else _) = _
      rw [if_pos h]
      show (match gb_Rw q a 1 with | some b => _ | none => _) = _
      rw [hz])
theorem x_put_513 {m : Nat} {r : List Instr} {ls st : List Value} {p : gb_Pi} {g : gb_Sg} {a x : Nat} (h : atag p a = 18) : gb_ex m (.putfield 513 :: r) ls (.ref x :: .ref a :: st) p g = gb_ex m r ls st p (sR g a 1 (some x)) := gb_ex_nx (by
  show (if atag p a = 18 then _ else _) = _
  rw [if_pos h] <;> rfl)
theorem x_get_514 {m : Nat} {r : List Instr} {ls st : List Value} {p : gb_Pi} {I : Nat → Nat → Int32} {J : Nat → Nat → Int64} {q : Bool × Bool} {X : Nat × (Nat → Int32)} {a : Nat} (h : atag p a = 18) : gb_ex m (.getfield 514 :: r) ls (.ref a :: st) p (gS I J q X) = gb_orf (gb_Rw q a 2) (fun b => gb_ex m r ls (.ref b :: st) p (gS I J q X)) := by
  cases hz : gb_Rw q a 2 with
  | none => exact gb_ex_no (by
      show (if atag p a = 18 then _ else _) = _
      rw [if_pos h]
      show (match gb_Rw q a 2 with | some b => _ | none => _) = _
      rw [hz])
  | some b => exact gb_ex_nx (by
      show (if atag p a = 18 then _ else _) = _
      rw [if_pos h]
      show (match gb_Rw q a 2 with | some b => _ | none => _) = _
      rw [hz])
theorem x_put_514 {m : Nat} {r : List Instr} {ls st : List Value} {p : gb_Pi} {g : gb_Sg} {a x : Nat} (h : atag p a = 18) : gb_ex m (.putfield 514 :: r) ls (.ref x :: .ref a :: st) p g = gb_ex m r ls st p (sR g a 2 (some x)) := gb_ex_nx (by
  show (if atag p a = 18 then _ else _) = _
  rw [if_pos h] <;> rfl)
theorem x_get_515 {m : Nat} {r : List Instr} {ls st : List Value} {p : gb_Pi} {g : gb_Sg} {a : Nat} (h : atag p a = 18) : gb_ex m (.getfield 515 :: r) ls (.ref a :: st) p g = gb_ex m r ls (.int (gI g a 3) :: st) p g := gb_ex_nx (by
  show (if atag p a = 18 then _ else _) = _
  rw [if_pos h] <;> rfl)
theorem x_put_515 {m : Nat} {r : List Instr} {ls st : List Value} {p : gb_Pi} {g : gb_Sg} {a : Nat} {x : Int32} (h : atag p a = 18) : gb_ex m (.putfield 515 :: r) ls (.int x :: .ref a :: st) p g = gb_ex m r ls st p (sI g a 3 x) := gb_ex_nx (by
  show (if atag p a = 18 then _ else _) = _
  rw [if_pos h] <;> rfl)
theorem x_get_516 {m : Nat} {r : List Instr} {ls st : List Value} {p : gb_Pi} {g : gb_Sg} {a : Nat} (h : atag p a = 18) : gb_ex m (.getfield 516 :: r) ls (.ref a :: st) p g = gb_ex m r ls (.int (gI g a 4) :: st) p g := gb_ex_nx (by
  show (if atag p a = 18 then _ else _) = _
  rw [if_pos h] <;> rfl)
theorem x_put_516 {m : Nat} {r : List Instr} {ls st : List Value} {p : gb_Pi} {g : gb_Sg} {a : Nat} {x : Int32} (h : atag p a = 18) : gb_ex m (.putfield 516 :: r) ls (.int x :: .ref a :: st) p g = gb_ex m r ls st p (sI g a 4 x) := gb_ex_nx (by
  show (if atag p a = 18 then _ else _) = _
  rw [if_pos h] <;> rfl)
theorem x_get_517 {m : Nat} {r : List Instr} {ls st : List Value} {p : gb_Pi} {I : Nat → Nat → Int32} {J : Nat → Nat → Int64} {q : Bool × Bool} {X : Nat × (Nat → Int32)} {a : Nat} (h : atag p a = 18) : gb_ex m (.getfield 517 :: r) ls (.ref a :: st) p (gS I J q X) = gb_orf (gb_Rw q a 5) (fun b => gb_ex m r ls (.ref b :: st) p (gS I J q X)) := by
  cases hz : gb_Rw q a 5 with
  | none => exact gb_ex_no (by
      show (if atag p a = 18 then _ else _) = _
      rw [if_pos h]
      show (match gb_Rw q a 5 with | some b => _ | none => _) = _
      rw [hz])
  | some b => exact gb_ex_nx (by
      show (if atag p a = 18 then _ else _) = _
      rw [if_pos h]
      show (match gb_Rw q a 5 with | some b => _ | none => _) = _
      rw [hz])
theorem x_put_517 {m : Nat} {r : List Instr} {ls st : List Value} {p : gb_Pi} {g : gb_Sg} {a x : Nat} (h : atag p a = 18) : gb_ex m (.putfield 517 :: r) ls (.ref x :: .ref a :: st) p g = gb_ex m r ls st p (sR g a 5 (some x)) := gb_ex_nx (by
  show (if atag p a = 18 then _ else _) = _
  rw [if_pos h] <;> rfl)
theorem x_get_518 {m : Nat} {r : List Instr} {ls st : List Value} {p : gb_Pi} {I : Nat → Nat → Int32} {J : Nat → Nat → Int64} {q : Bool × Bool} {X : Nat × (Nat → Int32)} {a : Nat} (h : atag p a = 18) : gb_ex m (.getfield 518 :: r) ls (.ref a :: st) p (gS I J q X) = gb_orf (gb_Rw q a 6) (fun b => gb_ex m r ls (.ref b :: st) p (gS I J q X)) := by
  cases hz : gb_Rw q a 6 with
  | none => exact gb_ex_no (by
      show (if atag p a = 18 then _ else _) = _
      rw [if_pos h]
      show (match gb_Rw q a 6 with | some b => _ | none => _) = _
      rw [hz])
  | some b => exact gb_ex_nx (by
      show (if atag p a = 18 then _ else _) = _
      rw [if_pos h]
      show (match gb_Rw q a 6 with | some b => _ | none => _) = _
      rw [hz])
theorem x_put_518 {m : Nat} {r : List Instr} {ls st : List Value} {p : gb_Pi} {g : gb_Sg} {a x : Nat} (h : atag p a = 18) : gb_ex m (.putfield 518 :: r) ls (.ref x :: .ref a :: st) p g = gb_ex m r ls st p (sR g a 6 (some x)) := gb_ex_nx (by
  show (if atag p a = 18 then _ else _) = _
  rw [if_pos h] <;> rfl)
theorem x_get_519 {m : Nat} {r : List Instr} {ls st : List Value} {p : gb_Pi} {I : Nat → Nat → Int32} {J : Nat → Nat → Int64} {q : Bool × Bool} {X : Nat × (Nat → Int32)} {a : Nat} (h : atag p a = 18) : gb_ex m (.getfield 519 :: r) ls (.ref a :: st) p (gS I J q X) = gb_orf (gb_Rw q a 7) (fun b => gb_ex m r ls (.ref b :: st) p (gS I J q X)) := by
  cases hz : gb_Rw q a 7 with
  | none => exact gb_ex_no (by
      show (if atag p a = 18 then _ else _) = _
      rw [if_pos h]
      show (match gb_Rw q a 7 with | some b => _ | none => _) = _
      rw [hz])
  | some b => exact gb_ex_nx (by
      show (if atag p a = 18 then _ else _) = _
      rw [if_pos h]
      show (match gb_Rw q a 7 with | some b => _ | none => _) = _
      rw [hz])
theorem x_put_519 {m : Nat} {r : List Instr} {ls st : List Value} {p : gb_Pi} {g : gb_Sg} {a x : Nat} (h : atag p a = 18) : gb_ex m (.putfield 519 :: r) ls (.ref x :: .ref a :: st) p g = gb_ex m r ls st p (sR g a 7 (some x)) := gb_ex_nx (by
  show (if atag p a = 18 then _ else _) = _
  rw [if_pos h] <;> rfl)
theorem x_get_576 {m : Nat} {r : List Instr} {ls st : List Value} {p : gb_Pi} {I : Nat → Nat → Int32} {J : Nat → Nat → Int64} {q : Bool × Bool} {X : Nat × (Nat → Int32)} {a : Nat} (h : atag p a = 19) : gb_ex m (.getfield 576 :: r) ls (.ref a :: st) p (gS I J q X) = gb_orf (gb_Rw q a 0) (fun b => gb_ex m r ls (.ref b :: st) p (gS I J q X)) := by
  cases hz : gb_Rw q a 0 with
  | none => exact gb_ex_no (by
      show (if atag p a = 19 then _ else _) = _
      rw [if_pos h]
      show (match gb_Rw q a 0 with | some b => _ | none => _) = _
      rw [hz])
  | some b => exact gb_ex_nx (by
      show (if atag p a = 19 then _ else _) = _
      rw [if_pos h]
      show (match gb_Rw q a 0 with | some b => _ | none => _) = _
      rw [hz])
theorem x_put_576 {m : Nat} {r : List Instr} {ls st : List Value} {p : gb_Pi} {g : gb_Sg} {a x : Nat} (h : atag p a = 19) : gb_ex m (.putfield 576 :: r) ls (.ref x :: .ref a :: st) p g = gb_ex m r ls st p (sR g a 0 (some x)) := gb_ex_nx (by
  show (if atag p a = 19 then _ else _) = _
  rw [if_pos h] <;> rfl)
theorem x_get_577 {m : Nat} {r : List Instr} {ls st : List Value} {p : gb_Pi} {I : Nat → Nat → Int32} {J : Nat → Nat → Int64} {q : Bool × Bool} {X : Nat × (Nat → Int32)} {a : Nat} (h : atag p a = 19) : gb_ex m (.getfield 577 :: r) ls (.ref a :: st) p (gS I J q X) = gb_orf (gb_Rw q a 1) (fun b => gb_ex m r ls (.ref b :: st) p (gS I J q X)) := by
  cases hz : gb_Rw q a 1 with
  | none => exact gb_ex_no (by
      show (if atag p a = 19 then _ else _) = _
      rw [if_pos h]
      show (match gb_Rw q a 1 with | some b => _ | none => _) = _
      rw [hz])
  | some b => exact gb_ex_nx (by
      show (if atag p a = 19 then _ else _) = _
      rw [if_pos h]
      show (match gb_Rw q a 1 with | some b => _ | none => _) = _
      rw [hz])
theorem x_put_577 {m : Nat} {r : List Instr} {ls st : List Value} {p : gb_Pi} {g : gb_Sg} {a x : Nat} (h : atag p a = 19) : gb_ex m (.putfield 577 :: r) ls (.ref x :: .ref a :: st) p g = gb_ex m r ls st p (sR g a 1 (some x)) := gb_ex_nx (by
  show (if atag p a = 19 then _ else _) = _
  rw [if_pos h] <;> rfl)
theorem x_get_578 {m : Nat} {r : List Instr} {ls st : List Value} {p : gb_Pi} {I : Nat → Nat → Int32} {J : Nat → Nat → Int64} {q : Bool × Bool} {X : Nat × (Nat → Int32)} {a : Nat} (h : atag p a = 19) : gb_ex m (.getfield 578 :: r) ls (.ref a :: st) p (gS I J q X) = gb_orf (gb_Rw q a 2) (fun b => gb_ex m r ls (.ref b :: st) p (gS I J q X)) := by
  cases hz : gb_Rw q a 2 with
  | none => exact gb_ex_no (by
      show (if atag p a = 19 then _ else _) = _
      rw [if_pos h]
      show (match gb_Rw q a 2 with | some b => _ | none => _) = _
      rw [hz])
  | some b => exact gb_ex_nx (by
      show (if atag p a = 19 then _ else _) = _
      rw [if_pos h]
      show (match gb_Rw q a 2 with | some b => _ | none => _) = _
      rw [hz])
theorem x_put_578 {m : Nat} {r : List Instr} {ls st : List Value} {p : gb_Pi} {g : gb_Sg} {a x : Nat} (h : atag p a = 19) : gb_ex m (.putfield 578 :: r) ls (.ref x :: .ref a :: st) p g = gb_ex m r ls st p (sR g a 2 (some x)) := gb_ex_nx (by
  show (if atag p a = 19 then _ else _) = _
  rw [if_pos h] <;> rfl)
theorem x_get_579 {m : Nat} {r : List Instr} {ls st : List Value} {p : gb_Pi} {I : Nat → Nat → Int32} {J : Nat → Nat → Int64} {q : Bool × Bool} {X : Nat × (Nat → Int32)} {a : Nat} (h : atag p a = 19) : gb_ex m (.getfield 579 :: r) ls (.ref a :: st) p (gS I J q X) = gb_orf (gb_Rw q a 3) (fun b => gb_ex m r ls (.ref b :: st) p (gS I J q X)) := by
  cases hz : gb_Rw q a 3 with
  | none => exact gb_ex_no (by
      show (if atag p a = 19 then _ else _) = _
      rw [if_pos h]
      show (match gb_Rw q a 3 with | some b => _ | none => _) = _
      rw [hz])
  | some b => exact gb_ex_nx (by
      show (if atag p a = 19 then _ else _) = _
      rw [if_pos h]
      show (match gb_Rw q a 3 with | some b => _ | none => _) = _
      rw [hz])
theorem x_put_579 {m : Nat} {r : List Instr} {ls st : List Value} {p : gb_Pi} {g : gb_Sg} {a x : Nat} (h : atag p a = 19) : gb_ex m (.putfield 579 :: r) ls (.ref x :: .ref a :: st) p g = gb_ex m r ls st p (sR g a 3 (some x)) := gb_ex_nx (by
  show (if atag p a = 19 then _ else _) = _
  rw [if_pos h] <;> rfl)
theorem x_get_580 {m : Nat} {r : List Instr} {ls st : List Value} {p : gb_Pi} {I : Nat → Nat → Int32} {J : Nat → Nat → Int64} {q : Bool × Bool} {X : Nat × (Nat → Int32)} {a : Nat} (h : atag p a = 19) : gb_ex m (.getfield 580 :: r) ls (.ref a :: st) p (gS I J q X) = gb_orf (gb_Rw q a 4) (fun b => gb_ex m r ls (.ref b :: st) p (gS I J q X)) := by
  cases hz : gb_Rw q a 4 with
  | none => exact gb_ex_no (by
      show (if atag p a = 19 then _ else _) = _
      rw [if_pos h]
      show (match gb_Rw q a 4 with | some b => _ | none => _) = _
      rw [hz])
  | some b => exact gb_ex_nx (by
      show (if atag p a = 19 then _ else _) = _
      rw [if_pos h]
      show (match gb_Rw q a 4 with | some b => _ | none => _) = _
      rw [hz])
theorem x_put_580 {m : Nat} {r : List Instr} {ls st : List Value} {p : gb_Pi} {g : gb_Sg} {a x : Nat} (h : atag p a = 19) : gb_ex m (.putfield 580 :: r) ls (.ref x :: .ref a :: st) p g = gb_ex m r ls st p (sR g a 4 (some x)) := gb_ex_nx (by
  show (if atag p a = 19 then _ else _) = _
  rw [if_pos h] <;> rfl)
theorem x_get_581 {m : Nat} {r : List Instr} {ls st : List Value} {p : gb_Pi} {I : Nat → Nat → Int32} {J : Nat → Nat → Int64} {q : Bool × Bool} {X : Nat × (Nat → Int32)} {a : Nat} (h : atag p a = 19) : gb_ex m (.getfield 581 :: r) ls (.ref a :: st) p (gS I J q X) = gb_orf (gb_Rw q a 5) (fun b => gb_ex m r ls (.ref b :: st) p (gS I J q X)) := by
  cases hz : gb_Rw q a 5 with
  | none => exact gb_ex_no (by
      show (if atag p a = 19 then _ else _) = _
      rw [if_pos h]
      show (match gb_Rw q a 5 with | some b => _ | none => _) = _
      rw [hz])
  | some b => exact gb_ex_nx (by
      show (if atag p a = 19 then _ else _) = _
      rw [if_pos h]
      show (match gb_Rw q a 5 with | some b => _ | none => _) = _
      rw [hz])
theorem x_put_581 {m : Nat} {r : List Instr} {ls st : List Value} {p : gb_Pi} {g : gb_Sg} {a x : Nat} (h : atag p a = 19) : gb_ex m (.putfield 581 :: r) ls (.ref x :: .ref a :: st) p g = gb_ex m r ls st p (sR g a 5 (some x)) := gb_ex_nx (by
  show (if atag p a = 19 then _ else _) = _
  rw [if_pos h] <;> rfl)
theorem x_get_582 {m : Nat} {r : List Instr} {ls st : List Value} {p : gb_Pi} {I : Nat → Nat → Int32} {J : Nat → Nat → Int64} {q : Bool × Bool} {X : Nat × (Nat → Int32)} {a : Nat} (h : atag p a = 19) : gb_ex m (.getfield 582 :: r) ls (.ref a :: st) p (gS I J q X) = gb_orf (gb_Rw q a 6) (fun b => gb_ex m r ls (.ref b :: st) p (gS I J q X)) := by
  cases hz : gb_Rw q a 6 with
  | none => exact gb_ex_no (by
      show (if atag p a = 19 then _ else _) = _
      rw [if_pos h]
      show (match gb_Rw q a 6 with | some b => _ | none => _) = _
      rw [hz])
  | some b => exact gb_ex_nx (by
      show (if atag p a = 19 then _ else _) = _
      rw [if_pos h]
      show (match gb_Rw q a 6 with | some b => _ | none => _) = _
      rw [hz])
theorem x_put_582 {m : Nat} {r : List Instr} {ls st : List Value} {p : gb_Pi} {g : gb_Sg} {a x : Nat} (h : atag p a = 19) : gb_ex m (.putfield 582 :: r) ls (.ref x :: .ref a :: st) p g = gb_ex m r ls st p (sR g a 6 (some x)) := gb_ex_nx (by
  show (if atag p a = 19 then _ else _) = _
  rw [if_pos h] <;> rfl)
theorem x_get_583 {m : Nat} {r : List Instr} {ls st : List Value} {p : gb_Pi} {I : Nat → Nat → Int32} {J : Nat → Nat → Int64} {q : Bool × Bool} {X : Nat × (Nat → Int32)} {a : Nat} (h : atag p a = 19) : gb_ex m (.getfield 583 :: r) ls (.ref a :: st) p (gS I J q X) = gb_orf (gb_Rw q a 7) (fun b => gb_ex m r ls (.ref b :: st) p (gS I J q X)) := by
  cases hz : gb_Rw q a 7 with
  | none => exact gb_ex_no (by
      show (if atag p a = 19 then _ else _) = _
      rw [if_pos h]
      show (match gb_Rw q a 7 with | some b => _ | none => _) = _
      rw [hz])
  | some b => exact gb_ex_nx (by
      show (if atag p a = 19 then _ else _) = _
      rw [if_pos h]
      show (match gb_Rw q a 7 with | some b => _ | none => _) = _
      rw [hz])
theorem x_put_583 {m : Nat} {r : List Instr} {ls st : List Value} {p : gb_Pi} {g : gb_Sg} {a x : Nat} (h : atag p a = 19) : gb_ex m (.putfield 583 :: r) ls (.ref x :: .ref a :: st) p g = gb_ex m r ls st p (sR g a 7 (some x)) := gb_ex_nx (by
  show (if atag p a = 19 then _ else _) = _
  rw [if_pos h] <;> rfl)
theorem x_get_584 {m : Nat} {r : List Instr} {ls st : List Value} {p : gb_Pi} {I : Nat → Nat → Int32} {J : Nat → Nat → Int64} {q : Bool × Bool} {X : Nat × (Nat → Int32)} {a : Nat} (h : atag p a = 19) : gb_ex m (.getfield 584 :: r) ls (.ref a :: st) p (gS I J q X) = gb_orf (gb_Rw q a 8) (fun b => gb_ex m r ls (.ref b :: st) p (gS I J q X)) := by
  cases hz : gb_Rw q a 8 with
  | none => exact gb_ex_no (by
      show (if atag p a = 19 then _ else _) = _
      rw [if_pos h]
      show (match gb_Rw q a 8 with | some b => _ | none => _) = _
      rw [hz])
  | some b => exact gb_ex_nx (by
      show (if atag p a = 19 then _ else _) = _
      rw [if_pos h]
      show (match gb_Rw q a 8 with | some b => _ | none => _) = _
      rw [hz])
theorem x_put_584 {m : Nat} {r : List Instr} {ls st : List Value} {p : gb_Pi} {g : gb_Sg} {a x : Nat} (h : atag p a = 19) : gb_ex m (.putfield 584 :: r) ls (.ref x :: .ref a :: st) p g = gb_ex m r ls st p (sR g a 8 (some x)) := gb_ex_nx (by
  show (if atag p a = 19 then _ else _) = _
  rw [if_pos h] <;> rfl)
theorem x_get_585 {m : Nat} {r : List Instr} {ls st : List Value} {p : gb_Pi} {I : Nat → Nat → Int32} {J : Nat → Nat → Int64} {q : Bool × Bool} {X : Nat × (Nat → Int32)} {a : Nat} (h : atag p a = 19) : gb_ex m (.getfield 585 :: r) ls (.ref a :: st) p (gS I J q X) = gb_orf (gb_Rw q a 9) (fun b => gb_ex m r ls (.ref b :: st) p (gS I J q X)) := by
  cases hz : gb_Rw q a 9 with
  | none => exact gb_ex_no (by
      show (if atag p a = 19 then _ else _) = _
      rw [if_pos h]
      show (match gb_Rw q a 9 with | some b => _ | none => _) = _
      rw [hz])
  | some b => exact gb_ex_nx (by
      show (if atag p a = 19 then _ else _) = _
      rw [if_pos h]
      show (match gb_Rw q a 9 with | some b => _ | none => _) = _
      rw [hz])
theorem x_put_585 {m : Nat} {r : List Instr} {ls st : List Value} {p : gb_Pi} {g : gb_Sg} {a x : Nat} (h : atag p a = 19) : gb_ex m (.putfield 585 :: r) ls (.ref x :: .ref a :: st) p g = gb_ex m r ls st p (sR g a 9 (some x)) := gb_ex_nx (by
  show (if atag p a = 19 then _ else _) = _
  rw [if_pos h] <;> rfl)
theorem x_get_640 {m : Nat} {r : List Instr} {ls st : List Value} {p : gb_Pi} {g : gb_Sg} {a : Nat} (h : atag p a = 20) : gb_ex m (.getfield 640 :: r) ls (.ref a :: st) p g = gb_ex m r ls (.int (gI g a 0) :: st) p g := gb_ex_nx (by
  show (if atag p a = 20 then _ else _) = _
  rw [if_pos h] <;> rfl)
theorem x_put_640 {m : Nat} {r : List Instr} {ls st : List Value} {p : gb_Pi} {g : gb_Sg} {a : Nat} {x : Int32} (h : atag p a = 20) : gb_ex m (.putfield 640 :: r) ls (.int x :: .ref a :: st) p g = gb_ex m r ls st p (sI g a 0 x) := gb_ex_nx (by
  show (if atag p a = 20 then _ else _) = _
  rw [if_pos h] <;> rfl)
theorem x_get_641 {m : Nat} {r : List Instr} {ls st : List Value} {p : gb_Pi} {I : Nat → Nat → Int32} {J : Nat → Nat → Int64} {q : Bool × Bool} {X : Nat × (Nat → Int32)} {a : Nat} (h : atag p a = 20) : gb_ex m (.getfield 641 :: r) ls (.ref a :: st) p (gS I J q X) = gb_orf (gb_Rw q a 1) (fun b => gb_ex m r ls (.ref b :: st) p (gS I J q X)) := by
  cases hz : gb_Rw q a 1 with
  | none => exact gb_ex_no (by
      show (if atag p a = 20 then _ else _) = _
      rw [if_pos h]
      show (match gb_Rw q a 1 with | some b => _ | none => _) = _
      rw [hz])
  | some b => exact gb_ex_nx (by
      show (if atag p a = 20 then _ else _) = _
      rw [if_pos h]
      show (match gb_Rw q a 1 with | some b => _ | none => _) = _
      rw [hz])
theorem x_put_641 {m : Nat} {r : List Instr} {ls st : List Value} {p : gb_Pi} {g : gb_Sg} {a x : Nat} (h : atag p a = 20) : gb_ex m (.putfield 641 :: r) ls (.ref x :: .ref a :: st) p g = gb_ex m r ls st p (sR g a 1 (some x)) := gb_ex_nx (by
  show (if atag p a = 20 then _ else _) = _
  rw [if_pos h] <;> rfl)
theorem x_get_642 {m : Nat} {r : List Instr} {ls st : List Value} {p : gb_Pi} {g : gb_Sg} {a : Nat} (h : atag p a = 20) : gb_ex m (.getfield 642 :: r) ls (.ref a :: st) p g = gb_ex m r ls (.int (gI g a 2) :: st) p g := gb_ex_nx (by
  show (if atag p a = 20 then _ else _) = _
  rw [if_pos h] <;> rfl)
theorem x_put_642 {m : Nat} {r : List Instr} {ls st : List Value} {p : gb_Pi} {g : gb_Sg} {a : Nat} {x : Int32} (h : atag p a = 20) : gb_ex m (.putfield 642 :: r) ls (.int x :: .ref a :: st) p g = gb_ex m r ls st p (sI g a 2 x) := gb_ex_nx (by
  show (if atag p a = 20 then _ else _) = _
  rw [if_pos h] <;> rfl)
theorem x_get_643 {m : Nat} {r : List Instr} {ls st : List Value} {p : gb_Pi} {I : Nat → Nat → Int32} {J : Nat → Nat → Int64} {q : Bool × Bool} {X : Nat × (Nat → Int32)} {a : Nat} (h : atag p a = 20) : gb_ex m (.getfield 643 :: r) ls (.ref a :: st) p (gS I J q X) = gb_orf (gb_Rw q a 3) (fun b => gb_ex m r ls (.ref b :: st) p (gS I J q X)) := by
  cases hz : gb_Rw q a 3 with
  | none => exact gb_ex_no (by
      show (if atag p a = 20 then _ else _) = _
      rw [if_pos h]
      show (match gb_Rw q a 3 with | some b => _ | none => _) = _
      rw [hz])
  | some b => exact gb_ex_nx (by
      show (if atag p a = 20 then _ else _) = _
      rw [if_pos h]
      show (match gb_Rw q a 3 with | some b => _ | none => _) = _
      rw [hz])
theorem x_put_643 {m : Nat} {r : List Instr} {ls st : List Value} {p : gb_Pi} {g : gb_Sg} {a x : Nat} (h : atag p a = 20) : gb_ex m (.putfield 643 :: r) ls (.ref x :: .ref a :: st) p g = gb_ex m r ls st p (sR g a 3 (some x)) := gb_ex_nx (by
  show (if atag p a = 20 then _ else _) = _
  rw [if_pos h] <;> rfl)
theorem x_get_644 {m : Nat} {r : List Instr} {ls st : List Value} {p : gb_Pi} {I : Nat → Nat → Int32} {J : Nat → Nat → Int64} {q : Bool × Bool} {X : Nat × (Nat → Int32)} {a : Nat} (h : atag p a = 20) : gb_ex m (.getfield 644 :: r) ls (.ref a :: st) p (gS I J q X) = gb_orf (gb_Rw q a 4) (fun b => gb_ex m r ls (.ref b :: st) p (gS I J q X)) := by
  cases hz : gb_Rw q a 4 with
  | none => exact gb_ex_no (by
      show (if atag p a = 20 then _ else _) = _
      rw [if_pos h]
      show (match gb_Rw q a 4 with | some b => _ | none => _) = _
      rw [hz])
  | some b => exact gb_ex_nx (by
      show (if atag p a = 20 then _ else _) = _
      rw [if_pos h]
      show (match gb_Rw q a 4 with | some b => _ | none => _) = _
      rw [hz])
theorem x_put_644 {m : Nat} {r : List Instr} {ls st : List Value} {p : gb_Pi} {g : gb_Sg} {a x : Nat} (h : atag p a = 20) : gb_ex m (.putfield 644 :: r) ls (.ref x :: .ref a :: st) p g = gb_ex m r ls st p (sR g a 4 (some x)) := gb_ex_nx (by
  show (if atag p a = 20 then _ else _) = _
  rw [if_pos h] <;> rfl)
theorem x_get_645 {m : Nat} {r : List Instr} {ls st : List Value} {p : gb_Pi} {I : Nat → Nat → Int32} {J : Nat → Nat → Int64} {q : Bool × Bool} {X : Nat × (Nat → Int32)} {a : Nat} (h : atag p a = 20) : gb_ex m (.getfield 645 :: r) ls (.ref a :: st) p (gS I J q X) = gb_orf (gb_Rw q a 5) (fun b => gb_ex m r ls (.ref b :: st) p (gS I J q X)) := by
  cases hz : gb_Rw q a 5 with
  | none => exact gb_ex_no (by
      show (if atag p a = 20 then _ else _) = _
      rw [if_pos h]
      show (match gb_Rw q a 5 with | some b => _ | none => _) = _
      rw [hz])
  | some b => exact gb_ex_nx (by
      show (if atag p a = 20 then _ else _) = _
      rw [if_pos h]
      show (match gb_Rw q a 5 with | some b => _ | none => _) = _
      rw [hz])
theorem x_put_645 {m : Nat} {r : List Instr} {ls st : List Value} {p : gb_Pi} {g : gb_Sg} {a x : Nat} (h : atag p a = 20) : gb_ex m (.putfield 645 :: r) ls (.ref x :: .ref a :: st) p g = gb_ex m r ls st p (sR g a 5 (some x)) := gb_ex_nx (by
  show (if atag p a = 20 then _ else _) = _
  rw [if_pos h] <;> rfl)
theorem x_get_646 {m : Nat} {r : List Instr} {ls st : List Value} {p : gb_Pi} {I : Nat → Nat → Int32} {J : Nat → Nat → Int64} {q : Bool × Bool} {X : Nat × (Nat → Int32)} {a : Nat} (h : atag p a = 20) : gb_ex m (.getfield 646 :: r) ls (.ref a :: st) p (gS I J q X) = gb_orf (gb_Rw q a 6) (fun b => gb_ex m r ls (.ref b :: st) p (gS I J q X)) := by
  cases hz : gb_Rw q a 6 with
  | none => exact gb_ex_no (by
      show (if atag p a = 20 then _ else _) = _
      rw [if_pos h]
      show (match gb_Rw q a 6 with | some b => _ | none => _) = _
      rw [hz])
  | some b => exact gb_ex_nx (by
      show (if atag p a = 20 then _ else _) = _
      rw [if_pos h]
      show (match gb_Rw q a 6 with | some b => _ | none => _) = _
      rw [hz])
theorem x_put_646 {m : Nat} {r : List Instr} {ls st : List Value} {p : gb_Pi} {g : gb_Sg} {a x : Nat} (h : atag p a = 20) : gb_ex m (.putfield 646 :: r) ls (.ref x :: .ref a :: st) p g = gb_ex m r ls st p (sR g a 6 (some x)) := gb_ex_nx (by
  show (if atag p a = 20 then _ else _) = _
  rw [if_pos h] <;> rfl)
theorem x_get_647 {m : Nat} {r : List Instr} {ls st : List Value} {p : gb_Pi} {I : Nat → Nat → Int32} {J : Nat → Nat → Int64} {q : Bool × Bool} {X : Nat × (Nat → Int32)} {a : Nat} (h : atag p a = 20) : gb_ex m (.getfield 647 :: r) ls (.ref a :: st) p (gS I J q X) = gb_orf (gb_Rw q a 7) (fun b => gb_ex m r ls (.ref b :: st) p (gS I J q X)) := by
  cases hz : gb_Rw q a 7 with
  | none => exact gb_ex_no (by
      show (if atag p a = 20 then _ else _) = _
      rw [if_pos h]
      show (match gb_Rw q a 7 with | some b => _ | none => _) = _
      rw [hz])
  | some b => exact gb_ex_nx (by
      show (if atag p a = 20 then _ else _) = _
      rw [if_pos h]
      show (match gb_Rw q a 7 with | some b => _ | none => _) = _
      rw [hz])
theorem x_put_647 {m : Nat} {r : List Instr} {ls st : List Value} {p : gb_Pi} {g : gb_Sg} {a x : Nat} (h : atag p a = 20) : gb_ex m (.putfield 647 :: r) ls (.ref x :: .ref a :: st) p g = gb_ex m r ls st p (sR g a 7 (some x)) := gb_ex_nx (by
  show (if atag p a = 20 then _ else _) = _
  rw [if_pos h] <;> rfl)
theorem x_get_648 {m : Nat} {r : List Instr} {ls st : List Value} {p : gb_Pi} {I : Nat → Nat → Int32} {J : Nat → Nat → Int64} {q : Bool × Bool} {X : Nat × (Nat → Int32)} {a : Nat} (h : atag p a = 20) : gb_ex m (.getfield 648 :: r) ls (.ref a :: st) p (gS I J q X) = gb_orf (gb_Rw q a 8) (fun b => gb_ex m r ls (.ref b :: st) p (gS I J q X)) := by
  cases hz : gb_Rw q a 8 with
  | none => exact gb_ex_no (by
      show (if atag p a = 20 then _ else _) = _
      rw [if_pos h]
      show (match gb_Rw q a 8 with | some b => _ | none => _) = _
      rw [hz])
  | some b => exact gb_ex_nx (by
      show (if atag p a = 20 then _ else _) = _
      rw [if_pos h]
      show (match gb_Rw q a 8 with | some b => _ | none => _) = _
      rw [hz])
theorem x_put_648 {m : Nat} {r : List Instr} {ls st : List Value} {p : gb_Pi} {g : gb_Sg} {a x : Nat} (h : atag p a = 20) : gb_ex m (.putfield 648 :: r) ls (.ref x :: .ref a :: st) p g = gb_ex m r ls st p (sR g a 8 (some x)) := gb_ex_nx (by
  show (if atag p a = 20 then _ else _) = _
  rw [if_pos h] <;> rfl)
theorem x_get_649 {m : Nat} {r : List Instr} {ls st : List Value} {p : gb_Pi} {I : Nat → Nat → Int32} {J : Nat → Nat → Int64} {q : Bool × Bool} {X : Nat × (Nat → Int32)} {a : Nat} (h : atag p a = 20) : gb_ex m (.getfield 649 :: r) ls (.ref a :: st) p (gS I J q X) = gb_orf (gb_Rw q a 9) (fun b => gb_ex m r ls (.ref b :: st) p (gS I J q X)) := by
  cases hz : gb_Rw q a 9 with
  | none => exact gb_ex_no (by
      show (if atag p a = 20 then _ else _) = _
      rw [if_pos h]
      show (match gb_Rw q a 9 with | some b => _ | none => _) = _
      rw [hz])
  | some b => exact gb_ex_nx (by
      show (if atag p a = 20 then _ else _) = _
      rw [if_pos h]
      show (match gb_Rw q a 9 with | some b => _ | none => _) = _
      rw [hz])
theorem x_put_649 {m : Nat} {r : List Instr} {ls st : List Value} {p : gb_Pi} {g : gb_Sg} {a x : Nat} (h : atag p a = 20) : gb_ex m (.putfield 649 :: r) ls (.ref x :: .ref a :: st) p g = gb_ex m r ls st p (sR g a 9 (some x)) := gb_ex_nx (by
  show (if atag p a = 20 then _ else _) = _
  rw [if_pos h] <;> rfl)
theorem x_get_650 {m : Nat} {r : List Instr} {ls st : List Value} {p : gb_Pi} {I : Nat → Nat → Int32} {J : Nat → Nat → Int64} {q : Bool × Bool} {X : Nat × (Nat → Int32)} {a : Nat} (h : atag p a = 20) : gb_ex m (.getfield 650 :: r) ls (.ref a :: st) p (gS I J q X) = gb_orf (gb_Rw q a 10) (fun b => gb_ex m r ls (.ref b :: st) p (gS I J q X)) := by
  cases hz : gb_Rw q a 10 with
  | none => exact gb_ex_no (by
      show (if atag p a = 20 then _ else _) = _
      rw [if_pos h]
      show (match gb_Rw q a 10 with | some b => _ | none => _) = _
      rw [hz])
  | some b => exact gb_ex_nx (by
      show (if atag p a = 20 then _ else _) = _
      rw [if_pos h]
      show (match gb_Rw q a 10 with | some b => _ | none => _) = _
      rw [hz])
theorem x_put_650 {m : Nat} {r : List Instr} {ls st : List Value} {p : gb_Pi} {g : gb_Sg} {a x : Nat} (h : atag p a = 20) : gb_ex m (.putfield 650 :: r) ls (.ref x :: .ref a :: st) p g = gb_ex m r ls st p (sR g a 10 (some x)) := gb_ex_nx (by
  show (if atag p a = 20 then _ else _) = _
  rw [if_pos h] <;> rfl)
theorem x_get_651 {m : Nat} {r : List Instr} {ls st : List Value} {p : gb_Pi} {I : Nat → Nat → Int32} {J : Nat → Nat → Int64} {q : Bool × Bool} {X : Nat × (Nat → Int32)} {a : Nat} (h : atag p a = 20) : gb_ex m (.getfield 651 :: r) ls (.ref a :: st) p (gS I J q X) = gb_orf (gb_Rw q a 11) (fun b => gb_ex m r ls (.ref b :: st) p (gS I J q X)) := by
  cases hz : gb_Rw q a 11 with
  | none => exact gb_ex_no (by
      show (if atag p a = 20 then _ else _) = _
      rw [if_pos h]
      show (match gb_Rw q a 11 with | some b => _ | none => _) = _
      rw [hz])
  | some b => exact gb_ex_nx (by
      show (if atag p a = 20 then _ else _) = _
      rw [if_pos h]
      show (match gb_Rw q a 11 with | some b => _ | none => _) = _
      rw [hz])
theorem x_put_651 {m : Nat} {r : List Instr} {ls st : List Value} {p : gb_Pi} {g : gb_Sg} {a x : Nat} (h : atag p a = 20) : gb_ex m (.putfield 651 :: r) ls (.ref x :: .ref a :: st) p g = gb_ex m r ls st p (sR g a 11 (some x)) := gb_ex_nx (by
  show (if atag p a = 20 then _ else _) = _
  rw [if_pos h] <;> rfl)
theorem x_get_652 {m : Nat} {r : List Instr} {ls st : List Value} {p : gb_Pi} {I : Nat → Nat → Int32} {J : Nat → Nat → Int64} {q : Bool × Bool} {X : Nat × (Nat → Int32)} {a : Nat} (h : atag p a = 20) : gb_ex m (.getfield 652 :: r) ls (.ref a :: st) p (gS I J q X) = gb_orf (gb_Rw q a 12) (fun b => gb_ex m r ls (.ref b :: st) p (gS I J q X)) := by
  cases hz : gb_Rw q a 12 with
  | none => exact gb_ex_no (by
      show (if atag p a = 20 then _ else _) = _
      rw [if_pos h]
      show (match gb_Rw q a 12 with | some b => _ | none => _) = _
      rw [hz])
  | some b => exact gb_ex_nx (by
      show (if atag p a = 20 then _ else _) = _
      rw [if_pos h]
      show (match gb_Rw q a 12 with | some b => _ | none => _) = _
      rw [hz])
theorem x_put_652 {m : Nat} {r : List Instr} {ls st : List Value} {p : gb_Pi} {g : gb_Sg} {a x : Nat} (h : atag p a = 20) : gb_ex m (.putfield 652 :: r) ls (.ref x :: .ref a :: st) p g = gb_ex m r ls st p (sR g a 12 (some x)) := gb_ex_nx (by
  show (if atag p a = 20 then _ else _) = _
  rw [if_pos h] <;> rfl)
theorem x_get_653 {m : Nat} {r : List Instr} {ls st : List Value} {p : gb_Pi} {I : Nat → Nat → Int32} {J : Nat → Nat → Int64} {q : Bool × Bool} {X : Nat × (Nat → Int32)} {a : Nat} (h : atag p a = 20) : gb_ex m (.getfield 653 :: r) ls (.ref a :: st) p (gS I J q X) = gb_orf (gb_Rw q a 13) (fun b => gb_ex m r ls (.ref b :: st) p (gS I J q X)) := by
  cases hz : gb_Rw q a 13 with
  | none => exact gb_ex_no (by
      show (if atag p a = 20 then _ else _) = _
      rw [if_pos h]
      show (match gb_Rw q a 13 with | some b => _ | none => _) = _
      rw [hz])
  | some b => exact gb_ex_nx (by
      show (if atag p a = 20 then _ else _) = _
      rw [if_pos h]
      show (match gb_Rw q a 13 with | some b => _ | none => _) = _
      rw [hz])
theorem x_put_653 {m : Nat} {r : List Instr} {ls st : List Value} {p : gb_Pi} {g : gb_Sg} {a x : Nat} (h : atag p a = 20) : gb_ex m (.putfield 653 :: r) ls (.ref x :: .ref a :: st) p g = gb_ex m r ls st p (sR g a 13 (some x)) := gb_ex_nx (by
  show (if atag p a = 20 then _ else _) = _
  rw [if_pos h] <;> rfl)
theorem x_get_654 {m : Nat} {r : List Instr} {ls st : List Value} {p : gb_Pi} {I : Nat → Nat → Int32} {J : Nat → Nat → Int64} {q : Bool × Bool} {X : Nat × (Nat → Int32)} {a : Nat} (h : atag p a = 20) : gb_ex m (.getfield 654 :: r) ls (.ref a :: st) p (gS I J q X) = gb_orf (gb_Rw q a 14) (fun b => gb_ex m r ls (.ref b :: st) p (gS I J q X)) := by
  cases hz : gb_Rw q a 14 with
  | none => exact gb_ex_no (by
      show (if atag p a = 20 then _ else _) = _
      rw [if_pos h]
      show (match gb_Rw q a 14 with | some b => _ | none => _) = _
      rw [hz])
  | some b => exact gb_ex_nx (by
      show (if atag p a = 20 then _ else _) = _
      rw [if_pos h]
      show (match gb_Rw q a 14 with | some b => _ | none => _) = _
      rw [hz])
theorem x_put_654 {m : Nat} {r : List Instr} {ls st : List Value} {p : gb_Pi} {g : gb_Sg} {a x : Nat} (h : atag p a = 20) : gb_ex m (.putfield 654 :: r) ls (.ref x :: .ref a :: st) p g = gb_ex m r ls st p (sR g a 14 (some x)) := gb_ex_nx (by
  show (if atag p a = 20 then _ else _) = _
  rw [if_pos h] <;> rfl)
theorem x_get_655 {m : Nat} {r : List Instr} {ls st : List Value} {p : gb_Pi} {I : Nat → Nat → Int32} {J : Nat → Nat → Int64} {q : Bool × Bool} {X : Nat × (Nat → Int32)} {a : Nat} (h : atag p a = 20) : gb_ex m (.getfield 655 :: r) ls (.ref a :: st) p (gS I J q X) = gb_orf (gb_Rw q a 15) (fun b => gb_ex m r ls (.ref b :: st) p (gS I J q X)) := by
  cases hz : gb_Rw q a 15 with
  | none => exact gb_ex_no (by
      show (if atag p a = 20 then _ else _) = _
      rw [if_pos h]
      show (match gb_Rw q a 15 with | some b => _ | none => _) = _
      rw [hz])
  | some b => exact gb_ex_nx (by
      show (if atag p a = 20 then _ else _) = _
      rw [if_pos h]
      show (match gb_Rw q a 15 with | some b => _ | none => _) = _
      rw [hz])
theorem x_put_655 {m : Nat} {r : List Instr} {ls st : List Value} {p : gb_Pi} {g : gb_Sg} {a x : Nat} (h : atag p a = 20) : gb_ex m (.putfield 655 :: r) ls (.ref x :: .ref a :: st) p g = gb_ex m r ls st p (sR g a 15 (some x)) := gb_ex_nx (by
  show (if atag p a = 20 then _ else _) = _
  rw [if_pos h] <;> rfl)
theorem x_get_656 {m : Nat} {r : List Instr} {ls st : List Value} {p : gb_Pi} {I : Nat → Nat → Int32} {J : Nat → Nat → Int64} {q : Bool × Bool} {X : Nat × (Nat → Int32)} {a : Nat} (h : atag p a = 20) : gb_ex m (.getfield 656 :: r) ls (.ref a :: st) p (gS I J q X) = gb_orf (gb_Rw q a 16) (fun b => gb_ex m r ls (.ref b :: st) p (gS I J q X)) := by
  cases hz : gb_Rw q a 16 with
  | none => exact gb_ex_no (by
      show (if atag p a = 20 then _ else _) = _
      rw [if_pos h]
      show (match gb_Rw q a 16 with | some b => _ | none => _) = _
      rw [hz])
  | some b => exact gb_ex_nx (by
      show (if atag p a = 20 then _ else _) = _
      rw [if_pos h]
      show (match gb_Rw q a 16 with | some b => _ | none => _) = _
      rw [hz])
theorem x_put_656 {m : Nat} {r : List Instr} {ls st : List Value} {p : gb_Pi} {g : gb_Sg} {a x : Nat} (h : atag p a = 20) : gb_ex m (.putfield 656 :: r) ls (.ref x :: .ref a :: st) p g = gb_ex m r ls st p (sR g a 16 (some x)) := gb_ex_nx (by
  show (if atag p a = 20 then _ else _) = _
  rw [if_pos h] <;> rfl)
theorem x_get_657 {m : Nat} {r : List Instr} {ls st : List Value} {p : gb_Pi} {g : gb_Sg} {a : Nat} (h : atag p a = 20) : gb_ex m (.getfield 657 :: r) ls (.ref a :: st) p g = gb_ex m r ls (.int (gI g a 17) :: st) p g := gb_ex_nx (by
  show (if atag p a = 20 then _ else _) = _
  rw [if_pos h] <;> rfl)
theorem x_put_657 {m : Nat} {r : List Instr} {ls st : List Value} {p : gb_Pi} {g : gb_Sg} {a : Nat} {x : Int32} (h : atag p a = 20) : gb_ex m (.putfield 657 :: r) ls (.int x :: .ref a :: st) p g = gb_ex m r ls st p (sI g a 17 x) := gb_ex_nx (by
  show (if atag p a = 20 then _ else _) = _
  rw [if_pos h] <;> rfl)
theorem x_get_658 {m : Nat} {r : List Instr} {ls st : List Value} {p : gb_Pi} {g : gb_Sg} {a : Nat} (h : atag p a = 20) : gb_ex m (.getfield 658 :: r) ls (.ref a :: st) p g = gb_ex m r ls (.int (gI g a 18) :: st) p g := gb_ex_nx (by
  show (if atag p a = 20 then _ else _) = _
  rw [if_pos h] <;> rfl)
theorem x_put_658 {m : Nat} {r : List Instr} {ls st : List Value} {p : gb_Pi} {g : gb_Sg} {a : Nat} {x : Int32} (h : atag p a = 20) : gb_ex m (.putfield 658 :: r) ls (.int x :: .ref a :: st) p g = gb_ex m r ls st p (sI g a 18 x) := gb_ex_nx (by
  show (if atag p a = 20 then _ else _) = _
  rw [if_pos h] <;> rfl)
theorem x_get_659 {m : Nat} {r : List Instr} {ls st : List Value} {p : gb_Pi} {I : Nat → Nat → Int32} {J : Nat → Nat → Int64} {q : Bool × Bool} {X : Nat × (Nat → Int32)} {a : Nat} (h : atag p a = 20) : gb_ex m (.getfield 659 :: r) ls (.ref a :: st) p (gS I J q X) = gb_orf (gb_Rw q a 19) (fun b => gb_ex m r ls (.ref b :: st) p (gS I J q X)) := by
  cases hz : gb_Rw q a 19 with
  | none => exact gb_ex_no (by
      show (if atag p a = 20 then _ else _) = _
      rw [if_pos h]
      show (match gb_Rw q a 19 with | some b => _ | none => _) = _
      rw [hz])
  | some b => exact gb_ex_nx (by
      show (if atag p a = 20 then _ else _) = _
      rw [if_pos h]
      show (match gb_Rw q a 19 with | some b => _ | none => _) = _
      rw [hz])
theorem x_put_659 {m : Nat} {r : List Instr} {ls st : List Value} {p : gb_Pi} {g : gb_Sg} {a x : Nat} (h : atag p a = 20) : gb_ex m (.putfield 659 :: r) ls (.ref x :: .ref a :: st) p g = gb_ex m r ls st p (sR g a 19 (some x)) := gb_ex_nx (by
  show (if atag p a = 20 then _ else _) = _
  rw [if_pos h] <;> rfl)
theorem x_get_660 {m : Nat} {r : List Instr} {ls st : List Value} {p : gb_Pi} {I : Nat → Nat → Int32} {J : Nat → Nat → Int64} {q : Bool × Bool} {X : Nat × (Nat → Int32)} {a : Nat} (h : atag p a = 20) : gb_ex m (.getfield 660 :: r) ls (.ref a :: st) p (gS I J q X) = gb_orf (gb_Rw q a 20) (fun b => gb_ex m r ls (.ref b :: st) p (gS I J q X)) := by
  cases hz : gb_Rw q a 20 with
  | none => exact gb_ex_no (by
      show (if atag p a = 20 then _ else _) = _
      rw [if_pos h]
      show (match gb_Rw q a 20 with | some b => _ | none => _) = _
      rw [hz])
  | some b => exact gb_ex_nx (by
      show (if atag p a = 20 then _ else _) = _
      rw [if_pos h]
      show (match gb_Rw q a 20 with | some b => _ | none => _) = _
      rw [hz])
theorem x_put_660 {m : Nat} {r : List Instr} {ls st : List Value} {p : gb_Pi} {g : gb_Sg} {a x : Nat} (h : atag p a = 20) : gb_ex m (.putfield 660 :: r) ls (.ref x :: .ref a :: st) p g = gb_ex m r ls st p (sR g a 20 (some x)) := gb_ex_nx (by
  show (if atag p a = 20 then _ else _) = _
  rw [if_pos h] <;> rfl)
theorem x_get_661 {m : Nat} {r : List Instr} {ls st : List Value} {p : gb_Pi} {I : Nat → Nat → Int32} {J : Nat → Nat → Int64} {q : Bool × Bool} {X : Nat × (Nat → Int32)} {a : Nat} (h : atag p a = 20) : gb_ex m (.getfield 661 :: r) ls (.ref a :: st) p (gS I J q X) = gb_orf (gb_Rw q a 21) (fun b => gb_ex m r ls (.ref b :: st) p (gS I J q X)) := by
  cases hz : gb_Rw q a 21 with
  | none => exact gb_ex_no (by
      show (if atag p a = 20 then _ else _) = _
      rw [if_pos h]
      show (match gb_Rw q a 21 with | some b => _ | none => _) = _
      rw [hz])
  | some b => exact gb_ex_nx (by
      show (if atag p a = 20 then _ else _) = _
      rw [if_pos h]
      show (match gb_Rw q a 21 with | some b => _ | none => _) = _
      rw [hz])
theorem x_put_661 {m : Nat} {r : List Instr} {ls st : List Value} {p : gb_Pi} {g : gb_Sg} {a x : Nat} (h : atag p a = 20) : gb_ex m (.putfield 661 :: r) ls (.ref x :: .ref a :: st) p g = gb_ex m r ls st p (sR g a 21 (some x)) := gb_ex_nx (by
  show (if atag p a = 20 then _ else _) = _
  rw [if_pos h] <;> rfl)
theorem x_get_662 {m : Nat} {r : List Instr} {ls st : List Value} {p : gb_Pi} {I : Nat → Nat → Int32} {J : Nat → Nat → Int64} {q : Bool × Bool} {X : Nat × (Nat → Int32)} {a : Nat} (h : atag p a = 20) : gb_ex m (.getfield 662 :: r) ls (.ref a :: st) p (gS I J q X) = gb_orf (gb_Rw q a 22) (fun b => gb_ex m r ls (.ref b :: st) p (gS I J q X)) := by
  cases hz : gb_Rw q a 22 with
  | none => exact gb_ex_no (by
      show (if atag p a = 20 then _ else _) = _
      rw [if_pos h]
      show (match gb_Rw q a 22 with | some b => _ | none => _) = _
      rw [hz])
  | some b => exact gb_ex_nx (by
      show (if atag p a = 20 then _ else _) = _
      rw [if_pos h]
      show (match gb_Rw q a 22 with | some b => _ | none => _) = _
      rw [hz])
theorem x_put_662 {m : Nat} {r : List Instr} {ls st : List Value} {p : gb_Pi} {g : gb_Sg} {a x : Nat} (h : atag p a = 20) : gb_ex m (.putfield 662 :: r) ls (.ref x :: .ref a :: st) p g = gb_ex m r ls st p (sR g a 22 (some x)) := gb_ex_nx (by
  show (if atag p a = 20 then _ else _) = _
  rw [if_pos h] <;> rfl)
theorem x_get_663 {m : Nat} {r : List Instr} {ls st : List Value} {p : gb_Pi} {I : Nat → Nat → Int32} {J : Nat → Nat → Int64} {q : Bool × Bool} {X : Nat × (Nat → Int32)} {a : Nat} (h : atag p a = 20) : gb_ex m (.getfield 663 :: r) ls (.ref a :: st) p (gS I J q X) = gb_orf (gb_Rw q a 23) (fun b => gb_ex m r ls (.ref b :: st) p (gS I J q X)) := by
  cases hz : gb_Rw q a 23 with
  | none => exact gb_ex_no (by
      show (if atag p a = 20 then _ else _) = _
      rw [if_pos h]
      show (match gb_Rw q a 23 with | some b => _ | none => _) = _
      rw [hz])
  | some b => exact gb_ex_nx (by
      show (if atag p a = 20 then _ else _) = _
      rw [if_pos h]
      show (match gb_Rw q a 23 with | some b => _ | none => _) = _
      rw [hz])
theorem x_put_663 {m : Nat} {r : List Instr} {ls st : List Value} {p : gb_Pi} {g : gb_Sg} {a x : Nat} (h : atag p a = 20) : gb_ex m (.putfield 663 :: r) ls (.ref x :: .ref a :: st) p g = gb_ex m r ls st p (sR g a 23 (some x)) := gb_ex_nx (by
  show (if atag p a = 20 then _ else _) = _
  rw [if_pos h] <;> rfl)
theorem x_get_664 {m : Nat} {r : List Instr} {ls st : List Value} {p : gb_Pi} {I : Nat → Nat → Int32} {J : Nat → Nat → Int64} {q : Bool × Bool} {X : Nat × (Nat → Int32)} {a : Nat} (h : atag p a = 20) : gb_ex m (.getfield 664 :: r) ls (.ref a :: st) p (gS I J q X) = gb_orf (gb_Rw q a 24) (fun b => gb_ex m r ls (.ref b :: st) p (gS I J q X)) := by
  cases hz : gb_Rw q a 24 with
  | none => exact gb_ex_no (by
      show (if atag p a = 20 then _ else _) = _
      rw [if_pos h]
      show (match gb_Rw q a 24 with | some b => _ | none => _) = _
      rw [hz])
  | some b => exact gb_ex_nx (by
      show (if atag p a = 20 then _ else _) = _
      rw [if_pos h]
      show (match gb_Rw q a 24 with | some b => _ | none => _) = _
      rw [hz])
theorem x_put_664 {m : Nat} {r : List Instr} {ls st : List Value} {p : gb_Pi} {g : gb_Sg} {a x : Nat} (h : atag p a = 20) : gb_ex m (.putfield 664 :: r) ls (.ref x :: .ref a :: st) p g = gb_ex m r ls st p (sR g a 24 (some x)) := gb_ex_nx (by
  show (if atag p a = 20 then _ else _) = _
  rw [if_pos h] <;> rfl)
theorem x_get_665 {m : Nat} {r : List Instr} {ls st : List Value} {p : gb_Pi} {I : Nat → Nat → Int32} {J : Nat → Nat → Int64} {q : Bool × Bool} {X : Nat × (Nat → Int32)} {a : Nat} (h : atag p a = 20) : gb_ex m (.getfield 665 :: r) ls (.ref a :: st) p (gS I J q X) = gb_orf (gb_Rw q a 25) (fun b => gb_ex m r ls (.ref b :: st) p (gS I J q X)) := by
  cases hz : gb_Rw q a 25 with
  | none => exact gb_ex_no (by
      show (if atag p a = 20 then _ else _) = _
      rw [if_pos h]
      show (match gb_Rw q a 25 with | some b => _ | none => _) = _
      rw [hz])
  | some b => exact gb_ex_nx (by
      show (if atag p a = 20 then _ else _) = _
      rw [if_pos h]
      show (match gb_Rw q a 25 with | some b => _ | none => _) = _
      rw [hz])
theorem x_put_665 {m : Nat} {r : List Instr} {ls st : List Value} {p : gb_Pi} {g : gb_Sg} {a x : Nat} (h : atag p a = 20) : gb_ex m (.putfield 665 :: r) ls (.ref x :: .ref a :: st) p g = gb_ex m r ls st p (sR g a 25 (some x)) := gb_ex_nx (by
  show (if atag p a = 20 then _ else _) = _
  rw [if_pos h] <;> rfl)
theorem x_get_666 {m : Nat} {r : List Instr} {ls st : List Value} {p : gb_Pi} {I : Nat → Nat → Int32} {J : Nat → Nat → Int64} {q : Bool × Bool} {X : Nat × (Nat → Int32)} {a : Nat} (h : atag p a = 20) : gb_ex m (.getfield 666 :: r) ls (.ref a :: st) p (gS I J q X) = gb_orf (gb_Rw q a 26) (fun b => gb_ex m r ls (.ref b :: st) p (gS I J q X)) := by
  cases hz : gb_Rw q a 26 with
  | none => exact gb_ex_no (by
      show (if atag p a = 20 then _ else _) = _
      rw [if_pos h]
      show (match gb_Rw q a 26 with | some b => _ | none => _) = _
      rw [hz])
  | some b => exact gb_ex_nx (by
      show (if atag p a = 20 then _ else _) = _
      rw [if_pos h]
      show (match gb_Rw q a 26 with | some b => _ | none => _) = _
      rw [hz])
theorem x_put_666 {m : Nat} {r : List Instr} {ls st : List Value} {p : gb_Pi} {g : gb_Sg} {a x : Nat} (h : atag p a = 20) : gb_ex m (.putfield 666 :: r) ls (.ref x :: .ref a :: st) p g = gb_ex m r ls st p (sR g a 26 (some x)) := gb_ex_nx (by
  show (if atag p a = 20 then _ else _) = _
  rw [if_pos h] <;> rfl)
theorem x_get_667 {m : Nat} {r : List Instr} {ls st : List Value} {p : gb_Pi} {I : Nat → Nat → Int32} {J : Nat → Nat → Int64} {q : Bool × Bool} {X : Nat × (Nat → Int32)} {a : Nat} (h : atag p a = 20) : gb_ex m (.getfield 667 :: r) ls (.ref a :: st) p (gS I J q X) = gb_orf (gb_Rw q a 27) (fun b => gb_ex m r ls (.ref b :: st) p (gS I J q X)) := by
  cases hz : gb_Rw q a 27 with
  | none => exact gb_ex_no (by
      show (if atag p a = 20 then _ else _) = _
      rw [if_pos h]
      show (match gb_Rw q a 27 with | some b => _ | none => _) = _
      rw [hz])
  | some b => exact gb_ex_nx (by
      show (if atag p a = 20 then _ else _) = _
      rw [if_pos h]
      show (match gb_Rw q a 27 with | some b => _ | none => _) = _
      rw [hz])
theorem x_put_667 {m : Nat} {r : List Instr} {ls st : List Value} {p : gb_Pi} {g : gb_Sg} {a x : Nat} (h : atag p a = 20) : gb_ex m (.putfield 667 :: r) ls (.ref x :: .ref a :: st) p g = gb_ex m r ls st p (sR g a 27 (some x)) := gb_ex_nx (by
  show (if atag p a = 20 then _ else _) = _
  rw [if_pos h] <;> rfl)
theorem x_put_668 {m : Nat} {r : List Instr} {ls st : List Value} {p : gb_Pi} {g : gb_Sg} {a x : Nat} (h : atag p a = 20) : gb_ex m (.putfield 668 :: r) ls (.ref x :: .ref a :: st) p g = gb_ex m r ls st p (sR g a 28 (some x)) := gb_ex_nx (by
  show (if atag p a = 20 then _ else _) = _
  rw [if_pos h] <;> rfl)
theorem x_get_669 {m : Nat} {r : List Instr} {ls st : List Value} {p : gb_Pi} {I : Nat → Nat → Int32} {J : Nat → Nat → Int64} {q : Bool × Bool} {X : Nat × (Nat → Int32)} {a : Nat} (h : atag p a = 20) : gb_ex m (.getfield 669 :: r) ls (.ref a :: st) p (gS I J q X) = gb_orf (gb_Rw q a 29) (fun b => gb_ex m r ls (.ref b :: st) p (gS I J q X)) := by
  cases hz : gb_Rw q a 29 with
  | none => exact gb_ex_no (by
      show (if atag p a = 20 then _ else _) = _
      rw [if_pos h]
      show (match gb_Rw q a 29 with | some b => _ | none => _) = _
      rw [hz])
  | some b => exact gb_ex_nx (by
      show (if atag p a = 20 then _ else _) = _
      rw [if_pos h]
      show (match gb_Rw q a 29 with | some b => _ | none => _) = _
      rw [hz])
theorem x_put_669 {m : Nat} {r : List Instr} {ls st : List Value} {p : gb_Pi} {g : gb_Sg} {a x : Nat} (h : atag p a = 20) : gb_ex m (.putfield 669 :: r) ls (.ref x :: .ref a :: st) p g = gb_ex m r ls st p (sR g a 29 (some x)) := gb_ex_nx (by
  show (if atag p a = 20 then _ else _) = _
  rw [if_pos h] <;> rfl)
theorem x_get_670 {m : Nat} {r : List Instr} {ls st : List Value} {p : gb_Pi} {I : Nat → Nat → Int32} {J : Nat → Nat → Int64} {q : Bool × Bool} {X : Nat × (Nat → Int32)} {a : Nat} (h : atag p a = 20) : gb_ex m (.getfield 670 :: r) ls (.ref a :: st) p (gS I J q X) = gb_orf (gb_Rw q a 30) (fun b => gb_ex m r ls (.ref b :: st) p (gS I J q X)) := by
  cases hz : gb_Rw q a 30 with
  | none => exact gb_ex_no (by
      show (if atag p a = 20 then _ else _) = _
      rw [if_pos h]
      show (match gb_Rw q a 30 with | some b => _ | none => _) = _
      rw [hz])
  | some b => exact gb_ex_nx (by
      show (if atag p a = 20 then _ else _) = _
      rw [if_pos h]
      show (match gb_Rw q a 30 with | some b => _ | none => _) = _
      rw [hz])
theorem x_put_670 {m : Nat} {r : List Instr} {ls st : List Value} {p : gb_Pi} {g : gb_Sg} {a x : Nat} (h : atag p a = 20) : gb_ex m (.putfield 670 :: r) ls (.ref x :: .ref a :: st) p g = gb_ex m r ls st p (sR g a 30 (some x)) := gb_ex_nx (by
  show (if atag p a = 20 then _ else _) = _
  rw [if_pos h] <;> rfl)
theorem x_get_671 {m : Nat} {r : List Instr} {ls st : List Value} {p : gb_Pi} {I : Nat → Nat → Int32} {J : Nat → Nat → Int64} {q : Bool × Bool} {X : Nat × (Nat → Int32)} {a : Nat} (h : atag p a = 20) : gb_ex m (.getfield 671 :: r) ls (.ref a :: st) p (gS I J q X) = gb_orf (gb_Rw q a 31) (fun b => gb_ex m r ls (.ref b :: st) p (gS I J q X)) := by
  cases hz : gb_Rw q a 31 with
  | none => exact gb_ex_no (by
      show (if atag p a = 20 then _ else _) = _
      rw [if_pos h]
      show (match gb_Rw q a 31 with | some b => _ | none => _) = _
      rw [hz])
  | some b => exact gb_ex_nx (by
      show (if atag p a = 20 then _ else _) = _
      rw [if_pos h]
      show (match gb_Rw q a 31 with | some b => _ | none => _) = _
      rw [hz])
theorem x_put_671 {m : Nat} {r : List Instr} {ls st : List Value} {p : gb_Pi} {g : gb_Sg} {a x : Nat} (h : atag p a = 20) : gb_ex m (.putfield 671 :: r) ls (.ref x :: .ref a :: st) p g = gb_ex m r ls st p (sR g a 31 (some x)) := gb_ex_nx (by
  show (if atag p a = 20 then _ else _) = _
  rw [if_pos h] <;> rfl)
theorem x_get_672 {m : Nat} {r : List Instr} {ls st : List Value} {p : gb_Pi} {g : gb_Sg} {a : Nat} (h : atag p a = 20) : gb_ex m (.getfield 672 :: r) ls (.ref a :: st) p g = gb_ex m r ls (.long (gL g a 32) :: st) p g := gb_ex_nx (by
  show (if atag p a = 20 then _ else _) = _
  rw [if_pos h] <;> rfl)
theorem x_put_672 {m : Nat} {r : List Instr} {ls st : List Value} {p : gb_Pi} {g : gb_Sg} {a : Nat} {x : Int64} (h : atag p a = 20) : gb_ex m (.putfield 672 :: r) ls (.long x :: .ref a :: st) p g = gb_ex m r ls st p (sL g a 32 x) := gb_ex_nx (by
  show (if atag p a = 20 then _ else _) = _
  rw [if_pos h] <;> rfl)
theorem x_get_673 {m : Nat} {r : List Instr} {ls st : List Value} {p : gb_Pi} {g : gb_Sg} {a : Nat} (h : atag p a = 20) : gb_ex m (.getfield 673 :: r) ls (.ref a :: st) p g = gb_ex m r ls (.long (gL g a 33) :: st) p g := gb_ex_nx (by
  show (if atag p a = 20 then _ else _) = _
  rw [if_pos h] <;> rfl)
theorem x_put_673 {m : Nat} {r : List Instr} {ls st : List Value} {p : gb_Pi} {g : gb_Sg} {a : Nat} {x : Int64} (h : atag p a = 20) : gb_ex m (.putfield 673 :: r) ls (.long x :: .ref a :: st) p g = gb_ex m r ls st p (sL g a 33 x) := gb_ex_nx (by
  show (if atag p a = 20 then _ else _) = _
  rw [if_pos h] <;> rfl)
theorem x_get_674 {m : Nat} {r : List Instr} {ls st : List Value} {p : gb_Pi} {g : gb_Sg} {a : Nat} (h : atag p a = 20) : gb_ex m (.getfield 674 :: r) ls (.ref a :: st) p g = gb_ex m r ls (.int (gI g a 34) :: st) p g := gb_ex_nx (by
  show (if atag p a = 20 then _ else _) = _
  rw [if_pos h] <;> rfl)
theorem x_put_674 {m : Nat} {r : List Instr} {ls st : List Value} {p : gb_Pi} {g : gb_Sg} {a : Nat} {x : Int32} (h : atag p a = 20) : gb_ex m (.putfield 674 :: r) ls (.int x :: .ref a :: st) p g = if x = 0 ∨ x = 1 then gb_ex m r ls st p (sI g a 34 x) else none := by
  by_cases hx : x = 0 ∨ x = 1
  · rw [if_pos hx]; exact gb_ex_nx (by
      show (if atag p a = 20 then _ else _) = _
      rw [if_pos h]
      show (if x = 0 ∨ x = 1 then _ else _) = _
      rw [if_pos hx])
  · rw [if_neg hx]; exact gb_ex_no (by
      show (if atag p a = 20 then _ else _) = _
      rw [if_pos h]
      show (if x = 0 ∨ x = 1 then _ else _) = _
      rw [if_neg hx])
theorem x_get_675 {m : Nat} {r : List Instr} {ls st : List Value} {p : gb_Pi} {I : Nat → Nat → Int32} {J : Nat → Nat → Int64} {q : Bool × Bool} {X : Nat × (Nat → Int32)} {a : Nat} (h : atag p a = 20) : gb_ex m (.getfield 675 :: r) ls (.ref a :: st) p (gS I J q X) = gb_orf (gb_Rw q a 35) (fun b => gb_ex m r ls (.ref b :: st) p (gS I J q X)) := by
  cases hz : gb_Rw q a 35 with
  | none => exact gb_ex_no (by
      show (if atag p a = 20 then _ else _) = _
      rw [if_pos h]
      show (match gb_Rw q a 35 with | some b => _ | none => _) = _
      rw [hz])
  | some b => exact gb_ex_nx (by
      show (if atag p a = 20 then _ else _) = _
      rw [if_pos h]
      show (match gb_Rw q a 35 with | some b => _ | none => _) = _
      rw [hz])
theorem x_put_675 {m : Nat} {r : List Instr} {ls st : List Value} {p : gb_Pi} {g : gb_Sg} {a x : Nat} (h : atag p a = 20) : gb_ex m (.putfield 675 :: r) ls (.ref x :: .ref a :: st) p g = gb_ex m r ls st p (sR g a 35 (some x)) := gb_ex_nx (by
  show (if atag p a = 20 then _ else _) = _
  rw [if_pos h] <;> rfl)
theorem x_iald {m : Nat} {r : List Instr} {ls st : List Value} {p : gb_Pi} {g : gb_Sg} {a : Nat} {i : Int32} (h : atag p a = 0) : gb_ex m (.iaload :: r) ls (.int i :: .ref a :: st) p g = if oob i (alen p a) then none else gb_ex m r ls (.int (gI g a (ix i)) :: st) p g := by
  by_cases ho : oob i (alen p a) = true
  · rw [if_pos ho]; exact gb_ex_no (by simp [gb_stp, h, ho])
  · rw [if_neg ho]; exact gb_ex_nx (by simp [gb_stp, h, ho])
theorem x_lald {m : Nat} {r : List Instr} {ls st : List Value} {p : gb_Pi} {g : gb_Sg} {a : Nat} {i : Int32} (h : atag p a = 3) : gb_ex m (.laload :: r) ls (.int i :: .ref a :: st) p g = if oob i (alen p a) then none else gb_ex m r ls (.long (gL g a (ix i)) :: st) p g := by
  by_cases ho : oob i (alen p a) = true
  · rw [if_pos ho]; exact gb_ex_no (by simp [gb_stp, h, ho])
  · rw [if_neg ho]; exact gb_ex_nx (by simp [gb_stp, h, ho])
theorem x_bald {m : Nat} {r : List Instr} {ls st : List Value} {p : gb_Pi} {g : gb_Sg} {a : Nat} {i : Int32} (h : atag p a = 1) : gb_ex m (.baload :: r) ls (.int i :: .ref a :: st) p g = if oob i (alen p a) then none else gb_ex m r ls (.int (gI g a (ix i)) :: st) p g := by
  by_cases ho : oob i (alen p a) = true
  · rw [if_pos ho]; exact gb_ex_no (by simp [gb_stp, h, ho])
  · rw [if_neg ho]; exact gb_ex_nx (by simp [gb_stp, h, ho])
theorem x_zald {m : Nat} {r : List Instr} {ls st : List Value} {p : gb_Pi} {g : gb_Sg} {a : Nat} {i : Int32} (h : atag p a = 2) : gb_ex m (.baload :: r) ls (.int i :: .ref a :: st) p g = if oob i (alen p a) then none else gb_ex m r ls (.int (gI g a (ix i)) :: st) p g := by
  by_cases ho : oob i (alen p a) = true
  · rw [if_pos ho]; exact gb_ex_no (by simp [gb_stp, h, ho])
  · rw [if_neg ho]; exact gb_ex_nx (by simp [gb_stp, h, ho])
theorem x_sald {m : Nat} {r : List Instr} {ls st : List Value} {p : gb_Pi} {g : gb_Sg} {z : Nat} {i : Int32} : gb_ex m (.iaload :: r) ls (.int i :: .retAddr z :: st) p g = if oob i (gN g) then none else gb_ex m r ls (.int (gX g (ix i)) :: st) p g := by
  by_cases ho : oob i (gN g) = true
  · rw [if_pos ho]; exact gb_ex_no (by simp [gb_stp, ho])
  · rw [if_neg ho]; exact gb_ex_nx (by simp [gb_stp, ho])
theorem x_aald {m : Nat} {r : List Instr} {ls st : List Value} {p : gb_Pi} {I : Nat → Nat → Int32} {J : Nat → Nat → Int64} {q : Bool × Bool} {X : Nat × (Nat → Int32)} {a : Nat} {i : Int32} (h : atag p a = 4) : gb_ex m (.aaload :: r) ls (.int i :: .ref a :: st) p (gS I J q X) = if oob i (alen p a) then none else gb_orf (gb_Rw q a (ix i)) (fun b => gb_ex m r ls (.ref b :: st) p (gS I J q X)) := by
  by_cases ho : oob i (alen p a) = true
  · rw [if_pos ho]; exact gb_ex_no (by simp [gb_stp, h, ho])
  · rw [if_neg ho]
    cases hz : gb_Rw q a (ix i) with
    | none => exact gb_ex_no (by simp [gb_stp, h, ho, gR_gS, hz])
    | some b => exact gb_ex_nx (by simp [gb_stp, h, ho, gR_gS, hz])
theorem x_aaldJ {m : Nat} {r : List Instr} {ls st : List Value} {p : gb_Pi} {I : Nat → Nat → Int32} {J : Nat → Nat → Int64} {q : Bool × Bool} {X : Nat × (Nat → Int32)} {a : Nat} {i : Int32} (h : atag p a = 5) : gb_ex m (.aaload :: r) ls (.int i :: .ref a :: st) p (gS I J q X) = if oob i (alen p a) then none else gb_orf (gb_Rw q a (ix i)) (fun b => gb_ex m r ls (.ref b :: st) p (gS I J q X)) := by
  by_cases ho : oob i (alen p a) = true
  · rw [if_pos ho]; exact gb_ex_no (by simp [gb_stp, h, ho])
  · rw [if_neg ho]
    cases hz : gb_Rw q a (ix i) with
    | none => exact gb_ex_no (by simp [gb_stp, h, ho, gR_gS, hz])
    | some b => exact gb_ex_nx (by simp [gb_stp, h, ho, gR_gS, hz])
theorem x_iast {m : Nat} {r : List Instr} {ls st : List Value} {p : gb_Pi} {g : gb_Sg} {a : Nat} {i : Int32} {x : Int32} (h : atag p a = 0) : gb_ex m (.iastore :: r) ls (.int x :: .int i :: .ref a :: st) p g = if oob i (alen p a) then none else gb_ex m r ls st p (sI g a (ix i) x) := by
  by_cases ho : oob i (alen p a) = true
  · rw [if_pos ho]; exact gb_ex_no (by simp [gb_stp, h, ho])
  · rw [if_neg ho]; exact gb_ex_nx (by simp [gb_stp, h, ho])
theorem x_last {m : Nat} {r : List Instr} {ls st : List Value} {p : gb_Pi} {g : gb_Sg} {a : Nat} {i : Int32} {x : Int64} (h : atag p a = 3) : gb_ex m (.lastore :: r) ls (.long x :: .int i :: .ref a :: st) p g = if oob i (alen p a) then none else gb_ex m r ls st p (sL g a (ix i) x) := by
  by_cases ho : oob i (alen p a) = true
  · rw [if_pos ho]; exact gb_ex_no (by simp [gb_stp, h, ho])
  · rw [if_neg ho]; exact gb_ex_nx (by simp [gb_stp, h, ho])
theorem x_bast {m : Nat} {r : List Instr} {ls st : List Value} {p : gb_Pi} {g : gb_Sg} {a : Nat} {i : Int32} {x : Int32} (h : atag p a = 1) : gb_ex m (.bastore :: r) ls (.int x :: .int i :: .ref a :: st) p g = if oob i (alen p a) then none else gb_ex m r ls st p (sI g a (ix i) x.toInt8.toInt32) := by
  by_cases ho : oob i (alen p a) = true
  · rw [if_pos ho]; exact gb_ex_no (by simp [gb_stp, h, ho])
  · rw [if_neg ho]; exact gb_ex_nx (by simp [gb_stp, h, ho])
theorem x_zast {m : Nat} {r : List Instr} {ls st : List Value} {p : gb_Pi} {g : gb_Sg} {a : Nat} {i : Int32} {x : Int32} (h : atag p a = 2) : gb_ex m (.bastore :: r) ls (.int x :: .int i :: .ref a :: st) p g = if oob i (alen p a) then none else gb_ex m r ls st p (sI g a (ix i) (x &&& 1)) := by
  by_cases ho : oob i (alen p a) = true
  · rw [if_pos ho]; exact gb_ex_no (by simp [gb_stp, h, ho])
  · rw [if_neg ho]; exact gb_ex_nx (by simp [gb_stp, h, ho])
theorem x_alen {m : Nat} {r : List Instr} {ls st : List Value} {p : gb_Pi} {g : gb_Sg} {a : Nat} (h : atag p a ≤ 5) : gb_ex m (.arraylength :: r) ls (.ref a :: st) p g = gb_ex m r ls (.int (nI (alen p a)) :: st) p g := gb_ex_nx (by simp only [gb_stp, if_pos h]; rfl)
theorem x_slen {m : Nat} {r : List Instr} {ls st : List Value} {p : gb_Pi} {g : gb_Sg} {a : Nat} : gb_ex m (.arraylength :: r) ls (.retAddr a :: st) p g = gb_ex m r ls (.int (nI (gN g)) :: st) p g := gb_ex_nx rfl
theorem x_iret {m : Nat} {r : List Instr} {ls : List Value} {p : gb_Pi} {g : gb_Sg} {x : Int32} : gb_ex m (.ireturn :: r) ls [.int x] p g = some (.int x, p, g) := gb_ex_rt rfl
theorem x_zret {m : Nat} {r : List Instr} {ls : List Value} {p : gb_Pi} {g : gb_Sg} {x : Int32} : gb_ex m (.areturn :: r) ls [.int x] p g = if x = 0 ∨ x = 1 then some (.int x, p, g) else none := by
  by_cases hx : x = 0 ∨ x = 1
  · rw [if_pos hx]; exact gb_ex_rt (by simp only [gb_stp, if_pos hx])
  · rw [if_neg hx]; exact gb_ex_no (by simp only [gb_stp, if_neg hx])
theorem x_lret {m : Nat} {r : List Instr} {ls : List Value} {p : gb_Pi} {g : gb_Sg} {x : Int64} : gb_ex m (.lreturn :: r) ls [.long x] p g = some (.long x, p, g) := gb_ex_rt rfl
theorem x_vret {m : Nat} {r : List Instr} {ls : List Value} {p : gb_Pi} {g : gb_Sg} : gb_ex m (.return_ :: r) ls [] p g = some (.null, p, g) := gb_ex_rt rfl
theorem x_tsw {m : Nat} {r : List Instr} {ls st : List Value} {p : gb_Pi} {g : gb_Sg} {d lo hi : Int} {offs : Array Int} {x : Int32} : gb_ex m (.tableswitch d lo hi offs :: r) ls (.int x :: st) p g = if x.toInt < lo ∨ hi < x.toInt then gb_ex m (gb_tgt m d.toNat) ls st p g else gb_orf ((offs[(x.toInt - lo).toNat]?).map (fun t => t.toNat)) (fun t => gb_ex m (gb_tgt m t) ls st p g) := by
  by_cases hx : x.toInt < lo ∨ hi < x.toInt
  · rw [if_pos hx]; exact gb_ex_jp (by simp only [gb_stp, if_pos hx])
  · rw [if_neg hx]
    cases hz : offs[(x.toInt - lo).toNat]? with
    | none => exact gb_ex_no (by simp only [gb_stp, if_neg hx, hz])
    | some t => exact gb_ex_jp (by simp only [gb_stp, if_neg hx, hz])
theorem x_lsw {m : Nat} {r : List Instr} {ls st : List Value} {p : gb_Pi} {g : gb_Sg} {d : Int} {ps : Array (Int × Int)} {x : Int32} : gb_ex m (.lookupswitch d ps :: r) ls (.int x :: st) p g = gb_ex m (gb_tgt m (Op.lookupswitch.offset ps.toList d x.toInt).toNat) ls st p g := gb_ex_jp rfl
theorem xc_BE_init {m : Nat} {r : List Instr} {ls st : List Value} {p : gb_Pi} {g : gb_Sg} {x0 : Nat} (h : atag p x0 = 10) (hs : st.length ≤ 4) : gb_ex m (.invokeinterface 1 1 :: r) ls (.ref x0 :: st) p g = (gb_call 1 [.ref x0] p g).bind (fun w => gb_ex m r ls (psh w.1 st) w.2.1 w.2.2) :=
  gb_ex_cl (k := 1) (n := 1) (st' := .ref x0 :: st) (by
    have h1 : 1 ≤ (.ref x0 :: st : List Value).length := by simp
    have h2 : gb_rcv 1 [.ref x0] p = true := by
      show (true && true && true && decide (atag p x0 = 10)) = true
      rw [h]
      rfl
    simp only [gb_stp]
    exact if_pos ⟨h1, hs, h2⟩)
theorem cl_BE_init {p : gb_Pi} {g : gb_Sg} {x0 : Nat} : gb_call 1 [.ref x0] p g = gb_ex 1 bk_BE_init_0 [.ref x0] [] p g := rfl
theorem xc_BE_worldsOf {m : Nat} {r : List Instr} {ls st : List Value} {p : gb_Pi} {g : gb_Sg} {x0 : Nat} {x1 : Int32} (h : atag p x0 = 10) (hs : st.length ≤ 4) : gb_ex m (.invokeinterface 2 2 :: r) ls (.int x1 :: .ref x0 :: st) p g = (gb_call 2 [.ref x0, .int x1] p g).bind (fun w => gb_ex m r ls (psh w.1 st) w.2.1 w.2.2) :=
  gb_ex_cl (k := 2) (n := 2) (st' := .int x1 :: .ref x0 :: st) (by
    have h1 : 2 ≤ (.int x1 :: .ref x0 :: st : List Value).length := by simp
    have h2 : gb_rcv 2 [.ref x0, .int x1] p = true := by
      show (true && true && true && decide (atag p x0 = 10)) = true
      rw [h]
      rfl
    simp only [gb_stp]
    exact if_pos ⟨h1, hs, h2⟩)
theorem cl_BE_worldsOf {p : gb_Pi} {g : gb_Sg} {x0 : Nat} {x1 : Int32} : gb_call 2 [.ref x0, .int x1] p g = gb_ex 2 bk_BE_worldsOf_0 [.ref x0, .int x1, .null] [] p g := rfl
theorem xc_BE_readFrom {m : Nat} {r : List Instr} {ls st : List Value} {p : gb_Pi} {g : gb_Sg} {x0 : Nat} {x1 : Nat} (h : atag p x0 = 10) (hs : st.length ≤ 4) : gb_ex m (.invokeinterface 3 2 :: r) ls (.ref x1 :: .ref x0 :: st) p g = (gb_call 3 [.ref x0, .ref x1] p g).bind (fun w => gb_ex m r ls (psh w.1 st) w.2.1 w.2.2) :=
  gb_ex_cl (k := 3) (n := 2) (st' := .ref x1 :: .ref x0 :: st) (by
    have h1 : 2 ≤ (.ref x1 :: .ref x0 :: st : List Value).length := by simp
    have h2 : gb_rcv 3 [.ref x0, .ref x1] p = true := by
      show (true && true && true && decide (atag p x0 = 10)) = true
      rw [h]
      rfl
    simp only [gb_stp]
    exact if_pos ⟨h1, hs, h2⟩)
theorem cl_BE_readFrom {p : gb_Pi} {g : gb_Sg} {x0 : Nat} {x1 : Nat} : gb_call 3 [.ref x0, .ref x1] p g = gb_ex 3 bk_BE_readFrom_0 [.ref x0, .ref x1, .null, .null] [] p g := rfl
theorem xc_BE_readItem {m : Nat} {r : List Instr} {ls st : List Value} {p : gb_Pi} {g : gb_Sg} {x0 : Nat} {x1 : Nat} (h : atag p x0 = 10) (hs : st.length ≤ 4) : gb_ex m (.invokeinterface 4 2 :: r) ls (.ref x1 :: .ref x0 :: st) p g = (gb_call 4 [.ref x0, .ref x1] p g).bind (fun w => gb_ex m r ls (psh w.1 st) w.2.1 w.2.2) :=
  gb_ex_cl (k := 4) (n := 2) (st' := .ref x1 :: .ref x0 :: st) (by
    have h1 : 2 ≤ (.ref x1 :: .ref x0 :: st : List Value).length := by simp
    have h2 : gb_rcv 4 [.ref x0, .ref x1] p = true := by
      show (true && true && true && decide (atag p x0 = 10)) = true
      rw [h]
      rfl
    simp only [gb_stp]
    exact if_pos ⟨h1, hs, h2⟩)
theorem cl_BE_readItem {p : gb_Pi} {g : gb_Sg} {x0 : Nat} {x1 : Nat} : gb_call 4 [.ref x0, .ref x1] p g = gb_ex 4 bk_BE_readItem_0 [.ref x0, .ref x1] [] p g := rfl
theorem xc_BE_readNumbers {m : Nat} {r : List Instr} {ls st : List Value} {p : gb_Pi} {g : gb_Sg} {x0 : Nat} {x1 : Nat} {x2 : Int32} (h : atag p x0 = 10) (hs : st.length ≤ 4) : gb_ex m (.invokeinterface 5 3 :: r) ls (.int x2 :: .ref x1 :: .ref x0 :: st) p g = (gb_call 5 [.ref x0, .ref x1, .int x2] p g).bind (fun w => gb_ex m r ls (psh w.1 st) w.2.1 w.2.2) :=
  gb_ex_cl (k := 5) (n := 3) (st' := .int x2 :: .ref x1 :: .ref x0 :: st) (by
    have h1 : 3 ≤ (.int x2 :: .ref x1 :: .ref x0 :: st : List Value).length := by simp
    have h2 : gb_rcv 5 [.ref x0, .ref x1, .int x2] p = true := by
      show (true && true && true && decide (atag p x0 = 10)) = true
      rw [h]
      rfl
    simp only [gb_stp]
    exact if_pos ⟨h1, hs, h2⟩)
theorem cl_BE_readNumbers {p : gb_Pi} {g : gb_Sg} {x0 : Nat} {x1 : Nat} {x2 : Int32} : gb_call 5 [.ref x0, .ref x1, .int x2] p g = gb_ex 5 bk_BE_readNumbers_0 [.ref x0, .ref x1, .int x2, .null] [] p g := rfl
theorem xc_BE_addCells {m : Nat} {r : List Instr} {ls st : List Value} {p : gb_Pi} {g : gb_Sg} {x0 : Nat} (h : atag p x0 = 10) (hs : st.length ≤ 4) : gb_ex m (.invokeinterface 6 1 :: r) ls (.ref x0 :: st) p g = (gb_call 6 [.ref x0] p g).bind (fun w => gb_ex m r ls (psh w.1 st) w.2.1 w.2.2) :=
  gb_ex_cl (k := 6) (n := 1) (st' := .ref x0 :: st) (by
    have h1 : 1 ≤ (.ref x0 :: st : List Value).length := by simp
    have h2 : gb_rcv 6 [.ref x0] p = true := by
      show (true && true && true && decide (atag p x0 = 10)) = true
      rw [h]
      rfl
    simp only [gb_stp]
    exact if_pos ⟨h1, hs, h2⟩)
theorem cl_BE_addCells {p : gb_Pi} {g : gb_Sg} {x0 : Nat} : gb_call 6 [.ref x0] p g = gb_ex 6 bk_BE_addCells_0 [.ref x0] [] p g := rfl
theorem xc_BE_addTide {m : Nat} {r : List Instr} {ls st : List Value} {p : gb_Pi} {g : gb_Sg} {x0 : Nat} (h : atag p x0 = 10) (hs : st.length ≤ 4) : gb_ex m (.invokeinterface 7 1 :: r) ls (.ref x0 :: st) p g = (gb_call 7 [.ref x0] p g).bind (fun w => gb_ex m r ls (psh w.1 st) w.2.1 w.2.2) :=
  gb_ex_cl (k := 7) (n := 1) (st' := .ref x0 :: st) (by
    have h1 : 1 ≤ (.ref x0 :: st : List Value).length := by simp
    have h2 : gb_rcv 7 [.ref x0] p = true := by
      show (true && true && true && decide (atag p x0 = 10)) = true
      rw [h]
      rfl
    simp only [gb_stp]
    exact if_pos ⟨h1, hs, h2⟩)
theorem cl_BE_addTide {p : gb_Pi} {g : gb_Sg} {x0 : Nat} : gb_call 7 [.ref x0] p g = gb_ex 7 bk_BE_addTide_0 [.ref x0] [] p g := rfl
theorem xc_BE_addWind {m : Nat} {r : List Instr} {ls st : List Value} {p : gb_Pi} {g : gb_Sg} {x0 : Nat} (h : atag p x0 = 10) (hs : st.length ≤ 4) : gb_ex m (.invokeinterface 8 1 :: r) ls (.ref x0 :: st) p g = (gb_call 8 [.ref x0] p g).bind (fun w => gb_ex m r ls (psh w.1 st) w.2.1 w.2.2) :=
  gb_ex_cl (k := 8) (n := 1) (st' := .ref x0 :: st) (by
    have h1 : 1 ≤ (.ref x0 :: st : List Value).length := by simp
    have h2 : gb_rcv 8 [.ref x0] p = true := by
      show (true && true && true && decide (atag p x0 = 10)) = true
      rw [h]
      rfl
    simp only [gb_stp]
    exact if_pos ⟨h1, hs, h2⟩)
theorem cl_BE_addWind {p : gb_Pi} {g : gb_Sg} {x0 : Nat} : gb_call 8 [.ref x0] p g = gb_ex 8 bk_BE_addWind_0 [.ref x0] [] p g := rfl
theorem xc_BE_addKind {m : Nat} {r : List Instr} {ls st : List Value} {p : gb_Pi} {g : gb_Sg} {x0 : Nat} (h : atag p x0 = 10) (hs : st.length ≤ 4) : gb_ex m (.invokeinterface 9 1 :: r) ls (.ref x0 :: st) p g = (gb_call 9 [.ref x0] p g).bind (fun w => gb_ex m r ls (psh w.1 st) w.2.1 w.2.2) :=
  gb_ex_cl (k := 9) (n := 1) (st' := .ref x0 :: st) (by
    have h1 : 1 ≤ (.ref x0 :: st : List Value).length := by simp
    have h2 : gb_rcv 9 [.ref x0] p = true := by
      show (true && true && true && decide (atag p x0 = 10)) = true
      rw [h]
      rfl
    simp only [gb_stp]
    exact if_pos ⟨h1, hs, h2⟩)
theorem cl_BE_addKind {p : gb_Pi} {g : gb_Sg} {x0 : Nat} : gb_call 9 [.ref x0] p g = gb_ex 9 bk_BE_addKind_0 [.ref x0] [] p g := rfl
theorem xc_BE_addLoss {m : Nat} {r : List Instr} {ls st : List Value} {p : gb_Pi} {g : gb_Sg} {x0 : Nat} (h : atag p x0 = 10) (hs : st.length ≤ 4) : gb_ex m (.invokeinterface 10 1 :: r) ls (.ref x0 :: st) p g = (gb_call 10 [.ref x0] p g).bind (fun w => gb_ex m r ls (psh w.1 st) w.2.1 w.2.2) :=
  gb_ex_cl (k := 10) (n := 1) (st' := .ref x0 :: st) (by
    have h1 : 1 ≤ (.ref x0 :: st : List Value).length := by simp
    have h2 : gb_rcv 10 [.ref x0] p = true := by
      show (true && true && true && decide (atag p x0 = 10)) = true
      rw [h]
      rfl
    simp only [gb_stp]
    exact if_pos ⟨h1, hs, h2⟩)
theorem cl_BE_addLoss {p : gb_Pi} {g : gb_Sg} {x0 : Nat} : gb_call 10 [.ref x0] p g = gb_ex 10 bk_BE_addLoss_0 [.ref x0] [] p g := rfl
theorem xc_LA_init {m : Nat} {r : List Instr} {ls st : List Value} {p : gb_Pi} {g : gb_Sg} {x0 : Nat} (h : atag p x0 = 11) (hs : st.length ≤ 4) : gb_ex m (.invokeinterface 11 1 :: r) ls (.ref x0 :: st) p g = (gb_call 11 [.ref x0] p g).bind (fun w => gb_ex m r ls (psh w.1 st) w.2.1 w.2.2) :=
  gb_ex_cl (k := 11) (n := 1) (st' := .ref x0 :: st) (by
    have h1 : 1 ≤ (.ref x0 :: st : List Value).length := by simp
    have h2 : gb_rcv 11 [.ref x0] p = true := by
      show (true && true && true && decide (atag p x0 = 11)) = true
      rw [h]
      rfl
    simp only [gb_stp]
    exact if_pos ⟨h1, hs, h2⟩)
theorem cl_LA_init {p : gb_Pi} {g : gb_Sg} {x0 : Nat} : gb_call 11 [.ref x0] p g = gb_ex 11 bk_LA_init_0 [.ref x0] [] p g := rfl
theorem xc_LA_forget {m : Nat} {r : List Instr} {ls st : List Value} {p : gb_Pi} {g : gb_Sg} {x0 : Nat} (h : atag p x0 = 11) (hs : st.length ≤ 4) : gb_ex m (.invokeinterface 12 1 :: r) ls (.ref x0 :: st) p g = (gb_call 12 [.ref x0] p g).bind (fun w => gb_ex m r ls (psh w.1 st) w.2.1 w.2.2) :=
  gb_ex_cl (k := 12) (n := 1) (st' := .ref x0 :: st) (by
    have h1 : 1 ≤ (.ref x0 :: st : List Value).length := by simp
    have h2 : gb_rcv 12 [.ref x0] p = true := by
      show (true && true && true && decide (atag p x0 = 11)) = true
      rw [h]
      rfl
    simp only [gb_stp]
    exact if_pos ⟨h1, hs, h2⟩)
theorem cl_LA_forget {p : gb_Pi} {g : gb_Sg} {x0 : Nat} : gb_call 12 [.ref x0] p g = gb_ex 12 bk_LA_forget_0 [.ref x0, .null] [] p g := rfl
theorem xc_LA_release {m : Nat} {r : List Instr} {ls st : List Value} {p : gb_Pi} {g : gb_Sg} {x0 : Nat} {x1 : Nat} {x2 : Int32} {x3 : Int32} {x4 : Int32} {x5 : Int32} (h : atag p x0 = 11) (hs : st.length ≤ 4) : gb_ex m (.invokeinterface 13 6 :: r) ls (.int x5 :: .int x4 :: .int x3 :: .int x2 :: .ref x1 :: .ref x0 :: st) p g = (gb_call 13 [.ref x0, .ref x1, .int x2, .int x3, .int x4, .int x5] p g).bind (fun w => gb_ex m r ls (psh w.1 st) w.2.1 w.2.2) :=
  gb_ex_cl (k := 13) (n := 6) (st' := .int x5 :: .int x4 :: .int x3 :: .int x2 :: .ref x1 :: .ref x0 :: st) (by
    have h1 : 6 ≤ (.int x5 :: .int x4 :: .int x3 :: .int x2 :: .ref x1 :: .ref x0 :: st : List Value).length := by simp
    have h2 : gb_rcv 13 [.ref x0, .ref x1, .int x2, .int x3, .int x4, .int x5] p = true := by
      show (true && true && true && decide (atag p x0 = 11)) = true
      rw [h]
      rfl
    simp only [gb_stp]
    exact if_pos ⟨h1, hs, h2⟩)
theorem cl_LA_release {p : gb_Pi} {g : gb_Sg} {x0 : Nat} {x1 : Nat} {x2 : Int32} {x3 : Int32} {x4 : Int32} {x5 : Int32} : gb_call 13 [.ref x0, .ref x1, .int x2, .int x3, .int x4, .int x5] p g = gb_ex 13 bk_LA_release_0 [.ref x0, .ref x1, .int x2, .int x3, .int x4, .int x5, .null, .null, .null, .null, .null, .null, .null, .null, .null] [] p g := rfl
theorem xc_LA_settle {m : Nat} {r : List Instr} {ls st : List Value} {p : gb_Pi} {g : gb_Sg} {x0 : Nat} {x1 : Nat} {x2 : Int32} (h : atag p x0 = 11) (hs : st.length ≤ 4) : gb_ex m (.invokeinterface 14 3 :: r) ls (.int x2 :: .ref x1 :: .ref x0 :: st) p g = (gb_call 14 [.ref x0, .ref x1, .int x2] p g).bind (fun w => gb_ex m r ls (psh w.1 st) w.2.1 w.2.2) :=
  gb_ex_cl (k := 14) (n := 3) (st' := .int x2 :: .ref x1 :: .ref x0 :: st) (by
    have h1 : 3 ≤ (.int x2 :: .ref x1 :: .ref x0 :: st : List Value).length := by simp
    have h2 : gb_rcv 14 [.ref x0, .ref x1, .int x2] p = true := by
      show (true && true && true && decide (atag p x0 = 11)) = true
      rw [h]
      rfl
    simp only [gb_stp]
    exact if_pos ⟨h1, hs, h2⟩)
theorem cl_LA_settle {p : gb_Pi} {g : gb_Sg} {x0 : Nat} {x1 : Nat} {x2 : Int32} : gb_call 14 [.ref x0, .ref x1, .int x2] p g = gb_ex 14 bk_LA_settle_0 [.ref x0, .ref x1, .int x2, .null, .null, .null, .null] [] p g := rfl
theorem xc_LA_howMany {m : Nat} {r : List Instr} {ls st : List Value} {p : gb_Pi} {g : gb_Sg} {x0 : Nat} {x1 : Int32} {x2 : Int32} {x3 : Int32} {x4 : Int32} {x5 : Int32} (h : atag p x0 = 11) (hs : st.length ≤ 4) : gb_ex m (.invokeinterface 15 6 :: r) ls (.int x5 :: .int x4 :: .int x3 :: .int x2 :: .int x1 :: .ref x0 :: st) p g = (gb_call 15 [.ref x0, .int x1, .int x2, .int x3, .int x4, .int x5] p g).bind (fun w => gb_ex m r ls (psh w.1 st) w.2.1 w.2.2) :=
  gb_ex_cl (k := 15) (n := 6) (st' := .int x5 :: .int x4 :: .int x3 :: .int x2 :: .int x1 :: .ref x0 :: st) (by
    have h1 : 6 ≤ (.int x5 :: .int x4 :: .int x3 :: .int x2 :: .int x1 :: .ref x0 :: st : List Value).length := by simp
    have h2 : gb_rcv 15 [.ref x0, .int x1, .int x2, .int x3, .int x4, .int x5] p = true := by
      show (true && true && true && decide (atag p x0 = 11)) = true
      rw [h]
      rfl
    simp only [gb_stp]
    exact if_pos ⟨h1, hs, h2⟩)
theorem cl_LA_howMany {p : gb_Pi} {g : gb_Sg} {x0 : Nat} {x1 : Int32} {x2 : Int32} {x3 : Int32} {x4 : Int32} {x5 : Int32} : gb_call 15 [.ref x0, .int x1, .int x2, .int x3, .int x4, .int x5] p g = gb_ex 15 bk_LA_howMany_0 [.ref x0, .int x1, .int x2, .int x3, .int x4, .int x5, .null, .null] [] p g := rfl
theorem xc_LW_init {m : Nat} {r : List Instr} {ls st : List Value} {p : gb_Pi} {g : gb_Sg} {x0 : Nat} (h : atag p x0 = 12) (hs : st.length ≤ 4) : gb_ex m (.invokeinterface 16 1 :: r) ls (.ref x0 :: st) p g = (gb_call 16 [.ref x0] p g).bind (fun w => gb_ex m r ls (psh w.1 st) w.2.1 w.2.2) :=
  gb_ex_cl (k := 16) (n := 1) (st' := .ref x0 :: st) (by
    have h1 : 1 ≤ (.ref x0 :: st : List Value).length := by simp
    have h2 : gb_rcv 16 [.ref x0] p = true := by
      show (true && true && true && decide (atag p x0 = 12)) = true
      rw [h]
      rfl
    simp only [gb_stp]
    exact if_pos ⟨h1, hs, h2⟩)
theorem cl_LW_init {p : gb_Pi} {g : gb_Sg} {x0 : Nat} : gb_call 16 [.ref x0] p g = gb_ex 16 bk_LW_init_0 [.ref x0] [] p g := rfl
theorem xc_LW_readFrom {m : Nat} {r : List Instr} {ls st : List Value} {p : gb_Pi} {g : gb_Sg} {x0 : Nat} {x1 : Nat} (h : atag p x0 = 12) (hs : st.length ≤ 4) : gb_ex m (.invokeinterface 17 2 :: r) ls (.ref x1 :: .ref x0 :: st) p g = (gb_call 17 [.ref x0, .ref x1] p g).bind (fun w => gb_ex m r ls (psh w.1 st) w.2.1 w.2.2) :=
  gb_ex_cl (k := 17) (n := 2) (st' := .ref x1 :: .ref x0 :: st) (by
    have h1 : 2 ≤ (.ref x1 :: .ref x0 :: st : List Value).length := by simp
    have h2 : gb_rcv 17 [.ref x0, .ref x1] p = true := by
      show (true && true && true && decide (atag p x0 = 12)) = true
      rw [h]
      rfl
    simp only [gb_stp]
    exact if_pos ⟨h1, hs, h2⟩)
theorem cl_LW_readFrom {p : gb_Pi} {g : gb_Sg} {x0 : Nat} {x1 : Nat} : gb_call 17 [.ref x0, .ref x1] p g = gb_ex 17 bk_LW_readFrom_0 [.ref x0, .ref x1, .null, .null] [] p g := rfl
theorem xc_LW_readConditions {m : Nat} {r : List Instr} {ls st : List Value} {p : gb_Pi} {g : gb_Sg} {x0 : Nat} {x1 : Nat} (h : atag p x0 = 12) (hs : st.length ≤ 4) : gb_ex m (.invokeinterface 18 2 :: r) ls (.ref x1 :: .ref x0 :: st) p g = (gb_call 18 [.ref x0, .ref x1] p g).bind (fun w => gb_ex m r ls (psh w.1 st) w.2.1 w.2.2) :=
  gb_ex_cl (k := 18) (n := 2) (st' := .ref x1 :: .ref x0 :: st) (by
    have h1 : 2 ≤ (.ref x1 :: .ref x0 :: st : List Value).length := by simp
    have h2 : gb_rcv 18 [.ref x0, .ref x1] p = true := by
      show (true && true && true && decide (atag p x0 = 12)) = true
      rw [h]
      rfl
    simp only [gb_stp]
    exact if_pos ⟨h1, hs, h2⟩)
theorem cl_LW_readConditions {p : gb_Pi} {g : gb_Sg} {x0 : Nat} {x1 : Nat} : gb_call 18 [.ref x0, .ref x1] p g = gb_ex 18 bk_LW_readConditions_0 [.ref x0, .ref x1, .null] [] p g := rfl
theorem xc_LW_readCondition {m : Nat} {r : List Instr} {ls st : List Value} {p : gb_Pi} {g : gb_Sg} {x0 : Nat} {x1 : Nat} {x2 : Int32} (h : atag p x0 = 12) (hs : st.length ≤ 4) : gb_ex m (.invokeinterface 19 3 :: r) ls (.int x2 :: .ref x1 :: .ref x0 :: st) p g = (gb_call 19 [.ref x0, .ref x1, .int x2] p g).bind (fun w => gb_ex m r ls (psh w.1 st) w.2.1 w.2.2) :=
  gb_ex_cl (k := 19) (n := 3) (st' := .int x2 :: .ref x1 :: .ref x0 :: st) (by
    have h1 : 3 ≤ (.int x2 :: .ref x1 :: .ref x0 :: st : List Value).length := by simp
    have h2 : gb_rcv 19 [.ref x0, .ref x1, .int x2] p = true := by
      show (true && true && true && decide (atag p x0 = 12)) = true
      rw [h]
      rfl
    simp only [gb_stp]
    exact if_pos ⟨h1, hs, h2⟩)
theorem cl_LW_readCondition {p : gb_Pi} {g : gb_Sg} {x0 : Nat} {x1 : Nat} {x2 : Int32} : gb_call 19 [.ref x0, .ref x1, .int x2] p g = gb_ex 19 bk_LW_readCondition_0 [.ref x0, .ref x1, .int x2, .null, .null, .null] [] p g := rfl
theorem xc_LW_readOutcome {m : Nat} {r : List Instr} {ls st : List Value} {p : gb_Pi} {g : gb_Sg} {x0 : Nat} {x1 : Nat} (h : atag p x0 = 12) (hs : st.length ≤ 4) : gb_ex m (.invokeinterface 20 2 :: r) ls (.ref x1 :: .ref x0 :: st) p g = (gb_call 20 [.ref x0, .ref x1] p g).bind (fun w => gb_ex m r ls (psh w.1 st) w.2.1 w.2.2) :=
  gb_ex_cl (k := 20) (n := 2) (st' := .ref x1 :: .ref x0 :: st) (by
    have h1 : 2 ≤ (.ref x1 :: .ref x0 :: st : List Value).length := by simp
    have h2 : gb_rcv 20 [.ref x0, .ref x1] p = true := by
      show (true && true && true && decide (atag p x0 = 12)) = true
      rw [h]
      rfl
    simp only [gb_stp]
    exact if_pos ⟨h1, hs, h2⟩)
theorem cl_LW_readOutcome {p : gb_Pi} {g : gb_Sg} {x0 : Nat} {x1 : Nat} : gb_call 20 [.ref x0, .ref x1] p g = gb_ex 20 bk_LW_readOutcome_0 [.ref x0, .ref x1, .null] [] p g := rfl
theorem xc_LW_firstThatHolds {m : Nat} {r : List Instr} {ls st : List Value} {p : gb_Pi} {g : gb_Sg} {x0 : Nat} {x1 : Int32} {x2 : Int32} {x3 : Int32} {x4 : Int32} (h : atag p x0 = 12) (hs : st.length ≤ 4) : gb_ex m (.invokeinterface 21 5 :: r) ls (.int x4 :: .int x3 :: .int x2 :: .int x1 :: .ref x0 :: st) p g = (gb_call 21 [.ref x0, .int x1, .int x2, .int x3, .int x4] p g).bind (fun w => gb_ex m r ls (psh w.1 st) w.2.1 w.2.2) :=
  gb_ex_cl (k := 21) (n := 5) (st' := .int x4 :: .int x3 :: .int x2 :: .int x1 :: .ref x0 :: st) (by
    have h1 : 5 ≤ (.int x4 :: .int x3 :: .int x2 :: .int x1 :: .ref x0 :: st : List Value).length := by simp
    have h2 : gb_rcv 21 [.ref x0, .int x1, .int x2, .int x3, .int x4] p = true := by
      show (true && true && true && decide (atag p x0 = 12)) = true
      rw [h]
      rfl
    simp only [gb_stp]
    exact if_pos ⟨h1, hs, h2⟩)
theorem cl_LW_firstThatHolds {p : gb_Pi} {g : gb_Sg} {x0 : Nat} {x1 : Int32} {x2 : Int32} {x3 : Int32} {x4 : Int32} : gb_call 21 [.ref x0, .int x1, .int x2, .int x3, .int x4] p g = gb_ex 21 bk_LW_firstThatHolds_0 [.ref x0, .int x1, .int x2, .int x3, .int x4, .null, .null, .null, .null, .null] [] p g := rfl
theorem xc_LW_valueOf {m : Nat} {r : List Instr} {ls st : List Value} {p : gb_Pi} {g : gb_Sg} {x0 : Int32} {x1 : Int32} {x2 : Int32} {x3 : Int32} {x4 : Int32} (hs : st.length ≤ 4) : gb_ex m (.invokeinterface 22 5 :: r) ls (.int x4 :: .int x3 :: .int x2 :: .int x1 :: .int x0 :: st) p g = (gb_call 22 [.int x0, .int x1, .int x2, .int x3, .int x4] p g).bind (fun w => gb_ex m r ls (psh w.1 st) w.2.1 w.2.2) :=
  gb_ex_cl (k := 22) (n := 5) (st' := .int x4 :: .int x3 :: .int x2 :: .int x1 :: .int x0 :: st) (by
    have h1 : 5 ≤ (.int x4 :: .int x3 :: .int x2 :: .int x1 :: .int x0 :: st : List Value).length := by simp
    have h2 : gb_rcv 22 [.int x0, .int x1, .int x2, .int x3, .int x4] p = true := by rfl
    simp only [gb_stp]
    exact if_pos ⟨h1, hs, h2⟩)
theorem cl_LW_valueOf {p : gb_Pi} {g : gb_Sg} {x0 : Int32} {x1 : Int32} {x2 : Int32} {x3 : Int32} {x4 : Int32} : gb_call 22 [.int x0, .int x1, .int x2, .int x3, .int x4] p g = gb_ex 22 bk_LW_valueOf_0 [.int x0, .int x1, .int x2, .int x3, .int x4] [] p g := rfl
theorem xc_MA_init {m : Nat} {r : List Instr} {ls st : List Value} {p : gb_Pi} {g : gb_Sg} {x0 : Nat} (h : atag p x0 = 13) (hs : st.length ≤ 4) : gb_ex m (.invokeinterface 23 1 :: r) ls (.ref x0 :: st) p g = (gb_call 23 [.ref x0] p g).bind (fun w => gb_ex m r ls (psh w.1 st) w.2.1 w.2.2) :=
  gb_ex_cl (k := 23) (n := 1) (st' := .ref x0 :: st) (by
    have h1 : 1 ≤ (.ref x0 :: st : List Value).length := by simp
    have h2 : gb_rcv 23 [.ref x0] p = true := by
      show (true && true && true && decide (atag p x0 = 13)) = true
      rw [h]
      rfl
    simp only [gb_stp]
    exact if_pos ⟨h1, hs, h2⟩)
theorem cl_MA_init {p : gb_Pi} {g : gb_Sg} {x0 : Nat} : gb_call 23 [.ref x0] p g = gb_ex 23 bk_MA_init_0 [.ref x0] [] p g := rfl
theorem xc_MA_solve {m : Nat} {r : List Instr} {ls st : List Value} {p : gb_Pi} {g : gb_Sg} {x0 : Nat} {x1 : Int32} (h : atag p x0 = 13) (hs : st.length ≤ 4) : gb_ex m (.invokeinterface 24 2 :: r) ls (.int x1 :: .ref x0 :: st) p g = (gb_call 24 [.ref x0, .int x1] p g).bind (fun w => gb_ex m r ls (psh w.1 st) w.2.1 w.2.2) :=
  gb_ex_cl (k := 24) (n := 2) (st' := .int x1 :: .ref x0 :: st) (by
    have h1 : 2 ≤ (.int x1 :: .ref x0 :: st : List Value).length := by simp
    have h2 : gb_rcv 24 [.ref x0, .int x1] p = true := by
      show (true && true && true && decide (atag p x0 = 13)) = true
      rw [h]
      rfl
    simp only [gb_stp]
    exact if_pos ⟨h1, hs, h2⟩)
theorem cl_MA_solve {p : gb_Pi} {g : gb_Sg} {x0 : Nat} {x1 : Int32} : gb_call 24 [.ref x0, .int x1] p g = gb_ex 24 bk_MA_solve_0 [.ref x0, .int x1, .null, .null] [] p g := rfl
theorem xc_MA_lowestFor {m : Nat} {r : List Instr} {ls st : List Value} {p : gb_Pi} {g : gb_Sg} {x0 : Nat} {x1 : Int32} {x2 : Int32} (h : atag p x0 = 13) (hs : st.length ≤ 4) : gb_ex m (.invokeinterface 25 3 :: r) ls (.int x2 :: .int x1 :: .ref x0 :: st) p g = (gb_call 25 [.ref x0, .int x1, .int x2] p g).bind (fun w => gb_ex m r ls (psh w.1 st) w.2.1 w.2.2) :=
  gb_ex_cl (k := 25) (n := 3) (st' := .int x2 :: .int x1 :: .ref x0 :: st) (by
    have h1 : 3 ≤ (.int x2 :: .int x1 :: .ref x0 :: st : List Value).length := by simp
    have h2 : gb_rcv 25 [.ref x0, .int x1, .int x2] p = true := by
      show (true && true && true && decide (atag p x0 = 13)) = true
      rw [h]
      rfl
    simp only [gb_stp]
    exact if_pos ⟨h1, hs, h2⟩)
theorem cl_MA_lowestFor {p : gb_Pi} {g : gb_Sg} {x0 : Nat} {x1 : Int32} {x2 : Int32} : gb_call 25 [.ref x0, .int x1, .int x2] p g = gb_ex 25 bk_MA_lowestFor_0 [.ref x0, .int x1, .int x2, .null, .null] [] p g := rfl
theorem xc_MA_choiceOf {m : Nat} {r : List Instr} {ls st : List Value} {p : gb_Pi} {g : gb_Sg} {x0 : Nat} {x1 : Int32} (h : atag p x0 = 13) (hs : st.length ≤ 4) : gb_ex m (.invokeinterface 26 2 :: r) ls (.int x1 :: .ref x0 :: st) p g = (gb_call 26 [.ref x0, .int x1] p g).bind (fun w => gb_ex m r ls (psh w.1 st) w.2.1 w.2.2) :=
  gb_ex_cl (k := 26) (n := 2) (st' := .int x1 :: .ref x0 :: st) (by
    have h1 : 2 ≤ (.int x1 :: .ref x0 :: st : List Value).length := by simp
    have h2 : gb_rcv 26 [.ref x0, .int x1] p = true := by
      show (true && true && true && decide (atag p x0 = 13)) = true
      rw [h]
      rfl
    simp only [gb_stp]
    exact if_pos ⟨h1, hs, h2⟩)
theorem cl_MA_choiceOf {p : gb_Pi} {g : gb_Sg} {x0 : Nat} {x1 : Int32} : gb_call 26 [.ref x0, .int x1] p g = gb_ex 26 bk_MA_choiceOf_0 [.ref x0, .int x1, .null, .null, .null] [] p g := rfl
theorem xc_OU_init {m : Nat} {r : List Instr} {ls st : List Value} {p : gb_Pi} {g : gb_Sg} {x0 : Nat} (h : atag p x0 = 14) (hs : st.length ≤ 4) : gb_ex m (.invokeinterface 27 1 :: r) ls (.ref x0 :: st) p g = (gb_call 27 [.ref x0] p g).bind (fun w => gb_ex m r ls (psh w.1 st) w.2.1 w.2.2) :=
  gb_ex_cl (k := 27) (n := 1) (st' := .ref x0 :: st) (by
    have h1 : 1 ≤ (.ref x0 :: st : List Value).length := by simp
    have h2 : gb_rcv 27 [.ref x0] p = true := by
      show (true && true && true && decide (atag p x0 = 14)) = true
      rw [h]
      rfl
    simp only [gb_stp]
    exact if_pos ⟨h1, hs, h2⟩)
theorem cl_OU_init {p : gb_Pi} {g : gb_Sg} {x0 : Nat} : gb_call 27 [.ref x0] p g = gb_ex 27 bk_OU_init_0 [.ref x0] [] p g := rfl
theorem xc_OU_readReports {m : Nat} {r : List Instr} {ls st : List Value} {p : gb_Pi} {g : gb_Sg} {x0 : Nat} {x1 : Nat} {x2 : Nat} (h : atag p x0 = 14) (hs : st.length ≤ 4) : gb_ex m (.invokeinterface 28 3 :: r) ls (.ref x2 :: .ref x1 :: .ref x0 :: st) p g = (gb_call 28 [.ref x0, .ref x1, .ref x2] p g).bind (fun w => gb_ex m r ls (psh w.1 st) w.2.1 w.2.2) :=
  gb_ex_cl (k := 28) (n := 3) (st' := .ref x2 :: .ref x1 :: .ref x0 :: st) (by
    have h1 : 3 ≤ (.ref x2 :: .ref x1 :: .ref x0 :: st : List Value).length := by simp
    have h2 : gb_rcv 28 [.ref x0, .ref x1, .ref x2] p = true := by
      show (true && true && true && decide (atag p x0 = 14)) = true
      rw [h]
      rfl
    simp only [gb_stp]
    exact if_pos ⟨h1, hs, h2⟩)
theorem cl_OU_readReports {p : gb_Pi} {g : gb_Sg} {x0 : Nat} {x1 : Nat} {x2 : Nat} : gb_call 28 [.ref x0, .ref x1, .ref x2] p g = gb_ex 28 bk_OU_readReports_0 [.ref x0, .ref x1, .ref x2, .null, .null, .null] [] p g := rfl
theorem xc_OU_weigh {m : Nat} {r : List Instr} {ls st : List Value} {p : gb_Pi} {g : gb_Sg} {x0 : Nat} {x1 : Nat} {x2 : Nat} {x3 : Int32} {x4 : Int32} (h : atag p x0 = 14) (hs : st.length ≤ 4) : gb_ex m (.invokeinterface 29 5 :: r) ls (.int x4 :: .int x3 :: .ref x2 :: .ref x1 :: .ref x0 :: st) p g = (gb_call 29 [.ref x0, .ref x1, .ref x2, .int x3, .int x4] p g).bind (fun w => gb_ex m r ls (psh w.1 st) w.2.1 w.2.2) :=
  gb_ex_cl (k := 29) (n := 5) (st' := .int x4 :: .int x3 :: .ref x2 :: .ref x1 :: .ref x0 :: st) (by
    have h1 : 5 ≤ (.int x4 :: .int x3 :: .ref x2 :: .ref x1 :: .ref x0 :: st : List Value).length := by simp
    have h2 : gb_rcv 29 [.ref x0, .ref x1, .ref x2, .int x3, .int x4] p = true := by
      show (true && true && true && decide (atag p x0 = 14)) = true
      rw [h]
      rfl
    simp only [gb_stp]
    exact if_pos ⟨h1, hs, h2⟩)
theorem cl_OU_weigh {p : gb_Pi} {g : gb_Sg} {x0 : Nat} {x1 : Nat} {x2 : Nat} {x3 : Int32} {x4 : Int32} : gb_call 29 [.ref x0, .ref x1, .ref x2, .int x3, .int x4] p g = gb_ex 29 bk_OU_weigh_0 [.ref x0, .ref x1, .ref x2, .int x3, .int x4, .null, .null, .null, .null, .null] [] p g := rfl
theorem xc_OU_sumOver {m : Nat} {r : List Instr} {ls st : List Value} {p : gb_Pi} {g : gb_Sg} {x0 : Nat} {x1 : Nat} {x2 : Int32} {x3 : Int32} {x4 : Int32} (h : atag p x0 = 14) (hs : st.length ≤ 4) : gb_ex m (.invokeinterface 30 5 :: r) ls (.int x4 :: .int x3 :: .int x2 :: .ref x1 :: .ref x0 :: st) p g = (gb_call 30 [.ref x0, .ref x1, .int x2, .int x3, .int x4] p g).bind (fun w => gb_ex m r ls (psh w.1 st) w.2.1 w.2.2) :=
  gb_ex_cl (k := 30) (n := 5) (st' := .int x4 :: .int x3 :: .int x2 :: .ref x1 :: .ref x0 :: st) (by
    have h1 : 5 ≤ (.int x4 :: .int x3 :: .int x2 :: .ref x1 :: .ref x0 :: st : List Value).length := by simp
    have h2 : gb_rcv 30 [.ref x0, .ref x1, .int x2, .int x3, .int x4] p = true := by
      show (true && true && true && decide (atag p x0 = 14)) = true
      rw [h]
      rfl
    simp only [gb_stp]
    exact if_pos ⟨h1, hs, h2⟩)
theorem cl_OU_sumOver {p : gb_Pi} {g : gb_Sg} {x0 : Nat} {x1 : Nat} {x2 : Int32} {x3 : Int32} {x4 : Int32} : gb_call 30 [.ref x0, .ref x1, .int x2, .int x3, .int x4] p g = gb_ex 30 bk_OU_sumOver_0 [.ref x0, .ref x1, .int x2, .int x3, .int x4, .null, .null, .null, .null, .null, .null, .null] [] p g := rfl
theorem xc_OU_weighStretches {m : Nat} {r : List Instr} {ls st : List Value} {p : gb_Pi} {g : gb_Sg} {x0 : Nat} {x1 : Nat} {x2 : Int32} {x3 : Int32} (h : atag p x0 = 14) (hs : st.length ≤ 4) : gb_ex m (.invokeinterface 31 4 :: r) ls (.int x3 :: .int x2 :: .ref x1 :: .ref x0 :: st) p g = (gb_call 31 [.ref x0, .ref x1, .int x2, .int x3] p g).bind (fun w => gb_ex m r ls (psh w.1 st) w.2.1 w.2.2) :=
  gb_ex_cl (k := 31) (n := 4) (st' := .int x3 :: .int x2 :: .ref x1 :: .ref x0 :: st) (by
    have h1 : 4 ≤ (.int x3 :: .int x2 :: .ref x1 :: .ref x0 :: st : List Value).length := by simp
    have h2 : gb_rcv 31 [.ref x0, .ref x1, .int x2, .int x3] p = true := by
      show (true && true && true && decide (atag p x0 = 14)) = true
      rw [h]
      rfl
    simp only [gb_stp]
    exact if_pos ⟨h1, hs, h2⟩)
theorem cl_OU_weighStretches {p : gb_Pi} {g : gb_Sg} {x0 : Nat} {x1 : Nat} {x2 : Int32} {x3 : Int32} : gb_call 31 [.ref x0, .ref x1, .int x2, .int x3] p g = gb_ex 31 bk_OU_weighStretches_0 [.ref x0, .ref x1, .int x2, .int x3, .null] [] p g := rfl
theorem xc_OU_bestStretch {m : Nat} {r : List Instr} {ls st : List Value} {p : gb_Pi} {g : gb_Sg} {x0 : Nat} {x1 : Int32} (h : atag p x0 = 14) (hs : st.length ≤ 4) : gb_ex m (.invokeinterface 32 2 :: r) ls (.int x1 :: .ref x0 :: st) p g = (gb_call 32 [.ref x0, .int x1] p g).bind (fun w => gb_ex m r ls (psh w.1 st) w.2.1 w.2.2) :=
  gb_ex_cl (k := 32) (n := 2) (st' := .int x1 :: .ref x0 :: st) (by
    have h1 : 2 ≤ (.int x1 :: .ref x0 :: st : List Value).length := by simp
    have h2 : gb_rcv 32 [.ref x0, .int x1] p = true := by
      show (true && true && true && decide (atag p x0 = 14)) = true
      rw [h]
      rfl
    simp only [gb_stp]
    exact if_pos ⟨h1, hs, h2⟩)
theorem cl_OU_bestStretch {p : gb_Pi} {g : gb_Sg} {x0 : Nat} {x1 : Int32} : gb_call 32 [.ref x0, .int x1] p g = gb_ex 32 bk_OU_bestStretch_0 [.ref x0, .int x1, .null, .null] [] p g := rfl
theorem xc_OU_joinStretches {m : Nat} {r : List Instr} {ls st : List Value} {p : gb_Pi} {g : gb_Sg} {x0 : Nat} {x1 : Int32} {x2 : Int32} {x3 : Int32} (h : atag p x0 = 14) (hs : st.length ≤ 4) : gb_ex m (.invokeinterface 33 4 :: r) ls (.int x3 :: .int x2 :: .int x1 :: .ref x0 :: st) p g = (gb_call 33 [.ref x0, .int x1, .int x2, .int x3] p g).bind (fun w => gb_ex m r ls (psh w.1 st) w.2.1 w.2.2) :=
  gb_ex_cl (k := 33) (n := 4) (st' := .int x3 :: .int x2 :: .int x1 :: .ref x0 :: st) (by
    have h1 : 4 ≤ (.int x3 :: .int x2 :: .int x1 :: .ref x0 :: st : List Value).length := by simp
    have h2 : gb_rcv 33 [.ref x0, .int x1, .int x2, .int x3] p = true := by
      show (true && true && true && decide (atag p x0 = 14)) = true
      rw [h]
      rfl
    simp only [gb_stp]
    exact if_pos ⟨h1, hs, h2⟩)
theorem cl_OU_joinStretches {p : gb_Pi} {g : gb_Sg} {x0 : Nat} {x1 : Int32} {x2 : Int32} {x3 : Int32} : gb_call 33 [.ref x0, .int x1, .int x2, .int x3] p g = gb_ex 33 bk_OU_joinStretches_0 [.ref x0, .int x1, .int x2, .int x3, .null, .null] [] p g := rfl
theorem xc_OU_sumFrom {m : Nat} {r : List Instr} {ls st : List Value} {p : gb_Pi} {g : gb_Sg} {x0 : Nat} {x1 : Int32} {x2 : Int32} {x3 : Int32} (h : atag p x0 = 14) (hs : st.length ≤ 4) : gb_ex m (.invokeinterface 34 4 :: r) ls (.int x3 :: .int x2 :: .int x1 :: .ref x0 :: st) p g = (gb_call 34 [.ref x0, .int x1, .int x2, .int x3] p g).bind (fun w => gb_ex m r ls (psh w.1 st) w.2.1 w.2.2) :=
  gb_ex_cl (k := 34) (n := 4) (st' := .int x3 :: .int x2 :: .int x1 :: .ref x0 :: st) (by
    have h1 : 4 ≤ (.int x3 :: .int x2 :: .int x1 :: .ref x0 :: st : List Value).length := by simp
    have h2 : gb_rcv 34 [.ref x0, .int x1, .int x2, .int x3] p = true := by
      show (true && true && true && decide (atag p x0 = 14)) = true
      rw [h]
      rfl
    simp only [gb_stp]
    exact if_pos ⟨h1, hs, h2⟩)
theorem cl_OU_sumFrom {p : gb_Pi} {g : gb_Sg} {x0 : Nat} {x1 : Int32} {x2 : Int32} {x3 : Int32} : gb_call 34 [.ref x0, .int x1, .int x2, .int x3] p g = gb_ex 34 bk_OU_sumFrom_0 [.ref x0, .int x1, .int x2, .int x3, .null, .null] [] p g := rfl
theorem xc_OU_beginOf {m : Nat} {r : List Instr} {ls st : List Value} {p : gb_Pi} {g : gb_Sg} {x0 : Nat} {x1 : Int32} {x2 : Int32} {x3 : Int32} {x4 : Int32} (h : atag p x0 = 14) (hs : st.length ≤ 4) : gb_ex m (.invokeinterface 35 5 :: r) ls (.int x4 :: .int x3 :: .int x2 :: .int x1 :: .ref x0 :: st) p g = (gb_call 35 [.ref x0, .int x1, .int x2, .int x3, .int x4] p g).bind (fun w => gb_ex m r ls (psh w.1 st) w.2.1 w.2.2) :=
  gb_ex_cl (k := 35) (n := 5) (st' := .int x4 :: .int x3 :: .int x2 :: .int x1 :: .ref x0 :: st) (by
    have h1 : 5 ≤ (.int x4 :: .int x3 :: .int x2 :: .int x1 :: .ref x0 :: st : List Value).length := by simp
    have h2 : gb_rcv 35 [.ref x0, .int x1, .int x2, .int x3, .int x4] p = true := by
      show (true && true && true && decide (atag p x0 = 14)) = true
      rw [h]
      rfl
    simp only [gb_stp]
    exact if_pos ⟨h1, hs, h2⟩)
theorem cl_OU_beginOf {p : gb_Pi} {g : gb_Sg} {x0 : Nat} {x1 : Int32} {x2 : Int32} {x3 : Int32} {x4 : Int32} : gb_call 35 [.ref x0, .int x1, .int x2, .int x3, .int x4] p g = gb_ex 35 bk_OU_beginOf_0 [.ref x0, .int x1, .int x2, .int x3, .int x4, .null, .null, .null, .null, .null] [] p g := rfl
theorem xc_SC_init {m : Nat} {r : List Instr} {ls st : List Value} {p : gb_Pi} {g : gb_Sg} {x0 : Nat} (h : atag p x0 = 15) (hs : st.length ≤ 4) : gb_ex m (.invokeinterface 36 1 :: r) ls (.ref x0 :: st) p g = (gb_call 36 [.ref x0] p g).bind (fun w => gb_ex m r ls (psh w.1 st) w.2.1 w.2.2) :=
  gb_ex_cl (k := 36) (n := 1) (st' := .ref x0 :: st) (by
    have h1 : 1 ≤ (.ref x0 :: st : List Value).length := by simp
    have h2 : gb_rcv 36 [.ref x0] p = true := by
      show (true && true && true && decide (atag p x0 = 15)) = true
      rw [h]
      rfl
    simp only [gb_stp]
    exact if_pos ⟨h1, hs, h2⟩)
theorem cl_SC_init {p : gb_Pi} {g : gb_Sg} {x0 : Nat} : gb_call 36 [.ref x0] p g = gb_ex 36 bk_SC_init_0 [.ref x0] [] p g := rfl
theorem xc_SC_append {m : Nat} {r : List Instr} {ls st : List Value} {p : gb_Pi} {g : gb_Sg} {x0 : Nat} {x1 : Int32} {x2 : Int64} (h : atag p x0 = 15) (hs : st.length ≤ 4) : gb_ex m (.invokeinterface 37 3 :: r) ls (.long x2 :: .int x1 :: .ref x0 :: st) p g = (gb_call 37 [.ref x0, .int x1, .long x2] p g).bind (fun w => gb_ex m r ls (psh w.1 st) w.2.1 w.2.2) :=
  gb_ex_cl (k := 37) (n := 3) (st' := .long x2 :: .int x1 :: .ref x0 :: st) (by
    have h1 : 3 ≤ (.long x2 :: .int x1 :: .ref x0 :: st : List Value).length := by simp
    have h2 : gb_rcv 37 [.ref x0, .int x1, .long x2] p = true := by
      show (true && true && true && decide (atag p x0 = 15)) = true
      rw [h]
      rfl
    simp only [gb_stp]
    exact if_pos ⟨h1, hs, h2⟩)
theorem cl_SC_append {p : gb_Pi} {g : gb_Sg} {x0 : Nat} {x1 : Int32} {x2 : Int64} : gb_call 37 [.ref x0, .int x1, .long x2] p g = gb_ex 37 bk_SC_append_0 [.ref x0, .int x1, .long x2, .null, .null] [] p g := rfl
theorem xc_SC_hasMore {m : Nat} {r : List Instr} {ls st : List Value} {p : gb_Pi} {g : gb_Sg} {x0 : Nat} (h : atag p x0 = 15) (hs : st.length ≤ 4) : gb_ex m (.invokeinterface 38 1 :: r) ls (.ref x0 :: st) p g = (gb_call 38 [.ref x0] p g).bind (fun w => gb_ex m r ls (psh w.1 st) w.2.1 w.2.2) :=
  gb_ex_cl (k := 38) (n := 1) (st' := .ref x0 :: st) (by
    have h1 : 1 ≤ (.ref x0 :: st : List Value).length := by simp
    have h2 : gb_rcv 38 [.ref x0] p = true := by
      show (true && true && true && decide (atag p x0 = 15)) = true
      rw [h]
      rfl
    simp only [gb_stp]
    exact if_pos ⟨h1, hs, h2⟩)
theorem cl_SC_hasMore {p : gb_Pi} {g : gb_Sg} {x0 : Nat} : gb_call 38 [.ref x0] p g = gb_ex 38 bk_SC_hasMore_0 [.ref x0] [] p g := rfl
theorem xc_SC_peek {m : Nat} {r : List Instr} {ls st : List Value} {p : gb_Pi} {g : gb_Sg} {x0 : Nat} (h : atag p x0 = 15) (hs : st.length ≤ 4) : gb_ex m (.invokeinterface 39 1 :: r) ls (.ref x0 :: st) p g = (gb_call 39 [.ref x0] p g).bind (fun w => gb_ex m r ls (psh w.1 st) w.2.1 w.2.2) :=
  gb_ex_cl (k := 39) (n := 1) (st' := .ref x0 :: st) (by
    have h1 : 1 ≤ (.ref x0 :: st : List Value).length := by simp
    have h2 : gb_rcv 39 [.ref x0] p = true := by
      show (true && true && true && decide (atag p x0 = 15)) = true
      rw [h]
      rfl
    simp only [gb_stp]
    exact if_pos ⟨h1, hs, h2⟩)
theorem cl_SC_peek {p : gb_Pi} {g : gb_Sg} {x0 : Nat} : gb_call 39 [.ref x0] p g = gb_ex 39 bk_SC_peek_0 [.ref x0] [] p g := rfl
theorem xc_SC_takeByte {m : Nat} {r : List Instr} {ls st : List Value} {p : gb_Pi} {g : gb_Sg} {x0 : Nat} (h : atag p x0 = 15) (hs : st.length ≤ 4) : gb_ex m (.invokeinterface 40 1 :: r) ls (.ref x0 :: st) p g = (gb_call 40 [.ref x0] p g).bind (fun w => gb_ex m r ls (psh w.1 st) w.2.1 w.2.2) :=
  gb_ex_cl (k := 40) (n := 1) (st' := .ref x0 :: st) (by
    have h1 : 1 ≤ (.ref x0 :: st : List Value).length := by simp
    have h2 : gb_rcv 40 [.ref x0] p = true := by
      show (true && true && true && decide (atag p x0 = 15)) = true
      rw [h]
      rfl
    simp only [gb_stp]
    exact if_pos ⟨h1, hs, h2⟩)
theorem cl_SC_takeByte {p : gb_Pi} {g : gb_Sg} {x0 : Nat} : gb_call 40 [.ref x0] p g = gb_ex 40 bk_SC_takeByte_0 [.ref x0, .null] [] p g := rfl
theorem xc_SC_take {m : Nat} {r : List Instr} {ls st : List Value} {p : gb_Pi} {g : gb_Sg} {x0 : Nat} {x1 : Int32} (h : atag p x0 = 15) (hs : st.length ≤ 4) : gb_ex m (.invokeinterface 41 2 :: r) ls (.int x1 :: .ref x0 :: st) p g = (gb_call 41 [.ref x0, .int x1] p g).bind (fun w => gb_ex m r ls (psh w.1 st) w.2.1 w.2.2) :=
  gb_ex_cl (k := 41) (n := 2) (st' := .int x1 :: .ref x0 :: st) (by
    have h1 : 2 ≤ (.int x1 :: .ref x0 :: st : List Value).length := by simp
    have h2 : gb_rcv 41 [.ref x0, .int x1] p = true := by
      show (true && true && true && decide (atag p x0 = 15)) = true
      rw [h]
      rfl
    simp only [gb_stp]
    exact if_pos ⟨h1, hs, h2⟩)
theorem cl_SC_take {p : gb_Pi} {g : gb_Sg} {x0 : Nat} {x1 : Int32} : gb_call 41 [.ref x0, .int x1] p g = gb_ex 41 bk_SC_take_0 [.ref x0, .int x1] [] p g := rfl
theorem xc_SC_takeNumber {m : Nat} {r : List Instr} {ls st : List Value} {p : gb_Pi} {g : gb_Sg} {x0 : Nat} {x1 : Int32} (h : atag p x0 = 15) (hs : st.length ≤ 4) : gb_ex m (.invokeinterface 42 2 :: r) ls (.int x1 :: .ref x0 :: st) p g = (gb_call 42 [.ref x0, .int x1] p g).bind (fun w => gb_ex m r ls (psh w.1 st) w.2.1 w.2.2) :=
  gb_ex_cl (k := 42) (n := 2) (st' := .int x1 :: .ref x0 :: st) (by
    have h1 : 2 ≤ (.int x1 :: .ref x0 :: st : List Value).length := by simp
    have h2 : gb_rcv 42 [.ref x0, .int x1] p = true := by
      show (true && true && true && decide (atag p x0 = 15)) = true
      rw [h]
      rfl
    simp only [gb_stp]
    exact if_pos ⟨h1, hs, h2⟩)
theorem cl_SC_takeNumber {p : gb_Pi} {g : gb_Sg} {x0 : Nat} {x1 : Int32} : gb_call 42 [.ref x0, .int x1] p g = gb_ex 42 bk_SC_takeNumber_0 [.ref x0, .int x1, .null, .null, .null] [] p g := rfl
theorem xc_SH_init {m : Nat} {r : List Instr} {ls st : List Value} {p : gb_Pi} {g : gb_Sg} {x0 : Nat} (h : atag p x0 = 16) (hs : st.length ≤ 4) : gb_ex m (.invokeinterface 43 1 :: r) ls (.ref x0 :: st) p g = (gb_call 43 [.ref x0] p g).bind (fun w => gb_ex m r ls (psh w.1 st) w.2.1 w.2.2) :=
  gb_ex_cl (k := 43) (n := 1) (st' := .ref x0 :: st) (by
    have h1 : 1 ≤ (.ref x0 :: st : List Value).length := by simp
    have h2 : gb_rcv 43 [.ref x0] p = true := by
      show (true && true && true && decide (atag p x0 = 16)) = true
      rw [h]
      rfl
    simp only [gb_stp]
    exact if_pos ⟨h1, hs, h2⟩)
theorem cl_SH_init {p : gb_Pi} {g : gb_Sg} {x0 : Nat} : gb_call 43 [.ref x0] p g = gb_ex 43 bk_SH_init_0 [.ref x0] [] p g := rfl
theorem xc_SH_clear {m : Nat} {r : List Instr} {ls st : List Value} {p : gb_Pi} {g : gb_Sg} {x0 : Nat} (h : atag p x0 = 16) (hs : st.length ≤ 4) : gb_ex m (.invokeinterface 44 1 :: r) ls (.ref x0 :: st) p g = (gb_call 44 [.ref x0] p g).bind (fun w => gb_ex m r ls (psh w.1 st) w.2.1 w.2.2) :=
  gb_ex_cl (k := 44) (n := 1) (st' := .ref x0 :: st) (by
    have h1 : 1 ≤ (.ref x0 :: st : List Value).length := by simp
    have h2 : gb_rcv 44 [.ref x0] p = true := by
      show (true && true && true && decide (atag p x0 = 16)) = true
      rw [h]
      rfl
    simp only [gb_stp]
    exact if_pos ⟨h1, hs, h2⟩)
theorem cl_SH_clear {p : gb_Pi} {g : gb_Sg} {x0 : Nat} : gb_call 44 [.ref x0] p g = gb_ex 44 bk_SH_clear_0 [.ref x0] [] p g := rfl
theorem xc_SH_addKept {m : Nat} {r : List Instr} {ls st : List Value} {p : gb_Pi} {g : gb_Sg} {x0 : Nat} (h : atag p x0 = 16) (hs : st.length ≤ 4) : gb_ex m (.invokeinterface 45 1 :: r) ls (.ref x0 :: st) p g = (gb_call 45 [.ref x0] p g).bind (fun w => gb_ex m r ls (psh w.1 st) w.2.1 w.2.2) :=
  gb_ex_cl (k := 45) (n := 1) (st' := .ref x0 :: st) (by
    have h1 : 1 ≤ (.ref x0 :: st : List Value).length := by simp
    have h2 : gb_rcv 45 [.ref x0] p = true := by
      show (true && true && true && decide (atag p x0 = 16)) = true
      rw [h]
      rfl
    simp only [gb_stp]
    exact if_pos ⟨h1, hs, h2⟩)
theorem cl_SH_addKept {p : gb_Pi} {g : gb_Sg} {x0 : Nat} : gb_call 45 [.ref x0] p g = gb_ex 45 bk_SH_addKept_0 [.ref x0] [] p g := rfl
theorem xc_SH_goBack {m : Nat} {r : List Instr} {ls st : List Value} {p : gb_Pi} {g : gb_Sg} {x0 : Nat} (h : atag p x0 = 16) (hs : st.length ≤ 4) : gb_ex m (.invokeinterface 46 1 :: r) ls (.ref x0 :: st) p g = (gb_call 46 [.ref x0] p g).bind (fun w => gb_ex m r ls (psh w.1 st) w.2.1 w.2.2) :=
  gb_ex_cl (k := 46) (n := 1) (st' := .ref x0 :: st) (by
    have h1 : 1 ≤ (.ref x0 :: st : List Value).length := by simp
    have h2 : gb_rcv 46 [.ref x0] p = true := by
      show (true && true && true && decide (atag p x0 = 16)) = true
      rw [h]
      rfl
    simp only [gb_stp]
    exact if_pos ⟨h1, hs, h2⟩)
theorem cl_SH_goBack {p : gb_Pi} {g : gb_Sg} {x0 : Nat} : gb_call 46 [.ref x0] p g = gb_ex 46 bk_SH_goBack_0 [.ref x0] [] p g := rfl
theorem xc_SH_addFind {m : Nat} {r : List Instr} {ls st : List Value} {p : gb_Pi} {g : gb_Sg} {x0 : Nat} {x1 : Int32} {x2 : Int32} {x3 : Int32} (h : atag p x0 = 16) (hs : st.length ≤ 4) : gb_ex m (.invokeinterface 47 4 :: r) ls (.int x3 :: .int x2 :: .int x1 :: .ref x0 :: st) p g = (gb_call 47 [.ref x0, .int x1, .int x2, .int x3] p g).bind (fun w => gb_ex m r ls (psh w.1 st) w.2.1 w.2.2) :=
  gb_ex_cl (k := 47) (n := 4) (st' := .int x3 :: .int x2 :: .int x1 :: .ref x0 :: st) (by
    have h1 : 4 ≤ (.int x3 :: .int x2 :: .int x1 :: .ref x0 :: st : List Value).length := by simp
    have h2 : gb_rcv 47 [.ref x0, .int x1, .int x2, .int x3] p = true := by
      show (true && true && true && decide (atag p x0 = 16)) = true
      rw [h]
      rfl
    simp only [gb_stp]
    exact if_pos ⟨h1, hs, h2⟩)
theorem cl_SH_addFind {p : gb_Pi} {g : gb_Sg} {x0 : Nat} {x1 : Int32} {x2 : Int32} {x3 : Int32} : gb_call 47 [.ref x0, .int x1, .int x2, .int x3] p g = gb_ex 47 bk_SH_addFind_0 [.ref x0, .int x1, .int x2, .int x3] [] p g := rfl
theorem xc_SH_addReport {m : Nat} {r : List Instr} {ls st : List Value} {p : gb_Pi} {g : gb_Sg} {x0 : Nat} {x1 : Int32} {x2 : Int32} {x3 : Int32} {x4 : Int32} {x5 : Int32} (h : atag p x0 = 16) (hs : st.length ≤ 4) : gb_ex m (.invokeinterface 48 6 :: r) ls (.int x5 :: .int x4 :: .int x3 :: .int x2 :: .int x1 :: .ref x0 :: st) p g = (gb_call 48 [.ref x0, .int x1, .int x2, .int x3, .int x4, .int x5] p g).bind (fun w => gb_ex m r ls (psh w.1 st) w.2.1 w.2.2) :=
  gb_ex_cl (k := 48) (n := 6) (st' := .int x5 :: .int x4 :: .int x3 :: .int x2 :: .int x1 :: .ref x0 :: st) (by
    have h1 : 6 ≤ (.int x5 :: .int x4 :: .int x3 :: .int x2 :: .int x1 :: .ref x0 :: st : List Value).length := by simp
    have h2 : gb_rcv 48 [.ref x0, .int x1, .int x2, .int x3, .int x4, .int x5] p = true := by
      show (true && true && true && decide (atag p x0 = 16)) = true
      rw [h]
      rfl
    simp only [gb_stp]
    exact if_pos ⟨h1, hs, h2⟩)
theorem cl_SH_addReport {p : gb_Pi} {g : gb_Sg} {x0 : Nat} {x1 : Int32} {x2 : Int32} {x3 : Int32} {x4 : Int32} {x5 : Int32} : gb_call 48 [.ref x0, .int x1, .int x2, .int x3, .int x4, .int x5] p g = gb_ex 48 bk_SH_addReport_0 [.ref x0, .int x1, .int x2, .int x3, .int x4, .int x5] [] p g := rfl
theorem xc_SH_sawBy {m : Nat} {r : List Instr} {ls st : List Value} {p : gb_Pi} {g : gb_Sg} {x0 : Nat} {x1 : Int32} {x2 : Int32} {x3 : Int32} (h : atag p x0 = 16) (hs : st.length ≤ 4) : gb_ex m (.invokeinterface 49 4 :: r) ls (.int x3 :: .int x2 :: .int x1 :: .ref x0 :: st) p g = (gb_call 49 [.ref x0, .int x1, .int x2, .int x3] p g).bind (fun w => gb_ex m r ls (psh w.1 st) w.2.1 w.2.2) :=
  gb_ex_cl (k := 49) (n := 4) (st' := .int x3 :: .int x2 :: .int x1 :: .ref x0 :: st) (by
    have h1 : 4 ≤ (.int x3 :: .int x2 :: .int x1 :: .ref x0 :: st : List Value).length := by simp
    have h2 : gb_rcv 49 [.ref x0, .int x1, .int x2, .int x3] p = true := by
      show (true && true && true && decide (atag p x0 = 16)) = true
      rw [h]
      rfl
    simp only [gb_stp]
    exact if_pos ⟨h1, hs, h2⟩)
theorem cl_SH_sawBy {p : gb_Pi} {g : gb_Sg} {x0 : Nat} {x1 : Int32} {x2 : Int32} {x3 : Int32} : gb_call 49 [.ref x0, .int x1, .int x2, .int x3] p g = gb_ex 49 bk_SH_sawBy_0 [.ref x0, .int x1, .int x2, .int x3, .null] [] p g := rfl
theorem xc_SH_sawNoneFrom {m : Nat} {r : List Instr} {ls st : List Value} {p : gb_Pi} {g : gb_Sg} {x0 : Nat} {x1 : Int32} {x2 : Int32} {x3 : Int32} {x4 : Int32} (h : atag p x0 = 16) (hs : st.length ≤ 4) : gb_ex m (.invokeinterface 50 5 :: r) ls (.int x4 :: .int x3 :: .int x2 :: .int x1 :: .ref x0 :: st) p g = (gb_call 50 [.ref x0, .int x1, .int x2, .int x3, .int x4] p g).bind (fun w => gb_ex m r ls (psh w.1 st) w.2.1 w.2.2) :=
  gb_ex_cl (k := 50) (n := 5) (st' := .int x4 :: .int x3 :: .int x2 :: .int x1 :: .ref x0 :: st) (by
    have h1 : 5 ≤ (.int x4 :: .int x3 :: .int x2 :: .int x1 :: .ref x0 :: st : List Value).length := by simp
    have h2 : gb_rcv 50 [.ref x0, .int x1, .int x2, .int x3, .int x4] p = true := by
      show (true && true && true && decide (atag p x0 = 16)) = true
      rw [h]
      rfl
    simp only [gb_stp]
    exact if_pos ⟨h1, hs, h2⟩)
theorem cl_SH_sawNoneFrom {p : gb_Pi} {g : gb_Sg} {x0 : Nat} {x1 : Int32} {x2 : Int32} {x3 : Int32} {x4 : Int32} : gb_call 50 [.ref x0, .int x1, .int x2, .int x3, .int x4] p g = gb_ex 50 bk_SH_sawNoneFrom_0 [.ref x0, .int x1, .int x2, .int x3, .int x4, .null] [] p g := rfl
theorem xc_SH_hasNumber {m : Nat} {r : List Instr} {ls st : List Value} {p : gb_Pi} {g : gb_Sg} {x0 : Nat} {x1 : Int32} (h : atag p x0 = 16) (hs : st.length ≤ 4) : gb_ex m (.invokeinterface 51 2 :: r) ls (.int x1 :: .ref x0 :: st) p g = (gb_call 51 [.ref x0, .int x1] p g).bind (fun w => gb_ex m r ls (psh w.1 st) w.2.1 w.2.2) :=
  gb_ex_cl (k := 51) (n := 2) (st' := .int x1 :: .ref x0 :: st) (by
    have h1 : 2 ≤ (.int x1 :: .ref x0 :: st : List Value).length := by simp
    have h2 : gb_rcv 51 [.ref x0, .int x1] p = true := by
      show (true && true && true && decide (atag p x0 = 16)) = true
      rw [h]
      rfl
    simp only [gb_stp]
    exact if_pos ⟨h1, hs, h2⟩)
theorem cl_SH_hasNumber {p : gb_Pi} {g : gb_Sg} {x0 : Nat} {x1 : Int32} : gb_call 51 [.ref x0, .int x1] p g = gb_ex 51 bk_SH_hasNumber_0 [.ref x0, .int x1, .null] [] p g := rfl
theorem xc_SH_addNumber {m : Nat} {r : List Instr} {ls st : List Value} {p : gb_Pi} {g : gb_Sg} {x0 : Nat} {x1 : Int32} (h : atag p x0 = 16) (hs : st.length ≤ 4) : gb_ex m (.invokeinterface 52 2 :: r) ls (.int x1 :: .ref x0 :: st) p g = (gb_call 52 [.ref x0, .int x1] p g).bind (fun w => gb_ex m r ls (psh w.1 st) w.2.1 w.2.2) :=
  gb_ex_cl (k := 52) (n := 2) (st' := .int x1 :: .ref x0 :: st) (by
    have h1 : 2 ≤ (.int x1 :: .ref x0 :: st : List Value).length := by simp
    have h2 : gb_rcv 52 [.ref x0, .int x1] p = true := by
      show (true && true && true && decide (atag p x0 = 16)) = true
      rw [h]
      rfl
    simp only [gb_stp]
    exact if_pos ⟨h1, hs, h2⟩)
theorem cl_SH_addNumber {p : gb_Pi} {g : gb_Sg} {x0 : Nat} {x1 : Int32} : gb_call 52 [.ref x0, .int x1] p g = gb_ex 52 bk_SH_addNumber_0 [.ref x0, .int x1] [] p g := rfl
theorem xc_SH_greatestNumber {m : Nat} {r : List Instr} {ls st : List Value} {p : gb_Pi} {g : gb_Sg} {x0 : Nat} (h : atag p x0 = 16) (hs : st.length ≤ 4) : gb_ex m (.invokeinterface 53 1 :: r) ls (.ref x0 :: st) p g = (gb_call 53 [.ref x0] p g).bind (fun w => gb_ex m r ls (psh w.1 st) w.2.1 w.2.2) :=
  gb_ex_cl (k := 53) (n := 1) (st' := .ref x0 :: st) (by
    have h1 : 1 ≤ (.ref x0 :: st : List Value).length := by simp
    have h2 : gb_rcv 53 [.ref x0] p = true := by
      show (true && true && true && decide (atag p x0 = 16)) = true
      rw [h]
      rfl
    simp only [gb_stp]
    exact if_pos ⟨h1, hs, h2⟩)
theorem cl_SH_greatestNumber {p : gb_Pi} {g : gb_Sg} {x0 : Nat} : gb_call 53 [.ref x0] p g = gb_ex 53 bk_SH_greatestNumber_0 [.ref x0, .null, .null] [] p g := rfl
theorem xc_SU_init {m : Nat} {r : List Instr} {ls st : List Value} {p : gb_Pi} {g : gb_Sg} {x0 : Nat} (h : atag p x0 = 17) (hs : st.length ≤ 4) : gb_ex m (.invokeinterface 54 1 :: r) ls (.ref x0 :: st) p g = (gb_call 54 [.ref x0] p g).bind (fun w => gb_ex m r ls (psh w.1 st) w.2.1 w.2.2) :=
  gb_ex_cl (k := 54) (n := 1) (st' := .ref x0 :: st) (by
    have h1 : 1 ≤ (.ref x0 :: st : List Value).length := by simp
    have h2 : gb_rcv 54 [.ref x0] p = true := by
      show (true && true && true && decide (atag p x0 = 17)) = true
      rw [h]
      rfl
    simp only [gb_stp]
    exact if_pos ⟨h1, hs, h2⟩)
theorem cl_SU_init {p : gb_Pi} {g : gb_Sg} {x0 : Nat} : gb_call 54 [.ref x0] p g = gb_ex 54 bk_SU_init_0 [.ref x0, .null] [] p g := rfl
theorem xc_SU_setShown {m : Nat} {r : List Instr} {ls st : List Value} {p : gb_Pi} {g : gb_Sg} {x0 : Nat} {x1 : Int32} {x2 : Int32} {x3 : Int32} (h : atag p x0 = 17) (hs : st.length ≤ 4) : gb_ex m (.invokeinterface 55 4 :: r) ls (.int x3 :: .int x2 :: .int x1 :: .ref x0 :: st) p g = (gb_call 55 [.ref x0, .int x1, .int x2, .int x3] p g).bind (fun w => gb_ex m r ls (psh w.1 st) w.2.1 w.2.2) :=
  gb_ex_cl (k := 55) (n := 4) (st' := .int x3 :: .int x2 :: .int x1 :: .ref x0 :: st) (by
    have h1 : 4 ≤ (.int x3 :: .int x2 :: .int x1 :: .ref x0 :: st : List Value).length := by simp
    have h2 : gb_rcv 55 [.ref x0, .int x1, .int x2, .int x3] p = true := by
      show (true && true && true && decide (atag p x0 = 17)) = true
      rw [h]
      rfl
    simp only [gb_stp]
    exact if_pos ⟨h1, hs, h2⟩)
theorem cl_SU_setShown {p : gb_Pi} {g : gb_Sg} {x0 : Nat} {x1 : Int32} {x2 : Int32} {x3 : Int32} : gb_call 55 [.ref x0, .int x1, .int x2, .int x3] p g = gb_ex 55 bk_SU_setShown_0 [.ref x0, .int x1, .int x2, .int x3, .null] [] p g := rfl
theorem xc_SU_part {m : Nat} {r : List Instr} {ls st : List Value} {p : gb_Pi} {g : gb_Sg} {x0 : Nat} {x1 : Int32} {x2 : Int32} {x3 : Int32} (h : atag p x0 = 17) (hs : st.length ≤ 4) : gb_ex m (.invokeinterface 56 4 :: r) ls (.int x3 :: .int x2 :: .int x1 :: .ref x0 :: st) p g = (gb_call 56 [.ref x0, .int x1, .int x2, .int x3] p g).bind (fun w => gb_ex m r ls (psh w.1 st) w.2.1 w.2.2) :=
  gb_ex_cl (k := 56) (n := 4) (st' := .int x3 :: .int x2 :: .int x1 :: .ref x0 :: st) (by
    have h1 : 4 ≤ (.int x3 :: .int x2 :: .int x1 :: .ref x0 :: st : List Value).length := by simp
    have h2 : gb_rcv 56 [.ref x0, .int x1, .int x2, .int x3] p = true := by
      show (true && true && true && decide (atag p x0 = 17)) = true
      rw [h]
      rfl
    simp only [gb_stp]
    exact if_pos ⟨h1, hs, h2⟩)
theorem cl_SU_part {p : gb_Pi} {g : gb_Sg} {x0 : Nat} {x1 : Int32} {x2 : Int32} {x3 : Int32} : gb_call 56 [.ref x0, .int x1, .int x2, .int x3] p g = gb_ex 56 bk_SU_part_0 [.ref x0, .int x1, .int x2, .int x3] [] p g := rfl
theorem xc_SU_solve {m : Nat} {r : List Instr} {ls st : List Value} {p : gb_Pi} {g : gb_Sg} {x0 : Nat} {x1 : Int32} (h : atag p x0 = 17) (hs : st.length ≤ 4) : gb_ex m (.invokeinterface 57 2 :: r) ls (.int x1 :: .ref x0 :: st) p g = (gb_call 57 [.ref x0, .int x1] p g).bind (fun w => gb_ex m r ls (psh w.1 st) w.2.1 w.2.2) :=
  gb_ex_cl (k := 57) (n := 2) (st' := .int x1 :: .ref x0 :: st) (by
    have h1 : 2 ≤ (.int x1 :: .ref x0 :: st : List Value).length := by simp
    have h2 : gb_rcv 57 [.ref x0, .int x1] p = true := by
      show (true && true && true && decide (atag p x0 = 17)) = true
      rw [h]
      rfl
    simp only [gb_stp]
    exact if_pos ⟨h1, hs, h2⟩)
theorem cl_SU_solve {p : gb_Pi} {g : gb_Sg} {x0 : Nat} {x1 : Int32} : gb_call 57 [.ref x0, .int x1] p g = gb_ex 57 bk_SU_solve_0 [.ref x0, .int x1, .null] [] p g := rfl
theorem xc_SU_leastCost {m : Nat} {r : List Instr} {ls st : List Value} {p : gb_Pi} {g : gb_Sg} {x0 : Nat} {x1 : Int32} (h : atag p x0 = 17) (hs : st.length ≤ 4) : gb_ex m (.invokeinterface 58 2 :: r) ls (.int x1 :: .ref x0 :: st) p g = (gb_call 58 [.ref x0, .int x1] p g).bind (fun w => gb_ex m r ls (psh w.1 st) w.2.1 w.2.2) :=
  gb_ex_cl (k := 58) (n := 2) (st' := .int x1 :: .ref x0 :: st) (by
    have h1 : 2 ≤ (.int x1 :: .ref x0 :: st : List Value).length := by simp
    have h2 : gb_rcv 58 [.ref x0, .int x1] p = true := by
      show (true && true && true && decide (atag p x0 = 17)) = true
      rw [h]
      rfl
    simp only [gb_stp]
    exact if_pos ⟨h1, hs, h2⟩)
theorem cl_SU_leastCost {p : gb_Pi} {g : gb_Sg} {x0 : Nat} {x1 : Int32} : gb_call 58 [.ref x0, .int x1] p g = gb_ex 58 bk_SU_leastCost_0 [.ref x0, .int x1, .null, .null] [] p g := rfl
theorem xc_SU_costThrough {m : Nat} {r : List Instr} {ls st : List Value} {p : gb_Pi} {g : gb_Sg} {x0 : Nat} {x1 : Int32} {x2 : Int32} (h : atag p x0 = 17) (hs : st.length ≤ 4) : gb_ex m (.invokeinterface 59 3 :: r) ls (.int x2 :: .int x1 :: .ref x0 :: st) p g = (gb_call 59 [.ref x0, .int x1, .int x2] p g).bind (fun w => gb_ex m r ls (psh w.1 st) w.2.1 w.2.2) :=
  gb_ex_cl (k := 59) (n := 3) (st' := .int x2 :: .int x1 :: .ref x0 :: st) (by
    have h1 : 3 ≤ (.int x2 :: .int x1 :: .ref x0 :: st : List Value).length := by simp
    have h2 : gb_rcv 59 [.ref x0, .int x1, .int x2] p = true := by
      show (true && true && true && decide (atag p x0 = 17)) = true
      rw [h]
      rfl
    simp only [gb_stp]
    exact if_pos ⟨h1, hs, h2⟩)
theorem cl_SU_costThrough {p : gb_Pi} {g : gb_Sg} {x0 : Nat} {x1 : Int32} {x2 : Int32} : gb_call 59 [.ref x0, .int x1, .int x2] p g = gb_ex 59 bk_SU_costThrough_0 [.ref x0, .int x1, .int x2, .null, .null, .null] [] p g := rfl
theorem xc_SU_firstTest {m : Nat} {r : List Instr} {ls st : List Value} {p : gb_Pi} {g : gb_Sg} {x0 : Nat} {x1 : Int32} (h : atag p x0 = 17) (hs : st.length ≤ 4) : gb_ex m (.invokeinterface 60 2 :: r) ls (.int x1 :: .ref x0 :: st) p g = (gb_call 60 [.ref x0, .int x1] p g).bind (fun w => gb_ex m r ls (psh w.1 st) w.2.1 w.2.2) :=
  gb_ex_cl (k := 60) (n := 2) (st' := .int x1 :: .ref x0 :: st) (by
    have h1 : 2 ≤ (.int x1 :: .ref x0 :: st : List Value).length := by simp
    have h2 : gb_rcv 60 [.ref x0, .int x1] p = true := by
      show (true && true && true && decide (atag p x0 = 17)) = true
      rw [h]
      rfl
    simp only [gb_stp]
    exact if_pos ⟨h1, hs, h2⟩)
theorem cl_SU_firstTest {p : gb_Pi} {g : gb_Sg} {x0 : Nat} {x1 : Int32} : gb_call 60 [.ref x0, .int x1] p g = gb_ex 60 bk_SU_firstTest_0 [.ref x0, .int x1, .null] [] p g := rfl
theorem xc_WE_init {m : Nat} {r : List Instr} {ls st : List Value} {p : gb_Pi} {g : gb_Sg} {x0 : Nat} (h : atag p x0 = 18) (hs : st.length ≤ 4) : gb_ex m (.invokeinterface 61 1 :: r) ls (.ref x0 :: st) p g = (gb_call 61 [.ref x0] p g).bind (fun w => gb_ex m r ls (psh w.1 st) w.2.1 w.2.2) :=
  gb_ex_cl (k := 61) (n := 1) (st' := .ref x0 :: st) (by
    have h1 : 1 ≤ (.ref x0 :: st : List Value).length := by simp
    have h2 : gb_rcv 61 [.ref x0] p = true := by
      show (true && true && true && decide (atag p x0 = 18)) = true
      rw [h]
      rfl
    simp only [gb_stp]
    exact if_pos ⟨h1, hs, h2⟩)
theorem cl_WE_init {p : gb_Pi} {g : gb_Sg} {x0 : Nat} : gb_call 61 [.ref x0] p g = gb_ex 61 bk_WE_init_0 [.ref x0] [] p g := rfl
theorem xc_WE_clear {m : Nat} {r : List Instr} {ls st : List Value} {p : gb_Pi} {g : gb_Sg} {x0 : Nat} (h : atag p x0 = 18) (hs : st.length ≤ 4) : gb_ex m (.invokeinterface 62 1 :: r) ls (.ref x0 :: st) p g = (gb_call 62 [.ref x0] p g).bind (fun w => gb_ex m r ls (psh w.1 st) w.2.1 w.2.2) :=
  gb_ex_cl (k := 62) (n := 1) (st' := .ref x0 :: st) (by
    have h1 : 1 ≤ (.ref x0 :: st : List Value).length := by simp
    have h2 : gb_rcv 62 [.ref x0] p = true := by
      show (true && true && true && decide (atag p x0 = 18)) = true
      rw [h]
      rfl
    simp only [gb_stp]
    exact if_pos ⟨h1, hs, h2⟩)
theorem cl_WE_clear {p : gb_Pi} {g : gb_Sg} {x0 : Nat} : gb_call 62 [.ref x0] p g = gb_ex 62 bk_WE_clear_0 [.ref x0] [] p g := rfl
theorem xc_WE_addTide {m : Nat} {r : List Instr} {ls st : List Value} {p : gb_Pi} {g : gb_Sg} {x0 : Nat} {x1 : Int32} {x2 : Int32} (h : atag p x0 = 18) (hs : st.length ≤ 4) : gb_ex m (.invokeinterface 63 3 :: r) ls (.int x2 :: .int x1 :: .ref x0 :: st) p g = (gb_call 63 [.ref x0, .int x1, .int x2] p g).bind (fun w => gb_ex m r ls (psh w.1 st) w.2.1 w.2.2) :=
  gb_ex_cl (k := 63) (n := 3) (st' := .int x2 :: .int x1 :: .ref x0 :: st) (by
    have h1 : 3 ≤ (.int x2 :: .int x1 :: .ref x0 :: st : List Value).length := by simp
    have h2 : gb_rcv 63 [.ref x0, .int x1, .int x2] p = true := by
      show (true && true && true && decide (atag p x0 = 18)) = true
      rw [h]
      rfl
    simp only [gb_stp]
    exact if_pos ⟨h1, hs, h2⟩)
theorem cl_WE_addTide {p : gb_Pi} {g : gb_Sg} {x0 : Nat} {x1 : Int32} {x2 : Int32} : gb_call 63 [.ref x0, .int x1, .int x2] p g = gb_ex 63 bk_WE_addTide_0 [.ref x0, .int x1, .int x2] [] p g := rfl
theorem xc_WE_addWind {m : Nat} {r : List Instr} {ls st : List Value} {p : gb_Pi} {g : gb_Sg} {x0 : Nat} {x1 : Int32} {x2 : Int32} {x3 : Int32} (h : atag p x0 = 18) (hs : st.length ≤ 4) : gb_ex m (.invokeinterface 64 4 :: r) ls (.int x3 :: .int x2 :: .int x1 :: .ref x0 :: st) p g = (gb_call 64 [.ref x0, .int x1, .int x2, .int x3] p g).bind (fun w => gb_ex m r ls (psh w.1 st) w.2.1 w.2.2) :=
  gb_ex_cl (k := 64) (n := 4) (st' := .int x3 :: .int x2 :: .int x1 :: .ref x0 :: st) (by
    have h1 : 4 ≤ (.int x3 :: .int x2 :: .int x1 :: .ref x0 :: st : List Value).length := by simp
    have h2 : gb_rcv 64 [.ref x0, .int x1, .int x2, .int x3] p = true := by
      show (true && true && true && decide (atag p x0 = 18)) = true
      rw [h]
      rfl
    simp only [gb_stp]
    exact if_pos ⟨h1, hs, h2⟩)
theorem cl_WE_addWind {p : gb_Pi} {g : gb_Sg} {x0 : Nat} {x1 : Int32} {x2 : Int32} {x3 : Int32} : gb_call 64 [.ref x0, .int x1, .int x2, .int x3] p g = gb_ex 64 bk_WE_addWind_0 [.ref x0, .int x1, .int x2, .int x3, .null] [] p g := rfl
theorem xc_WE_makeRoom {m : Nat} {r : List Instr} {ls st : List Value} {p : gb_Pi} {g : gb_Sg} {x0 : Nat} {x1 : Int32} (h : atag p x0 = 18) (hs : st.length ≤ 4) : gb_ex m (.invokeinterface 65 2 :: r) ls (.int x1 :: .ref x0 :: st) p g = (gb_call 65 [.ref x0, .int x1] p g).bind (fun w => gb_ex m r ls (psh w.1 st) w.2.1 w.2.2) :=
  gb_ex_cl (k := 65) (n := 2) (st' := .int x1 :: .ref x0 :: st) (by
    have h1 : 2 ≤ (.int x1 :: .ref x0 :: st : List Value).length := by simp
    have h2 : gb_rcv 65 [.ref x0, .int x1] p = true := by
      show (true && true && true && decide (atag p x0 = 18)) = true
      rw [h]
      rfl
    simp only [gb_stp]
    exact if_pos ⟨h1, hs, h2⟩)
theorem cl_WE_makeRoom {p : gb_Pi} {g : gb_Sg} {x0 : Nat} {x1 : Int32} : gb_call 65 [.ref x0, .int x1] p g = gb_ex 65 bk_WE_makeRoom_0 [.ref x0, .int x1, .null] [] p g := rfl
theorem xc_GB_init {m : Nat} {r : List Instr} {ls st : List Value} {p : gb_Pi} {g : gb_Sg} {x0 : Nat} (h : atag p x0 = 19) (hs : st.length ≤ 4) : gb_ex m (.invokeinterface 66 1 :: r) ls (.ref x0 :: st) p g = (gb_call 66 [.ref x0] p g).bind (fun w => gb_ex m r ls (psh w.1 st) w.2.1 w.2.2) :=
  gb_ex_cl (k := 66) (n := 1) (st' := .ref x0 :: st) (by
    have h1 : 1 ≤ (.ref x0 :: st : List Value).length := by simp
    have h2 : gb_rcv 66 [.ref x0] p = true := by
      show (true && true && true && decide (atag p x0 = 19)) = true
      rw [h]
      rfl
    simp only [gb_stp]
    exact if_pos ⟨h1, hs, h2⟩)
theorem cl_GB_init {p : gb_Pi} {g : gb_Sg} {x0 : Nat} : gb_call 66 [.ref x0] p g = gb_ex 66 bk_GB_init_0 [.ref x0] [] p g := rfl
theorem xc_GB_write {m : Nat} {r : List Instr} {ls st : List Value} {p : gb_Pi} {g : gb_Sg} {x0 : Nat} {x1 : Int32} {x2 : Int64} (h : atag p x0 = 19) (hs : st.length ≤ 4) : gb_ex m (.invokeinterface 67 3 :: r) ls (.long x2 :: .int x1 :: .ref x0 :: st) p g = (gb_call 67 [.ref x0, .int x1, .long x2] p g).bind (fun w => gb_ex m r ls (psh w.1 st) w.2.1 w.2.2) :=
  gb_ex_cl (k := 67) (n := 3) (st' := .long x2 :: .int x1 :: .ref x0 :: st) (by
    have h1 : 3 ≤ (.long x2 :: .int x1 :: .ref x0 :: st : List Value).length := by simp
    have h2 : gb_rcv 67 [.ref x0, .int x1, .long x2] p = true := by
      show (true && true && true && decide (atag p x0 = 19)) = true
      rw [h]
      rfl
    simp only [gb_stp]
    exact if_pos ⟨h1, hs, h2⟩)
theorem cl_GB_write {p : gb_Pi} {g : gb_Sg} {x0 : Nat} {x1 : Int32} {x2 : Int64} : gb_call 67 [.ref x0, .int x1, .long x2] p g = gb_ex 67 bk_GB_write_0 [.ref x0, .int x1, .long x2, .null] [] p g := rfl
theorem xc_GB_wipe {m : Nat} {r : List Instr} {ls st : List Value} {p : gb_Pi} {g : gb_Sg} {x0 : Nat} (h : atag p x0 = 19) (hs : st.length ≤ 4) : gb_ex m (.invokeinterface 68 1 :: r) ls (.ref x0 :: st) p g = (gb_call 68 [.ref x0] p g).bind (fun w => gb_ex m r ls (psh w.1 st) w.2.1 w.2.2) :=
  gb_ex_cl (k := 68) (n := 1) (st' := .ref x0 :: st) (by
    have h1 : 1 ≤ (.ref x0 :: st : List Value).length := by simp
    have h2 : gb_rcv 68 [.ref x0] p = true := by
      show (true && true && true && decide (atag p x0 = 19)) = true
      rw [h]
      rfl
    simp only [gb_stp]
    exact if_pos ⟨h1, hs, h2⟩)
theorem cl_GB_wipe {p : gb_Pi} {g : gb_Sg} {x0 : Nat} : gb_call 68 [.ref x0] p g = gb_ex 68 bk_GB_wipe_0 [.ref x0, .null] [] p g := rfl
theorem xc_GB_fault {m : Nat} {r : List Instr} {ls st : List Value} {p : gb_Pi} {g : gb_Sg} {x0 : Nat} {x1 : Int32} (h : atag p x0 = 19) (hs : st.length ≤ 4) : gb_ex m (.invokeinterface 69 2 :: r) ls (.int x1 :: .ref x0 :: st) p g = (gb_call 69 [.ref x0, .int x1] p g).bind (fun w => gb_ex m r ls (psh w.1 st) w.2.1 w.2.2) :=
  gb_ex_cl (k := 69) (n := 2) (st' := .int x1 :: .ref x0 :: st) (by
    have h1 : 2 ≤ (.int x1 :: .ref x0 :: st : List Value).length := by simp
    have h2 : gb_rcv 69 [.ref x0, .int x1] p = true := by
      show (true && true && true && decide (atag p x0 = 19)) = true
      rw [h]
      rfl
    simp only [gb_stp]
    exact if_pos ⟨h1, hs, h2⟩)
theorem cl_GB_fault {p : gb_Pi} {g : gb_Sg} {x0 : Nat} {x1 : Int32} : gb_call 69 [.ref x0, .int x1] p g = gb_ex 69 bk_GB_fault_0 [.ref x0, .int x1] [] p g := rfl
theorem xc_GB_lay {m : Nat} {r : List Instr} {ls st : List Value} {p : gb_Pi} {g : gb_Sg} {x0 : Nat} {x1 : Int32} (h : atag p x0 = 19) (hs : st.length ≤ 4) : gb_ex m (.invokeinterface 70 2 :: r) ls (.int x1 :: .ref x0 :: st) p g = (gb_call 70 [.ref x0, .int x1] p g).bind (fun w => gb_ex m r ls (psh w.1 st) w.2.1 w.2.2) :=
  gb_ex_cl (k := 70) (n := 2) (st' := .int x1 :: .ref x0 :: st) (by
    have h1 : 2 ≤ (.int x1 :: .ref x0 :: st : List Value).length := by simp
    have h2 : gb_rcv 70 [.ref x0, .int x1] p = true := by
      show (true && true && true && decide (atag p x0 = 19)) = true
      rw [h]
      rfl
    simp only [gb_stp]
    exact if_pos ⟨h1, hs, h2⟩)
theorem cl_GB_lay {p : gb_Pi} {g : gb_Sg} {x0 : Nat} {x1 : Int32} : gb_call 70 [.ref x0, .int x1] p g = gb_ex 70 bk_GB_lay_0 [.ref x0, .int x1] [] p g := rfl
theorem xc_GB_layLaw {m : Nat} {r : List Instr} {ls st : List Value} {p : gb_Pi} {g : gb_Sg} {x0 : Nat} (h : atag p x0 = 19) (hs : st.length ≤ 4) : gb_ex m (.invokeinterface 71 1 :: r) ls (.ref x0 :: st) p g = (gb_call 71 [.ref x0] p g).bind (fun w => gb_ex m r ls (psh w.1 st) w.2.1 w.2.2) :=
  gb_ex_cl (k := 71) (n := 1) (st' := .ref x0 :: st) (by
    have h1 : 1 ≤ (.ref x0 :: st : List Value).length := by simp
    have h2 : gb_rcv 71 [.ref x0] p = true := by
      show (true && true && true && decide (atag p x0 = 19)) = true
      rw [h]
      rfl
    simp only [gb_stp]
    exact if_pos ⟨h1, hs, h2⟩)
theorem cl_GB_layLaw {p : gb_Pi} {g : gb_Sg} {x0 : Nat} : gb_call 71 [.ref x0] p g = gb_ex 71 bk_GB_layLaw_0 [.ref x0, .null] [] p g := rfl
theorem xc_GB_layBeach {m : Nat} {r : List Instr} {ls st : List Value} {p : gb_Pi} {g : gb_Sg} {x0 : Nat} (h : atag p x0 = 19) (hs : st.length ≤ 4) : gb_ex m (.invokeinterface 72 1 :: r) ls (.ref x0 :: st) p g = (gb_call 72 [.ref x0] p g).bind (fun w => gb_ex m r ls (psh w.1 st) w.2.1 w.2.2) :=
  gb_ex_cl (k := 72) (n := 1) (st' := .ref x0 :: st) (by
    have h1 : 1 ≤ (.ref x0 :: st : List Value).length := by simp
    have h2 : gb_rcv 72 [.ref x0] p = true := by
      show (true && true && true && decide (atag p x0 = 19)) = true
      rw [h]
      rfl
    simp only [gb_stp]
    exact if_pos ⟨h1, hs, h2⟩)
theorem cl_GB_layBeach {p : gb_Pi} {g : gb_Sg} {x0 : Nat} : gb_call 72 [.ref x0] p g = gb_ex 72 bk_GB_layBeach_0 [.ref x0, .null] [] p g := rfl
theorem xc_GB_drift {m : Nat} {r : List Instr} {ls st : List Value} {p : gb_Pi} {g : gb_Sg} {x0 : Nat} {x1 : Int32} {x2 : Int32} {x3 : Int32} {x4 : Int32} {x5 : Int32} (h : atag p x0 = 19) (hs : st.length ≤ 4) : gb_ex m (.invokeinterface 73 6 :: r) ls (.int x5 :: .int x4 :: .int x3 :: .int x2 :: .int x1 :: .ref x0 :: st) p g = (gb_call 73 [.ref x0, .int x1, .int x2, .int x3, .int x4, .int x5] p g).bind (fun w => gb_ex m r ls (psh w.1 st) w.2.1 w.2.2) :=
  gb_ex_cl (k := 73) (n := 6) (st' := .int x5 :: .int x4 :: .int x3 :: .int x2 :: .int x1 :: .ref x0 :: st) (by
    have h1 : 6 ≤ (.int x5 :: .int x4 :: .int x3 :: .int x2 :: .int x1 :: .ref x0 :: st : List Value).length := by simp
    have h2 : gb_rcv 73 [.ref x0, .int x1, .int x2, .int x3, .int x4, .int x5] p = true := by
      show (true && true && true && decide (atag p x0 = 19)) = true
      rw [h]
      rfl
    simp only [gb_stp]
    exact if_pos ⟨h1, hs, h2⟩)
theorem cl_GB_drift {p : gb_Pi} {g : gb_Sg} {x0 : Nat} {x1 : Int32} {x2 : Int32} {x3 : Int32} {x4 : Int32} {x5 : Int32} : gb_call 73 [.ref x0, .int x1, .int x2, .int x3, .int x4, .int x5] p g = gb_ex 73 bk_GB_drift_0 [.ref x0, .int x1, .int x2, .int x3, .int x4, .int x5] [] p g := rfl
theorem xc_GB_worlds {m : Nat} {r : List Instr} {ls st : List Value} {p : gb_Pi} {g : gb_Sg} {x0 : Nat} {x1 : Int32} {x2 : Int32} (h : atag p x0 = 19) (hs : st.length ≤ 4) : gb_ex m (.invokeinterface 74 3 :: r) ls (.int x2 :: .int x1 :: .ref x0 :: st) p g = (gb_call 74 [.ref x0, .int x1, .int x2] p g).bind (fun w => gb_ex m r ls (psh w.1 st) w.2.1 w.2.2) :=
  gb_ex_cl (k := 74) (n := 3) (st' := .int x2 :: .int x1 :: .ref x0 :: st) (by
    have h1 : 3 ≤ (.int x2 :: .int x1 :: .ref x0 :: st : List Value).length := by simp
    have h2 : gb_rcv 74 [.ref x0, .int x1, .int x2] p = true := by
      show (true && true && true && decide (atag p x0 = 19)) = true
      rw [h]
      rfl
    simp only [gb_stp]
    exact if_pos ⟨h1, hs, h2⟩)
theorem cl_GB_worlds {p : gb_Pi} {g : gb_Sg} {x0 : Nat} {x1 : Int32} {x2 : Int32} : gb_call 74 [.ref x0, .int x1, .int x2] p g = gb_ex 74 bk_GB_worlds_0 [.ref x0, .int x1, .int x2, .null, .null] [] p g := rfl
theorem xc_GB_ashore {m : Nat} {r : List Instr} {ls st : List Value} {p : gb_Pi} {g : gb_Sg} {x0 : Nat} {x1 : Int32} {x2 : Int32} {x3 : Int32} {x4 : Int32} (h : atag p x0 = 19) (hs : st.length ≤ 4) : gb_ex m (.invokeinterface 75 5 :: r) ls (.int x4 :: .int x3 :: .int x2 :: .int x1 :: .ref x0 :: st) p g = (gb_call 75 [.ref x0, .int x1, .int x2, .int x3, .int x4] p g).bind (fun w => gb_ex m r ls (psh w.1 st) w.2.1 w.2.2) :=
  gb_ex_cl (k := 75) (n := 5) (st' := .int x4 :: .int x3 :: .int x2 :: .int x1 :: .ref x0 :: st) (by
    have h1 : 5 ≤ (.int x4 :: .int x3 :: .int x2 :: .int x1 :: .ref x0 :: st : List Value).length := by simp
    have h2 : gb_rcv 75 [.ref x0, .int x1, .int x2, .int x3, .int x4] p = true := by
      show (true && true && true && decide (atag p x0 = 19)) = true
      rw [h]
      rfl
    simp only [gb_stp]
    exact if_pos ⟨h1, hs, h2⟩)
theorem cl_GB_ashore {p : gb_Pi} {g : gb_Sg} {x0 : Nat} {x1 : Int32} {x2 : Int32} {x3 : Int32} {x4 : Int32} : gb_call 75 [.ref x0, .int x1, .int x2, .int x3, .int x4] p g = gb_ex 75 bk_GB_ashore_0 [.ref x0, .int x1, .int x2, .int x3, .int x4] [] p g := rfl
theorem xc_GB_find {m : Nat} {r : List Instr} {ls st : List Value} {p : gb_Pi} {g : gb_Sg} {x0 : Nat} {x1 : Int32} {x2 : Int32} {x3 : Int32} (h : atag p x0 = 19) (hs : st.length ≤ 4) : gb_ex m (.invokeinterface 76 4 :: r) ls (.int x3 :: .int x2 :: .int x1 :: .ref x0 :: st) p g = (gb_call 76 [.ref x0, .int x1, .int x2, .int x3] p g).bind (fun w => gb_ex m r ls (psh w.1 st) w.2.1 w.2.2) :=
  gb_ex_cl (k := 76) (n := 4) (st' := .int x3 :: .int x2 :: .int x1 :: .ref x0 :: st) (by
    have h1 : 4 ≤ (.int x3 :: .int x2 :: .int x1 :: .ref x0 :: st : List Value).length := by simp
    have h2 : gb_rcv 76 [.ref x0, .int x1, .int x2, .int x3] p = true := by
      show (true && true && true && decide (atag p x0 = 19)) = true
      rw [h]
      rfl
    simp only [gb_stp]
    exact if_pos ⟨h1, hs, h2⟩)
theorem cl_GB_find {p : gb_Pi} {g : gb_Sg} {x0 : Nat} {x1 : Int32} {x2 : Int32} {x3 : Int32} : gb_call 76 [.ref x0, .int x1, .int x2, .int x3] p g = gb_ex 76 bk_GB_find_0 [.ref x0, .int x1, .int x2, .int x3] [] p g := rfl
theorem xc_GB_from {m : Nat} {r : List Instr} {ls st : List Value} {p : gb_Pi} {g : gb_Sg} {x0 : Nat} {x1 : Int32} (h : atag p x0 = 19) (hs : st.length ≤ 4) : gb_ex m (.invokeinterface 77 2 :: r) ls (.int x1 :: .ref x0 :: st) p g = (gb_call 77 [.ref x0, .int x1] p g).bind (fun w => gb_ex m r ls (psh w.1 st) w.2.1 w.2.2) :=
  gb_ex_cl (k := 77) (n := 2) (st' := .int x1 :: .ref x0 :: st) (by
    have h1 : 2 ≤ (.int x1 :: .ref x0 :: st : List Value).length := by simp
    have h2 : gb_rcv 77 [.ref x0, .int x1] p = true := by
      show (true && true && true && decide (atag p x0 = 19)) = true
      rw [h]
      rfl
    simp only [gb_stp]
    exact if_pos ⟨h1, hs, h2⟩)
theorem cl_GB_from {p : gb_Pi} {g : gb_Sg} {x0 : Nat} {x1 : Int32} : gb_call 77 [.ref x0, .int x1] p g = gb_ex 77 bk_GB_from_0 [.ref x0, .int x1] [] p g := rfl
theorem xc_GB_lossesBehind {m : Nat} {r : List Instr} {ls st : List Value} {p : gb_Pi} {g : gb_Sg} {x0 : Nat} {x1 : Int32} (h : atag p x0 = 19) (hs : st.length ≤ 4) : gb_ex m (.invokeinterface 78 2 :: r) ls (.int x1 :: .ref x0 :: st) p g = (gb_call 78 [.ref x0, .int x1] p g).bind (fun w => gb_ex m r ls (psh w.1 st) w.2.1 w.2.2) :=
  gb_ex_cl (k := 78) (n := 2) (st' := .int x1 :: .ref x0 :: st) (by
    have h1 : 2 ≤ (.int x1 :: .ref x0 :: st : List Value).length := by simp
    have h2 : gb_rcv 78 [.ref x0, .int x1] p = true := by
      show (true && true && true && decide (atag p x0 = 19)) = true
      rw [h]
      rfl
    simp only [gb_stp]
    exact if_pos ⟨h1, hs, h2⟩)
theorem cl_GB_lossesBehind {p : gb_Pi} {g : gb_Sg} {x0 : Nat} {x1 : Int32} : gb_call 78 [.ref x0, .int x1] p g = gb_ex 78 bk_GB_lossesBehind_0 [.ref x0, .int x1, .null, .null] [] p g := rfl
theorem xc_GB_parted {m : Nat} {r : List Instr} {ls st : List Value} {p : gb_Pi} {g : gb_Sg} {x0 : Nat} {x1 : Int32} (h : atag p x0 = 19) (hs : st.length ≤ 4) : gb_ex m (.invokeinterface 79 2 :: r) ls (.int x1 :: .ref x0 :: st) p g = (gb_call 79 [.ref x0, .int x1] p g).bind (fun w => gb_ex m r ls (psh w.1 st) w.2.1 w.2.2) :=
  gb_ex_cl (k := 79) (n := 2) (st' := .int x1 :: .ref x0 :: st) (by
    have h1 : 2 ≤ (.int x1 :: .ref x0 :: st : List Value).length := by simp
    have h2 : gb_rcv 79 [.ref x0, .int x1] p = true := by
      show (true && true && true && decide (atag p x0 = 19)) = true
      rw [h]
      rfl
    simp only [gb_stp]
    exact if_pos ⟨h1, hs, h2⟩)
theorem cl_GB_parted {p : gb_Pi} {g : gb_Sg} {x0 : Nat} {x1 : Int32} : gb_call 79 [.ref x0, .int x1] p g = gb_ex 79 bk_GB_parted_0 [.ref x0, .int x1, .null] [] p g := rfl
theorem xc_GB_report {m : Nat} {r : List Instr} {ls st : List Value} {p : gb_Pi} {g : gb_Sg} {x0 : Nat} {x1 : Int32} {x2 : Int32} {x3 : Int32} {x4 : Int32} {x5 : Int32} (h : atag p x0 = 19) (hs : st.length ≤ 4) : gb_ex m (.invokeinterface 80 6 :: r) ls (.int x5 :: .int x4 :: .int x3 :: .int x2 :: .int x1 :: .ref x0 :: st) p g = (gb_call 80 [.ref x0, .int x1, .int x2, .int x3, .int x4, .int x5] p g).bind (fun w => gb_ex m r ls (psh w.1 st) w.2.1 w.2.2) :=
  gb_ex_cl (k := 80) (n := 6) (st' := .int x5 :: .int x4 :: .int x3 :: .int x2 :: .int x1 :: .ref x0 :: st) (by
    have h1 : 6 ≤ (.int x5 :: .int x4 :: .int x3 :: .int x2 :: .int x1 :: .ref x0 :: st : List Value).length := by simp
    have h2 : gb_rcv 80 [.ref x0, .int x1, .int x2, .int x3, .int x4, .int x5] p = true := by
      show (true && true && true && decide (atag p x0 = 19)) = true
      rw [h]
      rfl
    simp only [gb_stp]
    exact if_pos ⟨h1, hs, h2⟩)
theorem cl_GB_report {p : gb_Pi} {g : gb_Sg} {x0 : Nat} {x1 : Int32} {x2 : Int32} {x3 : Int32} {x4 : Int32} {x5 : Int32} : gb_call 80 [.ref x0, .int x1, .int x2, .int x3, .int x4, .int x5] p g = gb_ex 80 bk_GB_report_0 [.ref x0, .int x1, .int x2, .int x3, .int x4, .int x5] [] p g := rfl
theorem xc_GB_there {m : Nat} {r : List Instr} {ls st : List Value} {p : gb_Pi} {g : gb_Sg} {x0 : Nat} {x1 : Int32} {x2 : Int32} {x3 : Int32} (h : atag p x0 = 19) (hs : st.length ≤ 4) : gb_ex m (.invokeinterface 81 4 :: r) ls (.int x3 :: .int x2 :: .int x1 :: .ref x0 :: st) p g = (gb_call 81 [.ref x0, .int x1, .int x2, .int x3] p g).bind (fun w => gb_ex m r ls (psh w.1 st) w.2.1 w.2.2) :=
  gb_ex_cl (k := 81) (n := 4) (st' := .int x3 :: .int x2 :: .int x1 :: .ref x0 :: st) (by
    have h1 : 4 ≤ (.int x3 :: .int x2 :: .int x1 :: .ref x0 :: st : List Value).length := by simp
    have h2 : gb_rcv 81 [.ref x0, .int x1, .int x2, .int x3] p = true := by
      show (true && true && true && decide (atag p x0 = 19)) = true
      rw [h]
      rfl
    simp only [gb_stp]
    exact if_pos ⟨h1, hs, h2⟩)
theorem cl_GB_there {p : gb_Pi} {g : gb_Sg} {x0 : Nat} {x1 : Int32} {x2 : Int32} {x3 : Int32} : gb_call 81 [.ref x0, .int x1, .int x2, .int x3] p g = gb_ex 81 bk_GB_there_0 [.ref x0, .int x1, .int x2, .int x3] [] p g := rfl
theorem xc_GB_missed {m : Nat} {r : List Instr} {ls st : List Value} {p : gb_Pi} {g : gb_Sg} {x0 : Nat} {x1 : Int32} (h : atag p x0 = 19) (hs : st.length ≤ 4) : gb_ex m (.invokeinterface 82 2 :: r) ls (.int x1 :: .ref x0 :: st) p g = (gb_call 82 [.ref x0, .int x1] p g).bind (fun w => gb_ex m r ls (psh w.1 st) w.2.1 w.2.2) :=
  gb_ex_cl (k := 82) (n := 2) (st' := .int x1 :: .ref x0 :: st) (by
    have h1 : 2 ≤ (.int x1 :: .ref x0 :: st : List Value).length := by simp
    have h2 : gb_rcv 82 [.ref x0, .int x1] p = true := by
      show (true && true && true && decide (atag p x0 = 19)) = true
      rw [h]
      rfl
    simp only [gb_stp]
    exact if_pos ⟨h1, hs, h2⟩)
theorem cl_GB_missed {p : gb_Pi} {g : gb_Sg} {x0 : Nat} {x1 : Int32} : gb_call 82 [.ref x0, .int x1] p g = gb_ex 82 bk_GB_missed_0 [.ref x0, .int x1, .null, .null, .null, .null] [] p g := rfl
theorem xc_GB_left {m : Nat} {r : List Instr} {ls st : List Value} {p : gb_Pi} {g : gb_Sg} {x0 : Nat} {x1 : Int32} (h : atag p x0 = 19) (hs : st.length ≤ 4) : gb_ex m (.invokeinterface 83 2 :: r) ls (.int x1 :: .ref x0 :: st) p g = (gb_call 83 [.ref x0, .int x1] p g).bind (fun w => gb_ex m r ls (psh w.1 st) w.2.1 w.2.2) :=
  gb_ex_cl (k := 83) (n := 2) (st' := .int x1 :: .ref x0 :: st) (by
    have h1 : 2 ≤ (.int x1 :: .ref x0 :: st : List Value).length := by simp
    have h2 : gb_rcv 83 [.ref x0, .int x1] p = true := by
      show (true && true && true && decide (atag p x0 = 19)) = true
      rw [h]
      rfl
    simp only [gb_stp]
    exact if_pos ⟨h1, hs, h2⟩)
theorem cl_GB_left {p : gb_Pi} {g : gb_Sg} {x0 : Nat} {x1 : Int32} : gb_call 83 [.ref x0, .int x1] p g = gb_ex 83 bk_GB_left_0 [.ref x0, .int x1] [] p g := rfl
theorem xc_GB_hope {m : Nat} {r : List Instr} {ls st : List Value} {p : gb_Pi} {g : gb_Sg} {x0 : Nat} {x1 : Int32} {x2 : Int32} {x3 : Int32} {x4 : Int32} (h : atag p x0 = 19) (hs : st.length ≤ 4) : gb_ex m (.invokeinterface 84 5 :: r) ls (.int x4 :: .int x3 :: .int x2 :: .int x1 :: .ref x0 :: st) p g = (gb_call 84 [.ref x0, .int x1, .int x2, .int x3, .int x4] p g).bind (fun w => gb_ex m r ls (psh w.1 st) w.2.1 w.2.2) :=
  gb_ex_cl (k := 84) (n := 5) (st' := .int x4 :: .int x3 :: .int x2 :: .int x1 :: .ref x0 :: st) (by
    have h1 : 5 ≤ (.int x4 :: .int x3 :: .int x2 :: .int x1 :: .ref x0 :: st : List Value).length := by simp
    have h2 : gb_rcv 84 [.ref x0, .int x1, .int x2, .int x3, .int x4] p = true := by
      show (true && true && true && decide (atag p x0 = 19)) = true
      rw [h]
      rfl
    simp only [gb_stp]
    exact if_pos ⟨h1, hs, h2⟩)
theorem cl_GB_hope {p : gb_Pi} {g : gb_Sg} {x0 : Nat} {x1 : Int32} {x2 : Int32} {x3 : Int32} {x4 : Int32} : gb_call 84 [.ref x0, .int x1, .int x2, .int x3, .int x4] p g = gb_ex 84 bk_GB_hope_0 [.ref x0, .int x1, .int x2, .int x3, .int x4] [] p g := rfl
theorem xc_GB_walk {m : Nat} {r : List Instr} {ls st : List Value} {p : gb_Pi} {g : gb_Sg} {x0 : Nat} {x1 : Int32} {x2 : Int32} {x3 : Int32} {x4 : Int32} (h : atag p x0 = 19) (hs : st.length ≤ 4) : gb_ex m (.invokeinterface 85 5 :: r) ls (.int x4 :: .int x3 :: .int x2 :: .int x1 :: .ref x0 :: st) p g = (gb_call 85 [.ref x0, .int x1, .int x2, .int x3, .int x4] p g).bind (fun w => gb_ex m r ls (psh w.1 st) w.2.1 w.2.2) :=
  gb_ex_cl (k := 85) (n := 5) (st' := .int x4 :: .int x3 :: .int x2 :: .int x1 :: .ref x0 :: st) (by
    have h1 : 5 ≤ (.int x4 :: .int x3 :: .int x2 :: .int x1 :: .ref x0 :: st : List Value).length := by simp
    have h2 : gb_rcv 85 [.ref x0, .int x1, .int x2, .int x3, .int x4] p = true := by
      show (true && true && true && decide (atag p x0 = 19)) = true
      rw [h]
      rfl
    simp only [gb_stp]
    exact if_pos ⟨h1, hs, h2⟩)
theorem cl_GB_walk {p : gb_Pi} {g : gb_Sg} {x0 : Nat} {x1 : Int32} {x2 : Int32} {x3 : Int32} {x4 : Int32} : gb_call 85 [.ref x0, .int x1, .int x2, .int x3, .int x4] p g = gb_ex 85 bk_GB_walk_0 [.ref x0, .int x1, .int x2, .int x3, .int x4, .null] [] p g := rfl
theorem xc_GB_walks {m : Nat} {r : List Instr} {ls st : List Value} {p : gb_Pi} {g : gb_Sg} {x0 : Nat} {x1 : Int32} {x2 : Int32} {x3 : Int32} {x4 : Int32} {x5 : Int32} (h : atag p x0 = 19) (hs : st.length ≤ 4) : gb_ex m (.invokeinterface 86 6 :: r) ls (.int x5 :: .int x4 :: .int x3 :: .int x2 :: .int x1 :: .ref x0 :: st) p g = (gb_call 86 [.ref x0, .int x1, .int x2, .int x3, .int x4, .int x5] p g).bind (fun w => gb_ex m r ls (psh w.1 st) w.2.1 w.2.2) :=
  gb_ex_cl (k := 86) (n := 6) (st' := .int x5 :: .int x4 :: .int x3 :: .int x2 :: .int x1 :: .ref x0 :: st) (by
    have h1 : 6 ≤ (.int x5 :: .int x4 :: .int x3 :: .int x2 :: .int x1 :: .ref x0 :: st : List Value).length := by simp
    have h2 : gb_rcv 86 [.ref x0, .int x1, .int x2, .int x3, .int x4, .int x5] p = true := by
      show (true && true && true && decide (atag p x0 = 19)) = true
      rw [h]
      rfl
    simp only [gb_stp]
    exact if_pos ⟨h1, hs, h2⟩)
theorem cl_GB_walks {p : gb_Pi} {g : gb_Sg} {x0 : Nat} {x1 : Int32} {x2 : Int32} {x3 : Int32} {x4 : Int32} {x5 : Int32} : gb_call 86 [.ref x0, .int x1, .int x2, .int x3, .int x4, .int x5] p g = gb_ex 86 bk_GB_walks_0 [.ref x0, .int x1, .int x2, .int x3, .int x4, .int x5] [] p g := rfl
theorem xc_GB_weighLosses {m : Nat} {r : List Instr} {ls st : List Value} {p : gb_Pi} {g : gb_Sg} {x0 : Nat} {x1 : Int32} (h : atag p x0 = 19) (hs : st.length ≤ 4) : gb_ex m (.invokeinterface 87 2 :: r) ls (.int x1 :: .ref x0 :: st) p g = (gb_call 87 [.ref x0, .int x1] p g).bind (fun w => gb_ex m r ls (psh w.1 st) w.2.1 w.2.2) :=
  gb_ex_cl (k := 87) (n := 2) (st' := .int x1 :: .ref x0 :: st) (by
    have h1 : 2 ≤ (.int x1 :: .ref x0 :: st : List Value).length := by simp
    have h2 : gb_rcv 87 [.ref x0, .int x1] p = true := by
      show (true && true && true && decide (atag p x0 = 19)) = true
      rw [h]
      rfl
    simp only [gb_stp]
    exact if_pos ⟨h1, hs, h2⟩)
theorem cl_GB_weighLosses {p : gb_Pi} {g : gb_Sg} {x0 : Nat} {x1 : Int32} : gb_call 87 [.ref x0, .int x1] p g = gb_ex 87 bk_GB_weighLosses_0 [.ref x0, .int x1, .null] [] p g := rfl
theorem xc_GB_number {m : Nat} {r : List Instr} {ls st : List Value} {p : gb_Pi} {g : gb_Sg} {x0 : Nat} {x1 : Int32} (h : atag p x0 = 19) (hs : st.length ≤ 4) : gb_ex m (.invokeinterface 88 2 :: r) ls (.int x1 :: .ref x0 :: st) p g = (gb_call 88 [.ref x0, .int x1] p g).bind (fun w => gb_ex m r ls (psh w.1 st) w.2.1 w.2.2) :=
  gb_ex_cl (k := 88) (n := 2) (st' := .int x1 :: .ref x0 :: st) (by
    have h1 : 2 ≤ (.int x1 :: .ref x0 :: st : List Value).length := by simp
    have h2 : gb_rcv 88 [.ref x0, .int x1] p = true := by
      show (true && true && true && decide (atag p x0 = 19)) = true
      rw [h]
      rfl
    simp only [gb_stp]
    exact if_pos ⟨h1, hs, h2⟩)
theorem cl_GB_number {p : gb_Pi} {g : gb_Sg} {x0 : Nat} {x1 : Int32} : gb_call 88 [.ref x0, .int x1] p g = gb_ex 88 bk_GB_number_0 [.ref x0, .int x1] [] p g := rfl
theorem xc_GB_fell {m : Nat} {r : List Instr} {ls st : List Value} {p : gb_Pi} {g : gb_Sg} {x0 : Nat} {x1 : Int32} (h : atag p x0 = 19) (hs : st.length ≤ 4) : gb_ex m (.invokeinterface 89 2 :: r) ls (.int x1 :: .ref x0 :: st) p g = (gb_call 89 [.ref x0, .int x1] p g).bind (fun w => gb_ex m r ls (psh w.1 st) w.2.1 w.2.2) :=
  gb_ex_cl (k := 89) (n := 2) (st' := .int x1 :: .ref x0 :: st) (by
    have h1 : 2 ≤ (.int x1 :: .ref x0 :: st : List Value).length := by simp
    have h2 : gb_rcv 89 [.ref x0, .int x1] p = true := by
      show (true && true && true && decide (atag p x0 = 19)) = true
      rw [h]
      rfl
    simp only [gb_stp]
    exact if_pos ⟨h1, hs, h2⟩)
theorem cl_GB_fell {p : gb_Pi} {g : gb_Sg} {x0 : Nat} {x1 : Int32} : gb_call 89 [.ref x0, .int x1] p g = gb_ex 89 bk_GB_fell_0 [.ref x0, .int x1, .null, .null, .null] [] p g := rfl
theorem xc_GB_most {m : Nat} {r : List Instr} {ls st : List Value} {p : gb_Pi} {g : gb_Sg} {x0 : Nat} {x1 : Int32} {x2 : Int32} (h : atag p x0 = 19) (hs : st.length ≤ 4) : gb_ex m (.invokeinterface 90 3 :: r) ls (.int x2 :: .int x1 :: .ref x0 :: st) p g = (gb_call 90 [.ref x0, .int x1, .int x2] p g).bind (fun w => gb_ex m r ls (psh w.1 st) w.2.1 w.2.2) :=
  gb_ex_cl (k := 90) (n := 3) (st' := .int x2 :: .int x1 :: .ref x0 :: st) (by
    have h1 : 3 ≤ (.int x2 :: .int x1 :: .ref x0 :: st : List Value).length := by simp
    have h2 : gb_rcv 90 [.ref x0, .int x1, .int x2] p = true := by
      show (true && true && true && decide (atag p x0 = 19)) = true
      rw [h]
      rfl
    simp only [gb_stp]
    exact if_pos ⟨h1, hs, h2⟩)
theorem cl_GB_most {p : gb_Pi} {g : gb_Sg} {x0 : Nat} {x1 : Int32} {x2 : Int32} : gb_call 90 [.ref x0, .int x1, .int x2] p g = gb_ex 90 bk_GB_most_0 [.ref x0, .int x1, .int x2] [] p g := rfl
theorem xc_GB_greatestLikely {m : Nat} {r : List Instr} {ls st : List Value} {p : gb_Pi} {g : gb_Sg} {x0 : Int32} {x1 : Int32} {x2 : Int64} (hs : st.length ≤ 4) : gb_ex m (.invokeinterface 91 3 :: r) ls (.long x2 :: .int x1 :: .int x0 :: st) p g = (gb_call 91 [.int x0, .int x1, .long x2] p g).bind (fun w => gb_ex m r ls (psh w.1 st) w.2.1 w.2.2) :=
  gb_ex_cl (k := 91) (n := 3) (st' := .long x2 :: .int x1 :: .int x0 :: st) (by
    have h1 : 3 ≤ (.long x2 :: .int x1 :: .int x0 :: st : List Value).length := by simp
    have h2 : gb_rcv 91 [.int x0, .int x1, .long x2] p = true := by rfl
    simp only [gb_stp]
    exact if_pos ⟨h1, hs, h2⟩)
theorem cl_GB_greatestLikely {p : gb_Pi} {g : gb_Sg} {x0 : Int32} {x1 : Int32} {x2 : Int64} : gb_call 91 [.int x0, .int x1, .long x2] p g = gb_ex 91 bk_GB_greatestLikely_0 [.int x0, .int x1, .long x2, .null, .null, .null, .null, .null] [] p g := rfl
theorem xc_GB_oddsOf {m : Nat} {r : List Instr} {ls st : List Value} {p : gb_Pi} {g : gb_Sg} {x0 : Int32} {x1 : Int32} {x2 : Int32} (hs : st.length ≤ 4) : gb_ex m (.invokeinterface 92 3 :: r) ls (.int x2 :: .int x1 :: .int x0 :: st) p g = (gb_call 92 [.int x0, .int x1, .int x2] p g).bind (fun w => gb_ex m r ls (psh w.1 st) w.2.1 w.2.2) :=
  gb_ex_cl (k := 92) (n := 3) (st' := .int x2 :: .int x1 :: .int x0 :: st) (by
    have h1 : 3 ≤ (.int x2 :: .int x1 :: .int x0 :: st : List Value).length := by simp
    have h2 : gb_rcv 92 [.int x0, .int x1, .int x2] p = true := by rfl
    simp only [gb_stp]
    exact if_pos ⟨h1, hs, h2⟩)
theorem cl_GB_oddsOf {p : gb_Pi} {g : gb_Sg} {x0 : Int32} {x1 : Int32} {x2 : Int32} : gb_call 92 [.int x0, .int x1, .int x2] p g = gb_ex 92 bk_GB_oddsOf_0 [.int x0, .int x1, .int x2, .null, .null, .null] [] p g := rfl
theorem xc_GB_shortened {m : Nat} {r : List Instr} {ls st : List Value} {p : gb_Pi} {g : gb_Sg} {x0 : Int32} {x1 : Int32} {x2 : Int32} (hs : st.length ≤ 4) : gb_ex m (.invokeinterface 93 3 :: r) ls (.int x2 :: .int x1 :: .int x0 :: st) p g = (gb_call 93 [.int x0, .int x1, .int x2] p g).bind (fun w => gb_ex m r ls (psh w.1 st) w.2.1 w.2.2) :=
  gb_ex_cl (k := 93) (n := 3) (st' := .int x2 :: .int x1 :: .int x0 :: st) (by
    have h1 : 3 ≤ (.int x2 :: .int x1 :: .int x0 :: st : List Value).length := by simp
    have h2 : gb_rcv 93 [.int x0, .int x1, .int x2] p = true := by rfl
    simp only [gb_stp]
    exact if_pos ⟨h1, hs, h2⟩)
theorem cl_GB_shortened {p : gb_Pi} {g : gb_Sg} {x0 : Int32} {x1 : Int32} {x2 : Int32} : gb_call 93 [.int x0, .int x1, .int x2] p g = gb_ex 93 bk_GB_shortened_0 [.int x0, .int x1, .int x2, .null] [] p g := rfl
theorem xc_GB_glass {m : Nat} {r : List Instr} {ls st : List Value} {p : gb_Pi} {g : gb_Sg} {x0 : Nat} {x1 : Int32} {x2 : Int32} {x3 : Int32} (h : atag p x0 = 19) (hs : st.length ≤ 4) : gb_ex m (.invokeinterface 94 4 :: r) ls (.int x3 :: .int x2 :: .int x1 :: .ref x0 :: st) p g = (gb_call 94 [.ref x0, .int x1, .int x2, .int x3] p g).bind (fun w => gb_ex m r ls (psh w.1 st) w.2.1 w.2.2) :=
  gb_ex_cl (k := 94) (n := 4) (st' := .int x3 :: .int x2 :: .int x1 :: .ref x0 :: st) (by
    have h1 : 4 ≤ (.int x3 :: .int x2 :: .int x1 :: .ref x0 :: st : List Value).length := by simp
    have h2 : gb_rcv 94 [.ref x0, .int x1, .int x2, .int x3] p = true := by
      show (true && true && true && decide (atag p x0 = 19)) = true
      rw [h]
      rfl
    simp only [gb_stp]
    exact if_pos ⟨h1, hs, h2⟩)
theorem cl_GB_glass {p : gb_Pi} {g : gb_Sg} {x0 : Nat} {x1 : Int32} {x2 : Int32} {x3 : Int32} : gb_call 94 [.ref x0, .int x1, .int x2, .int x3] p g = gb_ex 94 bk_GB_glass_0 [.ref x0, .int x1, .int x2, .int x3, .null, .null] [] p g := rfl
theorem xc_GB_life {m : Nat} {r : List Instr} {ls st : List Value} {p : gb_Pi} {g : gb_Sg} {x0 : Nat} {x1 : Int32} {x2 : Int32} (h : atag p x0 = 19) (hs : st.length ≤ 4) : gb_ex m (.invokeinterface 95 3 :: r) ls (.int x2 :: .int x1 :: .ref x0 :: st) p g = (gb_call 95 [.ref x0, .int x1, .int x2] p g).bind (fun w => gb_ex m r ls (psh w.1 st) w.2.1 w.2.2) :=
  gb_ex_cl (k := 95) (n := 3) (st' := .int x2 :: .int x1 :: .ref x0 :: st) (by
    have h1 : 3 ≤ (.int x2 :: .int x1 :: .ref x0 :: st : List Value).length := by simp
    have h2 : gb_rcv 95 [.ref x0, .int x1, .int x2] p = true := by
      show (true && true && true && decide (atag p x0 = 19)) = true
      rw [h]
      rfl
    simp only [gb_stp]
    exact if_pos ⟨h1, hs, h2⟩)
theorem cl_GB_life {p : gb_Pi} {g : gb_Sg} {x0 : Nat} {x1 : Int32} {x2 : Int32} : gb_call 95 [.ref x0, .int x1, .int x2] p g = gb_ex 95 bk_GB_life_0 [.ref x0, .int x1, .int x2, .null, .null] [] p g := rfl
theorem xc_GB_isGlass {m : Nat} {r : List Instr} {ls st : List Value} {p : gb_Pi} {g : gb_Sg} {x0 : Int32} {x1 : Int32} (hs : st.length ≤ 4) : gb_ex m (.invokeinterface 96 2 :: r) ls (.int x1 :: .int x0 :: st) p g = (gb_call 96 [.int x0, .int x1] p g).bind (fun w => gb_ex m r ls (psh w.1 st) w.2.1 w.2.2) :=
  gb_ex_cl (k := 96) (n := 2) (st' := .int x1 :: .int x0 :: st) (by
    have h1 : 2 ≤ (.int x1 :: .int x0 :: st : List Value).length := by simp
    have h2 : gb_rcv 96 [.int x0, .int x1] p = true := by rfl
    simp only [gb_stp]
    exact if_pos ⟨h1, hs, h2⟩)
theorem cl_GB_isGlass {p : gb_Pi} {g : gb_Sg} {x0 : Int32} {x1 : Int32} : gb_call 96 [.int x0, .int x1] p g = gb_ex 96 bk_GB_isGlass_0 [.int x0, .int x1] [] p g := rfl
theorem xc_GB_wornByAYear {m : Nat} {r : List Instr} {ls st : List Value} {p : gb_Pi} {g : gb_Sg} {x0 : Int32} {x1 : Int32} (hs : st.length ≤ 4) : gb_ex m (.invokeinterface 97 2 :: r) ls (.int x1 :: .int x0 :: st) p g = (gb_call 97 [.int x0, .int x1] p g).bind (fun w => gb_ex m r ls (psh w.1 st) w.2.1 w.2.2) :=
  gb_ex_cl (k := 97) (n := 2) (st' := .int x1 :: .int x0 :: st) (by
    have h1 : 2 ≤ (.int x1 :: .int x0 :: st : List Value).length := by simp
    have h2 : gb_rcv 97 [.int x0, .int x1] p = true := by rfl
    simp only [gb_stp]
    exact if_pos ⟨h1, hs, h2⟩)
theorem cl_GB_wornByAYear {p : gb_Pi} {g : gb_Sg} {x0 : Int32} {x1 : Int32} : gb_call 97 [.int x0, .int x1] p g = gb_ex 97 bk_GB_wornByAYear_0 [.int x0, .int x1] [] p g := rfl
theorem xc_GB_whose {m : Nat} {r : List Instr} {ls st : List Value} {p : gb_Pi} {g : gb_Sg} {x0 : Nat} {x1 : Int32} {x2 : Int32} {x3 : Int32} {x4 : Int32} (h : atag p x0 = 19) (hs : st.length ≤ 4) : gb_ex m (.invokeinterface 98 5 :: r) ls (.int x4 :: .int x3 :: .int x2 :: .int x1 :: .ref x0 :: st) p g = (gb_call 98 [.ref x0, .int x1, .int x2, .int x3, .int x4] p g).bind (fun w => gb_ex m r ls (psh w.1 st) w.2.1 w.2.2) :=
  gb_ex_cl (k := 98) (n := 5) (st' := .int x4 :: .int x3 :: .int x2 :: .int x1 :: .ref x0 :: st) (by
    have h1 : 5 ≤ (.int x4 :: .int x3 :: .int x2 :: .int x1 :: .ref x0 :: st : List Value).length := by simp
    have h2 : gb_rcv 98 [.ref x0, .int x1, .int x2, .int x3, .int x4] p = true := by
      show (true && true && true && decide (atag p x0 = 19)) = true
      rw [h]
      rfl
    simp only [gb_stp]
    exact if_pos ⟨h1, hs, h2⟩)
theorem cl_GB_whose {p : gb_Pi} {g : gb_Sg} {x0 : Nat} {x1 : Int32} {x2 : Int32} {x3 : Int32} {x4 : Int32} : gb_call 98 [.ref x0, .int x1, .int x2, .int x3, .int x4] p g = gb_ex 98 bk_GB_whose_0 [.ref x0, .int x1, .int x2, .int x3, .int x4, .null, .null] [] p g := rfl
theorem xc_GB_two {m : Nat} {r : List Instr} {ls st : List Value} {p : gb_Pi} {g : gb_Sg} {x0 : Nat} {x1 : Int32} {x2 : Int32} {x3 : Int32} {x4 : Int32} {x5 : Int32} (h : atag p x0 = 19) (hs : st.length ≤ 4) : gb_ex m (.invokeinterface 99 6 :: r) ls (.int x5 :: .int x4 :: .int x3 :: .int x2 :: .int x1 :: .ref x0 :: st) p g = (gb_call 99 [.ref x0, .int x1, .int x2, .int x3, .int x4, .int x5] p g).bind (fun w => gb_ex m r ls (psh w.1 st) w.2.1 w.2.2) :=
  gb_ex_cl (k := 99) (n := 6) (st' := .int x5 :: .int x4 :: .int x3 :: .int x2 :: .int x1 :: .ref x0 :: st) (by
    have h1 : 6 ≤ (.int x5 :: .int x4 :: .int x3 :: .int x2 :: .int x1 :: .ref x0 :: st : List Value).length := by simp
    have h2 : gb_rcv 99 [.ref x0, .int x1, .int x2, .int x3, .int x4, .int x5] p = true := by
      show (true && true && true && decide (atag p x0 = 19)) = true
      rw [h]
      rfl
    simp only [gb_stp]
    exact if_pos ⟨h1, hs, h2⟩)
theorem cl_GB_two {p : gb_Pi} {g : gb_Sg} {x0 : Nat} {x1 : Int32} {x2 : Int32} {x3 : Int32} {x4 : Int32} {x5 : Int32} : gb_call 99 [.ref x0, .int x1, .int x2, .int x3, .int x4, .int x5] p g = gb_ex 99 bk_GB_two_0 [.ref x0, .int x1, .int x2, .int x3, .int x4, .int x5, .null, .null, .null, .null] [] p g := rfl
theorem xc_GB_show {m : Nat} {r : List Instr} {ls st : List Value} {p : gb_Pi} {g : gb_Sg} {x0 : Nat} {x1 : Int32} {x2 : Int32} {x3 : Int32} (h : atag p x0 = 19) (hs : st.length ≤ 4) : gb_ex m (.invokeinterface 100 4 :: r) ls (.int x3 :: .int x2 :: .int x1 :: .ref x0 :: st) p g = (gb_call 100 [.ref x0, .int x1, .int x2, .int x3] p g).bind (fun w => gb_ex m r ls (psh w.1 st) w.2.1 w.2.2) :=
  gb_ex_cl (k := 100) (n := 4) (st' := .int x3 :: .int x2 :: .int x1 :: .ref x0 :: st) (by
    have h1 : 4 ≤ (.int x3 :: .int x2 :: .int x1 :: .ref x0 :: st : List Value).length := by simp
    have h2 : gb_rcv 100 [.ref x0, .int x1, .int x2, .int x3] p = true := by
      show (true && true && true && decide (atag p x0 = 19)) = true
      rw [h]
      rfl
    simp only [gb_stp]
    exact if_pos ⟨h1, hs, h2⟩)
theorem cl_GB_show {p : gb_Pi} {g : gb_Sg} {x0 : Nat} {x1 : Int32} {x2 : Int32} {x3 : Int32} : gb_call 100 [.ref x0, .int x1, .int x2, .int x3] p g = gb_ex 100 bk_GB_show_0 [.ref x0, .int x1, .int x2, .int x3] [] p g := rfl
theorem xc_GB_cost {m : Nat} {r : List Instr} {ls st : List Value} {p : gb_Pi} {g : gb_Sg} {x0 : Nat} {x1 : Int32} {x2 : Int32} (h : atag p x0 = 19) (hs : st.length ≤ 4) : gb_ex m (.invokeinterface 101 3 :: r) ls (.int x2 :: .int x1 :: .ref x0 :: st) p g = (gb_call 101 [.ref x0, .int x1, .int x2] p g).bind (fun w => gb_ex m r ls (psh w.1 st) w.2.1 w.2.2) :=
  gb_ex_cl (k := 101) (n := 3) (st' := .int x2 :: .int x1 :: .ref x0 :: st) (by
    have h1 : 3 ≤ (.int x2 :: .int x1 :: .ref x0 :: st : List Value).length := by simp
    have h2 : gb_rcv 101 [.ref x0, .int x1, .int x2] p = true := by
      show (true && true && true && decide (atag p x0 = 19)) = true
      rw [h]
      rfl
    simp only [gb_stp]
    exact if_pos ⟨h1, hs, h2⟩)
theorem cl_GB_cost {p : gb_Pi} {g : gb_Sg} {x0 : Nat} {x1 : Int32} {x2 : Int32} : gb_call 101 [.ref x0, .int x1, .int x2] p g = gb_ex 101 bk_GB_cost_0 [.ref x0, .int x1, .int x2, .null] [] p g := rfl
theorem xc_GB_parting {m : Nat} {r : List Instr} {ls st : List Value} {p : gb_Pi} {g : gb_Sg} {x0 : Nat} {x1 : Int32} {x2 : Int32} (h : atag p x0 = 19) (hs : st.length ≤ 4) : gb_ex m (.invokeinterface 102 3 :: r) ls (.int x2 :: .int x1 :: .ref x0 :: st) p g = (gb_call 102 [.ref x0, .int x1, .int x2] p g).bind (fun w => gb_ex m r ls (psh w.1 st) w.2.1 w.2.2) :=
  gb_ex_cl (k := 102) (n := 3) (st' := .int x2 :: .int x1 :: .ref x0 :: st) (by
    have h1 : 3 ≤ (.int x2 :: .int x1 :: .ref x0 :: st : List Value).length := by simp
    have h2 : gb_rcv 102 [.ref x0, .int x1, .int x2] p = true := by
      show (true && true && true && decide (atag p x0 = 19)) = true
      rw [h]
      rfl
    simp only [gb_stp]
    exact if_pos ⟨h1, hs, h2⟩)
theorem cl_GB_parting {p : gb_Pi} {g : gb_Sg} {x0 : Nat} {x1 : Int32} {x2 : Int32} : gb_call 102 [.ref x0, .int x1, .int x2] p g = gb_ex 102 bk_GB_parting_0 [.ref x0, .int x1, .int x2] [] p g := rfl
theorem xc_GB_shown {m : Nat} {r : List Instr} {ls st : List Value} {p : gb_Pi} {g : gb_Sg} {x0 : Nat} {x1 : Int32} {x2 : Int32} {x3 : Int32} (h : atag p x0 = 19) (hs : st.length ≤ 4) : gb_ex m (.invokeinterface 103 4 :: r) ls (.int x3 :: .int x2 :: .int x1 :: .ref x0 :: st) p g = (gb_call 103 [.ref x0, .int x1, .int x2, .int x3] p g).bind (fun w => gb_ex m r ls (psh w.1 st) w.2.1 w.2.2) :=
  gb_ex_cl (k := 103) (n := 4) (st' := .int x3 :: .int x2 :: .int x1 :: .ref x0 :: st) (by
    have h1 : 4 ≤ (.int x3 :: .int x2 :: .int x1 :: .ref x0 :: st : List Value).length := by simp
    have h2 : gb_rcv 103 [.ref x0, .int x1, .int x2, .int x3] p = true := by
      show (true && true && true && decide (atag p x0 = 19)) = true
      rw [h]
      rfl
    simp only [gb_stp]
    exact if_pos ⟨h1, hs, h2⟩)
theorem cl_GB_shown {p : gb_Pi} {g : gb_Sg} {x0 : Nat} {x1 : Int32} {x2 : Int32} {x3 : Int32} : gb_call 103 [.ref x0, .int x1, .int x2, .int x3] p g = gb_ex 103 bk_GB_shown_0 [.ref x0, .int x1, .int x2, .int x3] [] p g := rfl
theorem xc_GB_keep {m : Nat} {r : List Instr} {ls st : List Value} {p : gb_Pi} {g : gb_Sg} {x0 : Nat} (h : atag p x0 = 19) (hs : st.length ≤ 4) : gb_ex m (.invokeinterface 104 1 :: r) ls (.ref x0 :: st) p g = (gb_call 104 [.ref x0] p g).bind (fun w => gb_ex m r ls (psh w.1 st) w.2.1 w.2.2) :=
  gb_ex_cl (k := 104) (n := 1) (st' := .ref x0 :: st) (by
    have h1 : 1 ≤ (.ref x0 :: st : List Value).length := by simp
    have h2 : gb_rcv 104 [.ref x0] p = true := by
      show (true && true && true && decide (atag p x0 = 19)) = true
      rw [h]
      rfl
    simp only [gb_stp]
    exact if_pos ⟨h1, hs, h2⟩)
theorem cl_GB_keep {p : gb_Pi} {g : gb_Sg} {x0 : Nat} : gb_call 104 [.ref x0] p g = gb_ex 104 bk_GB_keep_0 [.ref x0] [] p g := rfl
theorem xc_GB_back {m : Nat} {r : List Instr} {ls st : List Value} {p : gb_Pi} {g : gb_Sg} {x0 : Nat} (h : atag p x0 = 19) (hs : st.length ≤ 4) : gb_ex m (.invokeinterface 105 1 :: r) ls (.ref x0 :: st) p g = (gb_call 105 [.ref x0] p g).bind (fun w => gb_ex m r ls (psh w.1 st) w.2.1 w.2.2) :=
  gb_ex_cl (k := 105) (n := 1) (st' := .ref x0 :: st) (by
    have h1 : 1 ≤ (.ref x0 :: st : List Value).length := by simp
    have h2 : gb_rcv 105 [.ref x0] p = true := by
      show (true && true && true && decide (atag p x0 = 19)) = true
      rw [h]
      rfl
    simp only [gb_stp]
    exact if_pos ⟨h1, hs, h2⟩)
theorem cl_GB_back {p : gb_Pi} {g : gb_Sg} {x0 : Nat} : gb_call 105 [.ref x0] p g = gb_ex 105 bk_GB_back_0 [.ref x0] [] p g := rfl
theorem xc_GB_count {m : Nat} {r : List Instr} {ls st : List Value} {p : gb_Pi} {g : gb_Sg} {x0 : Nat} {x1 : Int32} (h : atag p x0 = 19) (hs : st.length ≤ 4) : gb_ex m (.invokeinterface 106 2 :: r) ls (.int x1 :: .ref x0 :: st) p g = (gb_call 106 [.ref x0, .int x1] p g).bind (fun w => gb_ex m r ls (psh w.1 st) w.2.1 w.2.2) :=
  gb_ex_cl (k := 106) (n := 2) (st' := .int x1 :: .ref x0 :: st) (by
    have h1 : 2 ≤ (.int x1 :: .ref x0 :: st : List Value).length := by simp
    have h2 : gb_rcv 106 [.ref x0, .int x1] p = true := by
      show (true && true && true && decide (atag p x0 = 19)) = true
      rw [h]
      rfl
    simp only [gb_stp]
    exact if_pos ⟨h1, hs, h2⟩)
theorem cl_GB_count {p : gb_Pi} {g : gb_Sg} {x0 : Nat} {x1 : Int32} : gb_call 106 [.ref x0, .int x1] p g = gb_ex 106 bk_GB_count_0 [.ref x0, .int x1] [] p g := rfl
theorem xc_GB_within {m : Nat} {r : List Instr} {ls st : List Value} {p : gb_Pi} {g : gb_Sg} {x0 : Int32} {x1 : Int32} {x2 : Int32} (hs : st.length ≤ 4) : gb_ex m (.invokeinterface 107 3 :: r) ls (.int x2 :: .int x1 :: .int x0 :: st) p g = (gb_call 107 [.int x0, .int x1, .int x2] p g).bind (fun w => gb_ex m r ls (psh w.1 st) w.2.1 w.2.2) :=
  gb_ex_cl (k := 107) (n := 3) (st' := .int x2 :: .int x1 :: .int x0 :: st) (by
    have h1 : 3 ≤ (.int x2 :: .int x1 :: .int x0 :: st : List Value).length := by simp
    have h2 : gb_rcv 107 [.int x0, .int x1, .int x2] p = true := by rfl
    simp only [gb_stp]
    exact if_pos ⟨h1, hs, h2⟩)
theorem cl_GB_within {p : gb_Pi} {g : gb_Sg} {x0 : Int32} {x1 : Int32} {x2 : Int32} : gb_call 107 [.int x0, .int x1, .int x2] p g = gb_ex 107 bk_GB_within_0 [.int x0, .int x1, .int x2] [] p g := rfl
theorem xc_GB_isHour {m : Nat} {r : List Instr} {ls st : List Value} {p : gb_Pi} {g : gb_Sg} {x0 : Int32} (hs : st.length ≤ 4) : gb_ex m (.invokeinterface 108 1 :: r) ls (.int x0 :: st) p g = (gb_call 108 [.int x0] p g).bind (fun w => gb_ex m r ls (psh w.1 st) w.2.1 w.2.2) :=
  gb_ex_cl (k := 108) (n := 1) (st' := .int x0 :: st) (by
    have h1 : 1 ≤ (.int x0 :: st : List Value).length := by simp
    have h2 : gb_rcv 108 [.int x0] p = true := by rfl
    simp only [gb_stp]
    exact if_pos ⟨h1, hs, h2⟩)
theorem cl_GB_isHour {p : gb_Pi} {g : gb_Sg} {x0 : Int32} : gb_call 108 [.int x0] p g = gb_ex 108 bk_GB_isHour_0 [.int x0] [] p g := rfl
theorem xc_GB_isEyes {m : Nat} {r : List Instr} {ls st : List Value} {p : gb_Pi} {g : gb_Sg} {x0 : Int32} (hs : st.length ≤ 4) : gb_ex m (.invokeinterface 109 1 :: r) ls (.int x0 :: st) p g = (gb_call 109 [.int x0] p g).bind (fun w => gb_ex m r ls (psh w.1 st) w.2.1 w.2.2) :=
  gb_ex_cl (k := 109) (n := 1) (st' := .int x0 :: st) (by
    have h1 : 1 ≤ (.int x0 :: st : List Value).length := by simp
    have h2 : gb_rcv 109 [.int x0] p = true := by rfl
    simp only [gb_stp]
    exact if_pos ⟨h1, hs, h2⟩)
theorem cl_GB_isEyes {p : gb_Pi} {g : gb_Sg} {x0 : Int32} : gb_call 109 [.int x0] p g = gb_ex 109 bk_GB_isEyes_0 [.int x0] [] p g := rfl
theorem xc_GB_isTest {m : Nat} {r : List Instr} {ls st : List Value} {p : gb_Pi} {g : gb_Sg} {x0 : Int32} (hs : st.length ≤ 4) : gb_ex m (.invokeinterface 110 1 :: r) ls (.int x0 :: st) p g = (gb_call 110 [.int x0] p g).bind (fun w => gb_ex m r ls (psh w.1 st) w.2.1 w.2.2) :=
  gb_ex_cl (k := 110) (n := 1) (st' := .int x0 :: st) (by
    have h1 : 1 ≤ (.int x0 :: st : List Value).length := by simp
    have h2 : gb_rcv 110 [.int x0] p = true := by rfl
    simp only [gb_stp]
    exact if_pos ⟨h1, hs, h2⟩)
theorem cl_GB_isTest {p : gb_Pi} {g : gb_Sg} {x0 : Int32} : gb_call 110 [.int x0] p g = gb_ex 110 bk_GB_isTest_0 [.int x0] [] p g := rfl
theorem xc_GB_isShown {m : Nat} {r : List Instr} {ls st : List Value} {p : gb_Pi} {g : gb_Sg} {x0 : Int32} (hs : st.length ≤ 4) : gb_ex m (.invokeinterface 111 1 :: r) ls (.int x0 :: st) p g = (gb_call 111 [.int x0] p g).bind (fun w => gb_ex m r ls (psh w.1 st) w.2.1 w.2.2) :=
  gb_ex_cl (k := 111) (n := 1) (st' := .int x0 :: st) (by
    have h1 : 1 ≤ (.int x0 :: st : List Value).length := by simp
    have h2 : gb_rcv 111 [.int x0] p = true := by rfl
    simp only [gb_stp]
    exact if_pos ⟨h1, hs, h2⟩)
theorem cl_GB_isShown {p : gb_Pi} {g : gb_Sg} {x0 : Int32} : gb_call 111 [.int x0] p g = gb_ex 111 bk_GB_isShown_0 [.int x0] [] p g := rfl
theorem xc_GB_isSet {m : Nat} {r : List Instr} {ls st : List Value} {p : gb_Pi} {g : gb_Sg} {x0 : Int32} (hs : st.length ≤ 4) : gb_ex m (.invokeinterface 112 1 :: r) ls (.int x0 :: st) p g = (gb_call 112 [.int x0] p g).bind (fun w => gb_ex m r ls (psh w.1 st) w.2.1 w.2.2) :=
  gb_ex_cl (k := 112) (n := 1) (st' := .int x0 :: st) (by
    have h1 : 1 ≤ (.int x0 :: st : List Value).length := by simp
    have h2 : gb_rcv 112 [.int x0] p = true := by rfl
    simp only [gb_stp]
    exact if_pos ⟨h1, hs, h2⟩)
theorem cl_GB_isSet {p : gb_Pi} {g : gb_Sg} {x0 : Int32} : gb_call 112 [.int x0] p g = gb_ex 112 bk_GB_isSet_0 [.int x0] [] p g := rfl
theorem xc_GB_isCell {m : Nat} {r : List Instr} {ls st : List Value} {p : gb_Pi} {g : gb_Sg} {x0 : Nat} {x1 : Int32} (h : atag p x0 = 19) (hs : st.length ≤ 4) : gb_ex m (.invokeinterface 113 2 :: r) ls (.int x1 :: .ref x0 :: st) p g = (gb_call 113 [.ref x0, .int x1] p g).bind (fun w => gb_ex m r ls (psh w.1 st) w.2.1 w.2.2) :=
  gb_ex_cl (k := 113) (n := 2) (st' := .int x1 :: .ref x0 :: st) (by
    have h1 : 2 ≤ (.int x1 :: .ref x0 :: st : List Value).length := by simp
    have h2 : gb_rcv 113 [.ref x0, .int x1] p = true := by
      show (true && true && true && decide (atag p x0 = 19)) = true
      rw [h]
      rfl
    simp only [gb_stp]
    exact if_pos ⟨h1, hs, h2⟩)
theorem cl_GB_isCell {p : gb_Pi} {g : gb_Sg} {x0 : Nat} {x1 : Int32} : gb_call 113 [.ref x0, .int x1] p g = gb_ex 113 bk_GB_isCell_0 [.ref x0, .int x1] [] p g := rfl
theorem xc_GB_isKind {m : Nat} {r : List Instr} {ls st : List Value} {p : gb_Pi} {g : gb_Sg} {x0 : Nat} {x1 : Int32} (h : atag p x0 = 19) (hs : st.length ≤ 4) : gb_ex m (.invokeinterface 114 2 :: r) ls (.int x1 :: .ref x0 :: st) p g = (gb_call 114 [.ref x0, .int x1] p g).bind (fun w => gb_ex m r ls (psh w.1 st) w.2.1 w.2.2) :=
  gb_ex_cl (k := 114) (n := 2) (st' := .int x1 :: .ref x0 :: st) (by
    have h1 : 2 ≤ (.int x1 :: .ref x0 :: st : List Value).length := by simp
    have h2 : gb_rcv 114 [.ref x0, .int x1] p = true := by
      show (true && true && true && decide (atag p x0 = 19)) = true
      rw [h]
      rfl
    simp only [gb_stp]
    exact if_pos ⟨h1, hs, h2⟩)
theorem cl_GB_isKind {p : gb_Pi} {g : gb_Sg} {x0 : Nat} {x1 : Int32} : gb_call 114 [.ref x0, .int x1] p g = gb_ex 114 bk_GB_isKind_0 [.ref x0, .int x1] [] p g := rfl
theorem xc_GB_isLoss {m : Nat} {r : List Instr} {ls st : List Value} {p : gb_Pi} {g : gb_Sg} {x0 : Nat} {x1 : Int32} (h : atag p x0 = 19) (hs : st.length ≤ 4) : gb_ex m (.invokeinterface 115 2 :: r) ls (.int x1 :: .ref x0 :: st) p g = (gb_call 115 [.ref x0, .int x1] p g).bind (fun w => gb_ex m r ls (psh w.1 st) w.2.1 w.2.2) :=
  gb_ex_cl (k := 115) (n := 2) (st' := .int x1 :: .ref x0 :: st) (by
    have h1 : 2 ≤ (.int x1 :: .ref x0 :: st : List Value).length := by simp
    have h2 : gb_rcv 115 [.ref x0, .int x1] p = true := by
      show (true && true && true && decide (atag p x0 = 19)) = true
      rw [h]
      rfl
    simp only [gb_stp]
    exact if_pos ⟨h1, hs, h2⟩)
theorem cl_GB_isLoss {p : gb_Pi} {g : gb_Sg} {x0 : Nat} {x1 : Int32} : gb_call 115 [.ref x0, .int x1] p g = gb_ex 115 bk_GB_isLoss_0 [.ref x0, .int x1] [] p g := rfl
theorem xc_RM_init {m : Nat} {r : List Instr} {ls st : List Value} {p : gb_Pi} {g : gb_Sg} {x0 : Nat} (h : atag p x0 = 20) (hs : st.length ≤ 4) : gb_ex m (.invokeinterface 116 1 :: r) ls (.ref x0 :: st) p g = (gb_call 116 [.ref x0] p g).bind (fun w => gb_ex m r ls (psh w.1 st) w.2.1 w.2.2) :=
  gb_ex_cl (k := 116) (n := 1) (st' := .ref x0 :: st) (by
    have h1 : 1 ≤ (.ref x0 :: st : List Value).length := by simp
    have h2 : gb_rcv 116 [.ref x0] p = true := by
      show (true && true && true && decide (atag p x0 = 20)) = true
      rw [h]
      rfl
    simp only [gb_stp]
    exact if_pos ⟨h1, hs, h2⟩)
theorem cl_RM_init {p : gb_Pi} {g : gb_Sg} {x0 : Nat} : gb_call 116 [.ref x0] p g = gb_ex 116 bk_RM_init_0 [.ref x0] [] p g := rfl
theorem xc_RM_in {m : Nat} {r : List Instr} {ls st : List Value} {p : gb_Pi} {g : gb_Sg} {x0 : Int64} {x1 : Int64} {x2 : Int64} (hs : st.length ≤ 4) : gb_ex m (.invokeinterface 117 3 :: r) ls (.long x2 :: .long x1 :: .long x0 :: st) p g = (gb_call 117 [.long x0, .long x1, .long x2] p g).bind (fun w => gb_ex m r ls (psh w.1 st) w.2.1 w.2.2) :=
  gb_ex_cl (k := 117) (n := 3) (st' := .long x2 :: .long x1 :: .long x0 :: st) (by
    have h1 : 3 ≤ (.long x2 :: .long x1 :: .long x0 :: st : List Value).length := by simp
    have h2 : gb_rcv 117 [.long x0, .long x1, .long x2] p = true := by rfl
    simp only [gb_stp]
    exact if_pos ⟨h1, hs, h2⟩)
theorem cl_RM_in {p : gb_Pi} {g : gb_Sg} {x0 : Int64} {x1 : Int64} {x2 : Int64} : gb_call 117 [.long x0, .long x1, .long x2] p g = gb_ex 117 bk_RM_in_0 [.long x0, .null, .long x1, .null, .long x2, .null] [] p g := rfl
theorem xc_RM_write {m : Nat} {r : List Instr} {ls st : List Value} {p : gb_Pi} {g : gb_Sg} {x0 : Nat} {x1 : Int32} {x2 : Int64} (h : atag p x0 = 20) (hs : st.length ≤ 4) : gb_ex m (.invokeinterface 118 3 :: r) ls (.long x2 :: .int x1 :: .ref x0 :: st) p g = (gb_call 118 [.ref x0, .int x1, .long x2] p g).bind (fun w => gb_ex m r ls (psh w.1 st) w.2.1 w.2.2) :=
  gb_ex_cl (k := 118) (n := 3) (st' := .long x2 :: .int x1 :: .ref x0 :: st) (by
    have h1 : 3 ≤ (.long x2 :: .int x1 :: .ref x0 :: st : List Value).length := by simp
    have h2 : gb_rcv 118 [.ref x0, .int x1, .long x2] p = true := by
      show (true && true && true && decide (atag p x0 = 20)) = true
      rw [h]
      rfl
    simp only [gb_stp]
    exact if_pos ⟨h1, hs, h2⟩)
theorem cl_RM_write {p : gb_Pi} {g : gb_Sg} {x0 : Nat} {x1 : Int32} {x2 : Int64} : gb_call 118 [.ref x0, .int x1, .long x2] p g = gb_ex 118 bk_RM_write_0 [.ref x0, .int x1, .long x2, .null, .null] [] p g := rfl
theorem xc_RM_wipe {m : Nat} {r : List Instr} {ls st : List Value} {p : gb_Pi} {g : gb_Sg} {x0 : Nat} (h : atag p x0 = 20) (hs : st.length ≤ 4) : gb_ex m (.invokeinterface 119 1 :: r) ls (.ref x0 :: st) p g = (gb_call 119 [.ref x0] p g).bind (fun w => gb_ex m r ls (psh w.1 st) w.2.1 w.2.2) :=
  gb_ex_cl (k := 119) (n := 1) (st' := .ref x0 :: st) (by
    have h1 : 1 ≤ (.ref x0 :: st : List Value).length := by simp
    have h2 : gb_rcv 119 [.ref x0] p = true := by
      show (true && true && true && decide (atag p x0 = 20)) = true
      rw [h]
      rfl
    simp only [gb_stp]
    exact if_pos ⟨h1, hs, h2⟩)
theorem cl_RM_wipe {p : gb_Pi} {g : gb_Sg} {x0 : Nat} : gb_call 119 [.ref x0] p g = gb_ex 119 bk_RM_wipe_0 [.ref x0, .null] [] p g := rfl
theorem xc_RM_next {m : Nat} {r : List Instr} {ls st : List Value} {p : gb_Pi} {g : gb_Sg} {x0 : Nat} (h : atag p x0 = 20) (hs : st.length ≤ 4) : gb_ex m (.invokeinterface 120 1 :: r) ls (.ref x0 :: st) p g = (gb_call 120 [.ref x0] p g).bind (fun w => gb_ex m r ls (psh w.1 st) w.2.1 w.2.2) :=
  gb_ex_cl (k := 120) (n := 1) (st' := .ref x0 :: st) (by
    have h1 : 1 ≤ (.ref x0 :: st : List Value).length := by simp
    have h2 : gb_rcv 120 [.ref x0] p = true := by
      show (true && true && true && decide (atag p x0 = 20)) = true
      rw [h]
      rfl
    simp only [gb_stp]
    exact if_pos ⟨h1, hs, h2⟩)
theorem cl_RM_next {p : gb_Pi} {g : gb_Sg} {x0 : Nat} : gb_call 120 [.ref x0] p g = gb_ex 120 bk_RM_next_0 [.ref x0] [] p g := rfl
theorem xc_RM_value {m : Nat} {r : List Instr} {ls st : List Value} {p : gb_Pi} {g : gb_Sg} {x0 : Nat} {x1 : Int32} {x2 : Int32} (h : atag p x0 = 20) (hs : st.length ≤ 4) : gb_ex m (.invokeinterface 121 3 :: r) ls (.int x2 :: .int x1 :: .ref x0 :: st) p g = (gb_call 121 [.ref x0, .int x1, .int x2] p g).bind (fun w => gb_ex m r ls (psh w.1 st) w.2.1 w.2.2) :=
  gb_ex_cl (k := 121) (n := 3) (st' := .int x2 :: .int x1 :: .ref x0 :: st) (by
    have h1 : 3 ≤ (.int x2 :: .int x1 :: .ref x0 :: st : List Value).length := by simp
    have h2 : gb_rcv 121 [.ref x0, .int x1, .int x2] p = true := by
      show (true && true && true && decide (atag p x0 = 20)) = true
      rw [h]
      rfl
    simp only [gb_stp]
    exact if_pos ⟨h1, hs, h2⟩)
theorem cl_RM_value {p : gb_Pi} {g : gb_Sg} {x0 : Nat} {x1 : Int32} {x2 : Int32} : gb_call 121 [.ref x0, .int x1, .int x2] p g = gb_ex 121 bk_RM_value_0 [.ref x0, .int x1, .int x2, .null, .null, .null] [] p g := rfl
theorem xc_RM_more {m : Nat} {r : List Instr} {ls st : List Value} {p : gb_Pi} {g : gb_Sg} {x0 : Nat} {x1 : Int32} {x2 : Int32} (h : atag p x0 = 20) (hs : st.length ≤ 4) : gb_ex m (.invokeinterface 122 3 :: r) ls (.int x2 :: .int x1 :: .ref x0 :: st) p g = (gb_call 122 [.ref x0, .int x1, .int x2] p g).bind (fun w => gb_ex m r ls (psh w.1 st) w.2.1 w.2.2) :=
  gb_ex_cl (k := 122) (n := 3) (st' := .int x2 :: .int x1 :: .ref x0 :: st) (by
    have h1 : 3 ≤ (.int x2 :: .int x1 :: .ref x0 :: st : List Value).length := by simp
    have h2 : gb_rcv 122 [.ref x0, .int x1, .int x2] p = true := by
      show (true && true && true && decide (atag p x0 = 20)) = true
      rw [h]
      rfl
    simp only [gb_stp]
    exact if_pos ⟨h1, hs, h2⟩)
theorem cl_RM_more {p : gb_Pi} {g : gb_Sg} {x0 : Nat} {x1 : Int32} {x2 : Int32} : gb_call 122 [.ref x0, .int x1, .int x2] p g = gb_ex 122 bk_RM_more_0 [.ref x0, .int x1, .int x2] [] p g := rfl
theorem xc_RM_ends {m : Nat} {r : List Instr} {ls st : List Value} {p : gb_Pi} {g : gb_Sg} {x0 : Nat} (h : atag p x0 = 20) (hs : st.length ≤ 4) : gb_ex m (.invokeinterface 123 1 :: r) ls (.ref x0 :: st) p g = (gb_call 123 [.ref x0] p g).bind (fun w => gb_ex m r ls (psh w.1 st) w.2.1 w.2.2) :=
  gb_ex_cl (k := 123) (n := 1) (st' := .ref x0 :: st) (by
    have h1 : 1 ≤ (.ref x0 :: st : List Value).length := by simp
    have h2 : gb_rcv 123 [.ref x0] p = true := by
      show (true && true && true && decide (atag p x0 = 20)) = true
      rw [h]
      rfl
    simp only [gb_stp]
    exact if_pos ⟨h1, hs, h2⟩)
theorem cl_RM_ends {p : gb_Pi} {g : gb_Sg} {x0 : Nat} : gb_call 123 [.ref x0] p g = gb_ex 123 bk_RM_ends_0 [.ref x0] [] p g := rfl
theorem xc_RM_item {m : Nat} {r : List Instr} {ls st : List Value} {p : gb_Pi} {g : gb_Sg} {x0 : Nat} (h : atag p x0 = 20) (hs : st.length ≤ 4) : gb_ex m (.invokeinterface 124 1 :: r) ls (.ref x0 :: st) p g = (gb_call 124 [.ref x0] p g).bind (fun w => gb_ex m r ls (psh w.1 st) w.2.1 w.2.2) :=
  gb_ex_cl (k := 124) (n := 1) (st' := .ref x0 :: st) (by
    have h1 : 1 ≤ (.ref x0 :: st : List Value).length := by simp
    have h2 : gb_rcv 124 [.ref x0] p = true := by
      show (true && true && true && decide (atag p x0 = 20)) = true
      rw [h]
      rfl
    simp only [gb_stp]
    exact if_pos ⟨h1, hs, h2⟩)
theorem cl_RM_item {p : gb_Pi} {g : gb_Sg} {x0 : Nat} : gb_call 124 [.ref x0] p g = gb_ex 124 bk_RM_item_0 [.ref x0, .null, .null, .null, .null] [] p g := rfl
theorem xc_RM_kindItem {m : Nat} {r : List Instr} {ls st : List Value} {p : gb_Pi} {g : gb_Sg} {x0 : Nat} (h : atag p x0 = 20) (hs : st.length ≤ 4) : gb_ex m (.invokeinterface 125 1 :: r) ls (.ref x0 :: st) p g = (gb_call 125 [.ref x0] p g).bind (fun w => gb_ex m r ls (psh w.1 st) w.2.1 w.2.2) :=
  gb_ex_cl (k := 125) (n := 1) (st' := .ref x0 :: st) (by
    have h1 : 1 ≤ (.ref x0 :: st : List Value).length := by simp
    have h2 : gb_rcv 125 [.ref x0] p = true := by
      show (true && true && true && decide (atag p x0 = 20)) = true
      rw [h]
      rfl
    simp only [gb_stp]
    exact if_pos ⟨h1, hs, h2⟩)
theorem cl_RM_kindItem {p : gb_Pi} {g : gb_Sg} {x0 : Nat} : gb_call 125 [.ref x0] p g = gb_ex 125 bk_RM_kindItem_0 [.ref x0, .null, .null, .null, .null, .null] [] p g := rfl
theorem xc_RM_lossItem {m : Nat} {r : List Instr} {ls st : List Value} {p : gb_Pi} {g : gb_Sg} {x0 : Nat} (h : atag p x0 = 20) (hs : st.length ≤ 4) : gb_ex m (.invokeinterface 126 1 :: r) ls (.ref x0 :: st) p g = (gb_call 126 [.ref x0] p g).bind (fun w => gb_ex m r ls (psh w.1 st) w.2.1 w.2.2) :=
  gb_ex_cl (k := 126) (n := 1) (st' := .ref x0 :: st) (by
    have h1 : 1 ≤ (.ref x0 :: st : List Value).length := by simp
    have h2 : gb_rcv 126 [.ref x0] p = true := by
      show (true && true && true && decide (atag p x0 = 20)) = true
      rw [h]
      rfl
    simp only [gb_stp]
    exact if_pos ⟨h1, hs, h2⟩)
theorem cl_RM_lossItem {p : gb_Pi} {g : gb_Sg} {x0 : Nat} : gb_call 126 [.ref x0] p g = gb_ex 126 bk_RM_lossItem_0 [.ref x0, .null, .null, .null, .null, .null, .null] [] p g := rfl
theorem xc_RM_ruleItem {m : Nat} {r : List Instr} {ls st : List Value} {p : gb_Pi} {g : gb_Sg} {x0 : Nat} (h : atag p x0 = 20) (hs : st.length ≤ 4) : gb_ex m (.invokeinterface 127 1 :: r) ls (.ref x0 :: st) p g = (gb_call 127 [.ref x0] p g).bind (fun w => gb_ex m r ls (psh w.1 st) w.2.1 w.2.2) :=
  gb_ex_cl (k := 127) (n := 1) (st' := .ref x0 :: st) (by
    have h1 : 1 ≤ (.ref x0 :: st : List Value).length := by simp
    have h2 : gb_rcv 127 [.ref x0] p = true := by
      show (true && true && true && decide (atag p x0 = 20)) = true
      rw [h]
      rfl
    simp only [gb_stp]
    exact if_pos ⟨h1, hs, h2⟩)
theorem cl_RM_ruleItem {p : gb_Pi} {g : gb_Sg} {x0 : Nat} : gb_call 127 [.ref x0] p g = gb_ex 127 bk_RM_ruleItem_0 [.ref x0, .null, .null, .null, .null, .null, .null] [] p g := rfl
theorem xc_RM_fault {m : Nat} {r : List Instr} {ls st : List Value} {p : gb_Pi} {g : gb_Sg} {x0 : Nat} {x1 : Int32} (h : atag p x0 = 20) (hs : st.length ≤ 4) : gb_ex m (.invokeinterface 128 2 :: r) ls (.int x1 :: .ref x0 :: st) p g = (gb_call 128 [.ref x0, .int x1] p g).bind (fun w => gb_ex m r ls (psh w.1 st) w.2.1 w.2.2) :=
  gb_ex_cl (k := 128) (n := 2) (st' := .int x1 :: .ref x0 :: st) (by
    have h1 : 2 ≤ (.int x1 :: .ref x0 :: st : List Value).length := by simp
    have h2 : gb_rcv 128 [.ref x0, .int x1] p = true := by
      show (true && true && true && decide (atag p x0 = 20)) = true
      rw [h]
      rfl
    simp only [gb_stp]
    exact if_pos ⟨h1, hs, h2⟩)
theorem cl_RM_fault {p : gb_Pi} {g : gb_Sg} {x0 : Nat} {x1 : Int32} : gb_call 128 [.ref x0, .int x1] p g = gb_ex 128 bk_RM_fault_0 [.ref x0, .int x1, .null] [] p g := rfl
theorem xc_RM_lay {m : Nat} {r : List Instr} {ls st : List Value} {p : gb_Pi} {g : gb_Sg} {x0 : Nat} {x1 : Int32} (h : atag p x0 = 20) (hs : st.length ≤ 4) : gb_ex m (.invokeinterface 129 2 :: r) ls (.int x1 :: .ref x0 :: st) p g = (gb_call 129 [.ref x0, .int x1] p g).bind (fun w => gb_ex m r ls (psh w.1 st) w.2.1 w.2.2) :=
  gb_ex_cl (k := 129) (n := 2) (st' := .int x1 :: .ref x0 :: st) (by
    have h1 : 2 ≤ (.int x1 :: .ref x0 :: st : List Value).length := by simp
    have h2 : gb_rcv 129 [.ref x0, .int x1] p = true := by
      show (true && true && true && decide (atag p x0 = 20)) = true
      rw [h]
      rfl
    simp only [gb_stp]
    exact if_pos ⟨h1, hs, h2⟩)
theorem cl_RM_lay {p : gb_Pi} {g : gb_Sg} {x0 : Nat} {x1 : Int32} : gb_call 129 [.ref x0, .int x1] p g = gb_ex 129 bk_RM_lay_0 [.ref x0, .int x1, .null] [] p g := rfl
theorem xc_RM_isCell {m : Nat} {r : List Instr} {ls st : List Value} {p : gb_Pi} {g : gb_Sg} {x0 : Nat} {x1 : Int32} (h : atag p x0 = 20) (hs : st.length ≤ 4) : gb_ex m (.invokeinterface 130 2 :: r) ls (.int x1 :: .ref x0 :: st) p g = (gb_call 130 [.ref x0, .int x1] p g).bind (fun w => gb_ex m r ls (psh w.1 st) w.2.1 w.2.2) :=
  gb_ex_cl (k := 130) (n := 2) (st' := .int x1 :: .ref x0 :: st) (by
    have h1 : 2 ≤ (.int x1 :: .ref x0 :: st : List Value).length := by simp
    have h2 : gb_rcv 130 [.ref x0, .int x1] p = true := by
      show (true && true && true && decide (atag p x0 = 20)) = true
      rw [h]
      rfl
    simp only [gb_stp]
    exact if_pos ⟨h1, hs, h2⟩)
theorem cl_RM_isCell {p : gb_Pi} {g : gb_Sg} {x0 : Nat} {x1 : Int32} : gb_call 130 [.ref x0, .int x1] p g = gb_ex 130 bk_RM_isCell_0 [.ref x0, .int x1] [] p g := rfl
theorem xc_RM_isKind {m : Nat} {r : List Instr} {ls st : List Value} {p : gb_Pi} {g : gb_Sg} {x0 : Nat} {x1 : Int32} (h : atag p x0 = 20) (hs : st.length ≤ 4) : gb_ex m (.invokeinterface 131 2 :: r) ls (.int x1 :: .ref x0 :: st) p g = (gb_call 131 [.ref x0, .int x1] p g).bind (fun w => gb_ex m r ls (psh w.1 st) w.2.1 w.2.2) :=
  gb_ex_cl (k := 131) (n := 2) (st' := .int x1 :: .ref x0 :: st) (by
    have h1 : 2 ≤ (.int x1 :: .ref x0 :: st : List Value).length := by simp
    have h2 : gb_rcv 131 [.ref x0, .int x1] p = true := by
      show (true && true && true && decide (atag p x0 = 20)) = true
      rw [h]
      rfl
    simp only [gb_stp]
    exact if_pos ⟨h1, hs, h2⟩)
theorem cl_RM_isKind {p : gb_Pi} {g : gb_Sg} {x0 : Nat} {x1 : Int32} : gb_call 131 [.ref x0, .int x1] p g = gb_ex 131 bk_RM_isKind_0 [.ref x0, .int x1] [] p g := rfl
theorem xc_RM_isLoss {m : Nat} {r : List Instr} {ls st : List Value} {p : gb_Pi} {g : gb_Sg} {x0 : Nat} {x1 : Int32} (h : atag p x0 = 20) (hs : st.length ≤ 4) : gb_ex m (.invokeinterface 132 2 :: r) ls (.int x1 :: .ref x0 :: st) p g = (gb_call 132 [.ref x0, .int x1] p g).bind (fun w => gb_ex m r ls (psh w.1 st) w.2.1 w.2.2) :=
  gb_ex_cl (k := 132) (n := 2) (st' := .int x1 :: .ref x0 :: st) (by
    have h1 : 2 ≤ (.int x1 :: .ref x0 :: st : List Value).length := by simp
    have h2 : gb_rcv 132 [.ref x0, .int x1] p = true := by
      show (true && true && true && decide (atag p x0 = 20)) = true
      rw [h]
      rfl
    simp only [gb_stp]
    exact if_pos ⟨h1, hs, h2⟩)
theorem cl_RM_isLoss {p : gb_Pi} {g : gb_Sg} {x0 : Nat} {x1 : Int32} : gb_call 132 [.ref x0, .int x1] p g = gb_ex 132 bk_RM_isLoss_0 [.ref x0, .int x1] [] p g := rfl
theorem xc_RM_isHour {m : Nat} {r : List Instr} {ls st : List Value} {p : gb_Pi} {g : gb_Sg} {x0 : Int32} (hs : st.length ≤ 4) : gb_ex m (.invokeinterface 133 1 :: r) ls (.int x0 :: st) p g = (gb_call 133 [.int x0] p g).bind (fun w => gb_ex m r ls (psh w.1 st) w.2.1 w.2.2) :=
  gb_ex_cl (k := 133) (n := 1) (st' := .int x0 :: st) (by
    have h1 : 1 ≤ (.int x0 :: st : List Value).length := by simp
    have h2 : gb_rcv 133 [.int x0] p = true := by rfl
    simp only [gb_stp]
    exact if_pos ⟨h1, hs, h2⟩)
theorem cl_RM_isHour {p : gb_Pi} {g : gb_Sg} {x0 : Int32} : gb_call 133 [.int x0] p g = gb_ex 133 bk_RM_isHour_0 [.int x0] [] p g := rfl
theorem xc_RM_blows {m : Nat} {r : List Instr} {ls st : List Value} {p : gb_Pi} {g : gb_Sg} {x0 : Nat} {x1 : Int32} {x2 : Int32} (h : atag p x0 = 20) (hs : st.length ≤ 4) : gb_ex m (.invokeinterface 134 3 :: r) ls (.int x2 :: .int x1 :: .ref x0 :: st) p g = (gb_call 134 [.ref x0, .int x1, .int x2] p g).bind (fun w => gb_ex m r ls (psh w.1 st) w.2.1 w.2.2) :=
  gb_ex_cl (k := 134) (n := 3) (st' := .int x2 :: .int x1 :: .ref x0 :: st) (by
    have h1 : 3 ≤ (.int x2 :: .int x1 :: .ref x0 :: st : List Value).length := by simp
    have h2 : gb_rcv 134 [.ref x0, .int x1, .int x2] p = true := by
      show (true && true && true && decide (atag p x0 = 20)) = true
      rw [h]
      rfl
    simp only [gb_stp]
    exact if_pos ⟨h1, hs, h2⟩)
theorem cl_RM_blows {p : gb_Pi} {g : gb_Sg} {x0 : Nat} {x1 : Int32} {x2 : Int32} : gb_call 134 [.ref x0, .int x1, .int x2] p g = gb_ex 134 bk_RM_blows_0 [.ref x0, .int x1, .int x2, .null, .null] [] p g := rfl
theorem xc_RM_drifts {m : Nat} {r : List Instr} {ls st : List Value} {p : gb_Pi} {g : gb_Sg} {x0 : Nat} {x1 : Int32} {x2 : Int32} {x3 : Int32} {x4 : Int32} (h : atag p x0 = 20) (hs : st.length ≤ 4) : gb_ex m (.invokeinterface 135 5 :: r) ls (.int x4 :: .int x3 :: .int x2 :: .int x1 :: .ref x0 :: st) p g = (gb_call 135 [.ref x0, .int x1, .int x2, .int x3, .int x4] p g).bind (fun w => gb_ex m r ls (psh w.1 st) w.2.1 w.2.2) :=
  gb_ex_cl (k := 135) (n := 5) (st' := .int x4 :: .int x3 :: .int x2 :: .int x1 :: .ref x0 :: st) (by
    have h1 : 5 ≤ (.int x4 :: .int x3 :: .int x2 :: .int x1 :: .ref x0 :: st : List Value).length := by simp
    have h2 : gb_rcv 135 [.ref x0, .int x1, .int x2, .int x3, .int x4] p = true := by
      show (true && true && true && decide (atag p x0 = 20)) = true
      rw [h]
      rfl
    simp only [gb_stp]
    exact if_pos ⟨h1, hs, h2⟩)
theorem cl_RM_drifts {p : gb_Pi} {g : gb_Sg} {x0 : Nat} {x1 : Int32} {x2 : Int32} {x3 : Int32} {x4 : Int32} : gb_call 135 [.ref x0, .int x1, .int x2, .int x3, .int x4] p g = gb_ex 135 bk_RM_drifts_0 [.ref x0, .int x1, .int x2, .int x3, .int x4, .null, .null, .null, .null] [] p g := rfl
theorem xc_RM_drift {m : Nat} {r : List Instr} {ls st : List Value} {p : gb_Pi} {g : gb_Sg} {x0 : Nat} {x1 : Int32} {x2 : Int32} {x3 : Int32} {x4 : Int32} {x5 : Int32} (h : atag p x0 = 20) (hs : st.length ≤ 4) : gb_ex m (.invokeinterface 136 6 :: r) ls (.int x5 :: .int x4 :: .int x3 :: .int x2 :: .int x1 :: .ref x0 :: st) p g = (gb_call 136 [.ref x0, .int x1, .int x2, .int x3, .int x4, .int x5] p g).bind (fun w => gb_ex m r ls (psh w.1 st) w.2.1 w.2.2) :=
  gb_ex_cl (k := 136) (n := 6) (st' := .int x5 :: .int x4 :: .int x3 :: .int x2 :: .int x1 :: .ref x0 :: st) (by
    have h1 : 6 ≤ (.int x5 :: .int x4 :: .int x3 :: .int x2 :: .int x1 :: .ref x0 :: st : List Value).length := by simp
    have h2 : gb_rcv 136 [.ref x0, .int x1, .int x2, .int x3, .int x4, .int x5] p = true := by
      show (true && true && true && decide (atag p x0 = 20)) = true
      rw [h]
      rfl
    simp only [gb_stp]
    exact if_pos ⟨h1, hs, h2⟩)
theorem cl_RM_drift {p : gb_Pi} {g : gb_Sg} {x0 : Nat} {x1 : Int32} {x2 : Int32} {x3 : Int32} {x4 : Int32} {x5 : Int32} : gb_call 136 [.ref x0, .int x1, .int x2, .int x3, .int x4, .int x5] p g = gb_ex 136 bk_RM_drift_0 [.ref x0, .int x1, .int x2, .int x3, .int x4, .int x5, .null] [] p g := rfl
theorem xc_RM_laysWorlds {m : Nat} {r : List Instr} {ls st : List Value} {p : gb_Pi} {g : gb_Sg} {x0 : Nat} {x1 : Int32} (h : atag p x0 = 20) (hs : st.length ≤ 4) : gb_ex m (.invokeinterface 137 2 :: r) ls (.int x1 :: .ref x0 :: st) p g = (gb_call 137 [.ref x0, .int x1] p g).bind (fun w => gb_ex m r ls (psh w.1 st) w.2.1 w.2.2) :=
  gb_ex_cl (k := 137) (n := 2) (st' := .int x1 :: .ref x0 :: st) (by
    have h1 : 2 ≤ (.int x1 :: .ref x0 :: st : List Value).length := by simp
    have h2 : gb_rcv 137 [.ref x0, .int x1] p = true := by
      show (true && true && true && decide (atag p x0 = 20)) = true
      rw [h]
      rfl
    simp only [gb_stp]
    exact if_pos ⟨h1, hs, h2⟩)
theorem cl_RM_laysWorlds {p : gb_Pi} {g : gb_Sg} {x0 : Nat} {x1 : Int32} : gb_call 137 [.ref x0, .int x1] p g = gb_ex 137 bk_RM_laysWorlds_0 [.ref x0, .int x1, .null, .null, .null, .null] [] p g := rfl
theorem xc_RM_counts {m : Nat} {r : List Instr} {ls st : List Value} {p : gb_Pi} {g : gb_Sg} {x0 : Nat} {x1 : Int32} {x2 : Int32} {x3 : Int32} {x4 : Int32} {x5 : Int32} {x6 : Int32} (h : atag p x0 = 20) (hs : st.length ≤ 4) : gb_ex m (.invokeinterface 138 7 :: r) ls (.int x6 :: .int x5 :: .int x4 :: .int x3 :: .int x2 :: .int x1 :: .ref x0 :: st) p g = (gb_call 138 [.ref x0, .int x1, .int x2, .int x3, .int x4, .int x5, .int x6] p g).bind (fun w => gb_ex m r ls (psh w.1 st) w.2.1 w.2.2) :=
  gb_ex_cl (k := 138) (n := 7) (st' := .int x6 :: .int x5 :: .int x4 :: .int x3 :: .int x2 :: .int x1 :: .ref x0 :: st) (by
    have h1 : 7 ≤ (.int x6 :: .int x5 :: .int x4 :: .int x3 :: .int x2 :: .int x1 :: .ref x0 :: st : List Value).length := by simp
    have h2 : gb_rcv 138 [.ref x0, .int x1, .int x2, .int x3, .int x4, .int x5, .int x6] p = true := by
      show (true && true && true && decide (atag p x0 = 20)) = true
      rw [h]
      rfl
    simp only [gb_stp]
    exact if_pos ⟨h1, hs, h2⟩)
theorem cl_RM_counts {p : gb_Pi} {g : gb_Sg} {x0 : Nat} {x1 : Int32} {x2 : Int32} {x3 : Int32} {x4 : Int32} {x5 : Int32} {x6 : Int32} : gb_call 138 [.ref x0, .int x1, .int x2, .int x3, .int x4, .int x5, .int x6] p g = gb_ex 138 bk_RM_counts_0 [.ref x0, .int x1, .int x2, .int x3, .int x4, .int x5, .int x6, .null, .null, .null] [] p g := rfl
theorem xc_RM_worlds {m : Nat} {r : List Instr} {ls st : List Value} {p : gb_Pi} {g : gb_Sg} {x0 : Nat} {x1 : Int32} {x2 : Int32} (h : atag p x0 = 20) (hs : st.length ≤ 4) : gb_ex m (.invokeinterface 139 3 :: r) ls (.int x2 :: .int x1 :: .ref x0 :: st) p g = (gb_call 139 [.ref x0, .int x1, .int x2] p g).bind (fun w => gb_ex m r ls (psh w.1 st) w.2.1 w.2.2) :=
  gb_ex_cl (k := 139) (n := 3) (st' := .int x2 :: .int x1 :: .ref x0 :: st) (by
    have h1 : 3 ≤ (.int x2 :: .int x1 :: .ref x0 :: st : List Value).length := by simp
    have h2 : gb_rcv 139 [.ref x0, .int x1, .int x2] p = true := by
      show (true && true && true && decide (atag p x0 = 20)) = true
      rw [h]
      rfl
    simp only [gb_stp]
    exact if_pos ⟨h1, hs, h2⟩)
theorem cl_RM_worlds {p : gb_Pi} {g : gb_Sg} {x0 : Nat} {x1 : Int32} {x2 : Int32} : gb_call 139 [.ref x0, .int x1, .int x2] p g = gb_ex 139 bk_RM_worlds_0 [.ref x0, .int x1, .int x2, .null] [] p g := rfl
theorem xc_RM_ashore {m : Nat} {r : List Instr} {ls st : List Value} {p : gb_Pi} {g : gb_Sg} {x0 : Nat} {x1 : Int32} {x2 : Int32} {x3 : Int32} {x4 : Int32} (h : atag p x0 = 20) (hs : st.length ≤ 4) : gb_ex m (.invokeinterface 140 5 :: r) ls (.int x4 :: .int x3 :: .int x2 :: .int x1 :: .ref x0 :: st) p g = (gb_call 140 [.ref x0, .int x1, .int x2, .int x3, .int x4] p g).bind (fun w => gb_ex m r ls (psh w.1 st) w.2.1 w.2.2) :=
  gb_ex_cl (k := 140) (n := 5) (st' := .int x4 :: .int x3 :: .int x2 :: .int x1 :: .ref x0 :: st) (by
    have h1 : 5 ≤ (.int x4 :: .int x3 :: .int x2 :: .int x1 :: .ref x0 :: st : List Value).length := by simp
    have h2 : gb_rcv 140 [.ref x0, .int x1, .int x2, .int x3, .int x4] p = true := by
      show (true && true && true && decide (atag p x0 = 20)) = true
      rw [h]
      rfl
    simp only [gb_stp]
    exact if_pos ⟨h1, hs, h2⟩)
theorem cl_RM_ashore {p : gb_Pi} {g : gb_Sg} {x0 : Nat} {x1 : Int32} {x2 : Int32} {x3 : Int32} {x4 : Int32} : gb_call 140 [.ref x0, .int x1, .int x2, .int x3, .int x4] p g = gb_ex 140 bk_RM_ashore_0 [.ref x0, .int x1, .int x2, .int x3, .int x4] [] p g := rfl
theorem xc_RM_find {m : Nat} {r : List Instr} {ls st : List Value} {p : gb_Pi} {g : gb_Sg} {x0 : Nat} {x1 : Int32} {x2 : Int32} {x3 : Int32} (h : atag p x0 = 20) (hs : st.length ≤ 4) : gb_ex m (.invokeinterface 141 4 :: r) ls (.int x3 :: .int x2 :: .int x1 :: .ref x0 :: st) p g = (gb_call 141 [.ref x0, .int x1, .int x2, .int x3] p g).bind (fun w => gb_ex m r ls (psh w.1 st) w.2.1 w.2.2) :=
  gb_ex_cl (k := 141) (n := 4) (st' := .int x3 :: .int x2 :: .int x1 :: .ref x0 :: st) (by
    have h1 : 4 ≤ (.int x3 :: .int x2 :: .int x1 :: .ref x0 :: st : List Value).length := by simp
    have h2 : gb_rcv 141 [.ref x0, .int x1, .int x2, .int x3] p = true := by
      show (true && true && true && decide (atag p x0 = 20)) = true
      rw [h]
      rfl
    simp only [gb_stp]
    exact if_pos ⟨h1, hs, h2⟩)
theorem cl_RM_find {p : gb_Pi} {g : gb_Sg} {x0 : Nat} {x1 : Int32} {x2 : Int32} {x3 : Int32} : gb_call 141 [.ref x0, .int x1, .int x2, .int x3] p g = gb_ex 141 bk_RM_find_0 [.ref x0, .int x1, .int x2, .int x3, .null] [] p g := rfl
theorem xc_RM_fromOf {m : Nat} {r : List Instr} {ls st : List Value} {p : gb_Pi} {g : gb_Sg} {x0 : Nat} {x1 : Int32} (h : atag p x0 = 20) (hs : st.length ≤ 4) : gb_ex m (.invokeinterface 142 2 :: r) ls (.int x1 :: .ref x0 :: st) p g = (gb_call 142 [.ref x0, .int x1] p g).bind (fun w => gb_ex m r ls (psh w.1 st) w.2.1 w.2.2) :=
  gb_ex_cl (k := 142) (n := 2) (st' := .int x1 :: .ref x0 :: st) (by
    have h1 : 2 ≤ (.int x1 :: .ref x0 :: st : List Value).length := by simp
    have h2 : gb_rcv 142 [.ref x0, .int x1] p = true := by
      show (true && true && true && decide (atag p x0 = 20)) = true
      rw [h]
      rfl
    simp only [gb_stp]
    exact if_pos ⟨h1, hs, h2⟩)
theorem cl_RM_fromOf {p : gb_Pi} {g : gb_Sg} {x0 : Nat} {x1 : Int32} : gb_call 142 [.ref x0, .int x1] p g = gb_ex 142 bk_RM_fromOf_0 [.ref x0, .int x1, .null, .null, .null] [] p g := rfl
theorem xc_RM_from {m : Nat} {r : List Instr} {ls st : List Value} {p : gb_Pi} {g : gb_Sg} {x0 : Nat} {x1 : Int32} (h : atag p x0 = 20) (hs : st.length ≤ 4) : gb_ex m (.invokeinterface 143 2 :: r) ls (.int x1 :: .ref x0 :: st) p g = (gb_call 143 [.ref x0, .int x1] p g).bind (fun w => gb_ex m r ls (psh w.1 st) w.2.1 w.2.2) :=
  gb_ex_cl (k := 143) (n := 2) (st' := .int x1 :: .ref x0 :: st) (by
    have h1 : 2 ≤ (.int x1 :: .ref x0 :: st : List Value).length := by simp
    have h2 : gb_rcv 143 [.ref x0, .int x1] p = true := by
      show (true && true && true && decide (atag p x0 = 20)) = true
      rw [h]
      rfl
    simp only [gb_stp]
    exact if_pos ⟨h1, hs, h2⟩)
theorem cl_RM_from {p : gb_Pi} {g : gb_Sg} {x0 : Nat} {x1 : Int32} : gb_call 143 [.ref x0, .int x1] p g = gb_ex 143 bk_RM_from_0 [.ref x0, .int x1] [] p g := rfl
theorem xc_RM_parts {m : Nat} {r : List Instr} {ls st : List Value} {p : gb_Pi} {g : gb_Sg} {x0 : Nat} (h : atag p x0 = 20) (hs : st.length ≤ 4) : gb_ex m (.invokeinterface 144 1 :: r) ls (.ref x0 :: st) p g = (gb_call 144 [.ref x0] p g).bind (fun w => gb_ex m r ls (psh w.1 st) w.2.1 w.2.2) :=
  gb_ex_cl (k := 144) (n := 1) (st' := .ref x0 :: st) (by
    have h1 : 1 ≤ (.ref x0 :: st : List Value).length := by simp
    have h2 : gb_rcv 144 [.ref x0] p = true := by
      show (true && true && true && decide (atag p x0 = 20)) = true
      rw [h]
      rfl
    simp only [gb_stp]
    exact if_pos ⟨h1, hs, h2⟩)
theorem cl_RM_parts {p : gb_Pi} {g : gb_Sg} {x0 : Nat} : gb_call 144 [.ref x0] p g = gb_ex 144 bk_RM_parts_0 [.ref x0, .null, .null, .null, .null, .null] [] p g := rfl
theorem xc_RM_parted {m : Nat} {r : List Instr} {ls st : List Value} {p : gb_Pi} {g : gb_Sg} {x0 : Nat} {x1 : Int32} (h : atag p x0 = 20) (hs : st.length ≤ 4) : gb_ex m (.invokeinterface 145 2 :: r) ls (.int x1 :: .ref x0 :: st) p g = (gb_call 145 [.ref x0, .int x1] p g).bind (fun w => gb_ex m r ls (psh w.1 st) w.2.1 w.2.2) :=
  gb_ex_cl (k := 145) (n := 2) (st' := .int x1 :: .ref x0 :: st) (by
    have h1 : 2 ≤ (.int x1 :: .ref x0 :: st : List Value).length := by simp
    have h2 : gb_rcv 145 [.ref x0, .int x1] p = true := by
      show (true && true && true && decide (atag p x0 = 20)) = true
      rw [h]
      rfl
    simp only [gb_stp]
    exact if_pos ⟨h1, hs, h2⟩)
theorem cl_RM_parted {p : gb_Pi} {g : gb_Sg} {x0 : Nat} {x1 : Int32} : gb_call 145 [.ref x0, .int x1] p g = gb_ex 145 bk_RM_parted_0 [.ref x0, .int x1] [] p g := rfl
theorem xc_RM_report {m : Nat} {r : List Instr} {ls st : List Value} {p : gb_Pi} {g : gb_Sg} {x0 : Nat} {x1 : Int32} {x2 : Int32} {x3 : Int32} {x4 : Int32} {x5 : Int32} (h : atag p x0 = 20) (hs : st.length ≤ 4) : gb_ex m (.invokeinterface 146 6 :: r) ls (.int x5 :: .int x4 :: .int x3 :: .int x2 :: .int x1 :: .ref x0 :: st) p g = (gb_call 146 [.ref x0, .int x1, .int x2, .int x3, .int x4, .int x5] p g).bind (fun w => gb_ex m r ls (psh w.1 st) w.2.1 w.2.2) :=
  gb_ex_cl (k := 146) (n := 6) (st' := .int x5 :: .int x4 :: .int x3 :: .int x2 :: .int x1 :: .ref x0 :: st) (by
    have h1 : 6 ≤ (.int x5 :: .int x4 :: .int x3 :: .int x2 :: .int x1 :: .ref x0 :: st : List Value).length := by simp
    have h2 : gb_rcv 146 [.ref x0, .int x1, .int x2, .int x3, .int x4, .int x5] p = true := by
      show (true && true && true && decide (atag p x0 = 20)) = true
      rw [h]
      rfl
    simp only [gb_stp]
    exact if_pos ⟨h1, hs, h2⟩)
theorem cl_RM_report {p : gb_Pi} {g : gb_Sg} {x0 : Nat} {x1 : Int32} {x2 : Int32} {x3 : Int32} {x4 : Int32} {x5 : Int32} : gb_call 146 [.ref x0, .int x1, .int x2, .int x3, .int x4, .int x5] p g = gb_ex 146 bk_RM_report_0 [.ref x0, .int x1, .int x2, .int x3, .int x4, .int x5, .null] [] p g := rfl
theorem xc_RM_sees {m : Nat} {r : List Instr} {ls st : List Value} {p : gb_Pi} {g : gb_Sg} {x0 : Nat} {x1 : Int32} {x2 : Int32} (h : atag p x0 = 20) (hs : st.length ≤ 4) : gb_ex m (.invokeinterface 147 3 :: r) ls (.int x2 :: .int x1 :: .ref x0 :: st) p g = (gb_call 147 [.ref x0, .int x1, .int x2] p g).bind (fun w => gb_ex m r ls (psh w.1 st) w.2.1 w.2.2) :=
  gb_ex_cl (k := 147) (n := 3) (st' := .int x2 :: .int x1 :: .ref x0 :: st) (by
    have h1 : 3 ≤ (.int x2 :: .int x1 :: .ref x0 :: st : List Value).length := by simp
    have h2 : gb_rcv 147 [.ref x0, .int x1, .int x2] p = true := by
      show (true && true && true && decide (atag p x0 = 20)) = true
      rw [h]
      rfl
    simp only [gb_stp]
    exact if_pos ⟨h1, hs, h2⟩)
theorem cl_RM_sees {p : gb_Pi} {g : gb_Sg} {x0 : Nat} {x1 : Int32} {x2 : Int32} : gb_call 147 [.ref x0, .int x1, .int x2] p g = gb_ex 147 bk_RM_sees_0 [.ref x0, .int x1, .int x2] [] p g := rfl
theorem xc_RM_isOf {m : Nat} {r : List Instr} {ls st : List Value} {p : gb_Pi} {g : gb_Sg} {x0 : Nat} {x1 : Int32} {x2 : Int32} {x3 : Int32} (h : atag p x0 = 20) (hs : st.length ≤ 4) : gb_ex m (.invokeinterface 148 4 :: r) ls (.int x3 :: .int x2 :: .int x1 :: .ref x0 :: st) p g = (gb_call 148 [.ref x0, .int x1, .int x2, .int x3] p g).bind (fun w => gb_ex m r ls (psh w.1 st) w.2.1 w.2.2) :=
  gb_ex_cl (k := 148) (n := 4) (st' := .int x3 :: .int x2 :: .int x1 :: .ref x0 :: st) (by
    have h1 : 4 ≤ (.int x3 :: .int x2 :: .int x1 :: .ref x0 :: st : List Value).length := by simp
    have h2 : gb_rcv 148 [.ref x0, .int x1, .int x2, .int x3] p = true := by
      show (true && true && true && decide (atag p x0 = 20)) = true
      rw [h]
      rfl
    simp only [gb_stp]
    exact if_pos ⟨h1, hs, h2⟩)
theorem cl_RM_isOf {p : gb_Pi} {g : gb_Sg} {x0 : Nat} {x1 : Int32} {x2 : Int32} {x3 : Int32} : gb_call 148 [.ref x0, .int x1, .int x2, .int x3] p g = gb_ex 148 bk_RM_isOf_0 [.ref x0, .int x1, .int x2, .int x3] [] p g := rfl
theorem xc_RM_isThere {m : Nat} {r : List Instr} {ls st : List Value} {p : gb_Pi} {g : gb_Sg} {x0 : Nat} {x1 : Int32} {x2 : Int32} {x3 : Int32} (h : atag p x0 = 20) (hs : st.length ≤ 4) : gb_ex m (.invokeinterface 149 4 :: r) ls (.int x3 :: .int x2 :: .int x1 :: .ref x0 :: st) p g = (gb_call 149 [.ref x0, .int x1, .int x2, .int x3] p g).bind (fun w => gb_ex m r ls (psh w.1 st) w.2.1 w.2.2) :=
  gb_ex_cl (k := 149) (n := 4) (st' := .int x3 :: .int x2 :: .int x1 :: .ref x0 :: st) (by
    have h1 : 4 ≤ (.int x3 :: .int x2 :: .int x1 :: .ref x0 :: st : List Value).length := by simp
    have h2 : gb_rcv 149 [.ref x0, .int x1, .int x2, .int x3] p = true := by
      show (true && true && true && decide (atag p x0 = 20)) = true
      rw [h]
      rfl
    simp only [gb_stp]
    exact if_pos ⟨h1, hs, h2⟩)
theorem cl_RM_isThere {p : gb_Pi} {g : gb_Sg} {x0 : Nat} {x1 : Int32} {x2 : Int32} {x3 : Int32} : gb_call 149 [.ref x0, .int x1, .int x2, .int x3] p g = gb_ex 149 bk_RM_isThere_0 [.ref x0, .int x1, .int x2, .int x3, .null, .null] [] p g := rfl
theorem xc_RM_isNot {m : Nat} {r : List Instr} {ls st : List Value} {p : gb_Pi} {g : gb_Sg} {x0 : Nat} {x1 : Int32} {x2 : Int32} {x3 : Int32} (h : atag p x0 = 20) (hs : st.length ≤ 4) : gb_ex m (.invokeinterface 150 4 :: r) ls (.int x3 :: .int x2 :: .int x1 :: .ref x0 :: st) p g = (gb_call 150 [.ref x0, .int x1, .int x2, .int x3] p g).bind (fun w => gb_ex m r ls (psh w.1 st) w.2.1 w.2.2) :=
  gb_ex_cl (k := 150) (n := 4) (st' := .int x3 :: .int x2 :: .int x1 :: .ref x0 :: st) (by
    have h1 : 4 ≤ (.int x3 :: .int x2 :: .int x1 :: .ref x0 :: st : List Value).length := by simp
    have h2 : gb_rcv 150 [.ref x0, .int x1, .int x2, .int x3] p = true := by
      show (true && true && true && decide (atag p x0 = 20)) = true
      rw [h]
      rfl
    simp only [gb_stp]
    exact if_pos ⟨h1, hs, h2⟩)
theorem cl_RM_isNot {p : gb_Pi} {g : gb_Sg} {x0 : Nat} {x1 : Int32} {x2 : Int32} {x3 : Int32} : gb_call 150 [.ref x0, .int x1, .int x2, .int x3] p g = gb_ex 150 bk_RM_isNot_0 [.ref x0, .int x1, .int x2, .int x3, .null, .null] [] p g := rfl
theorem xc_RM_there {m : Nat} {r : List Instr} {ls st : List Value} {p : gb_Pi} {g : gb_Sg} {x0 : Nat} {x1 : Int32} {x2 : Int32} {x3 : Int32} (h : atag p x0 = 20) (hs : st.length ≤ 4) : gb_ex m (.invokeinterface 151 4 :: r) ls (.int x3 :: .int x2 :: .int x1 :: .ref x0 :: st) p g = (gb_call 151 [.ref x0, .int x1, .int x2, .int x3] p g).bind (fun w => gb_ex m r ls (psh w.1 st) w.2.1 w.2.2) :=
  gb_ex_cl (k := 151) (n := 4) (st' := .int x3 :: .int x2 :: .int x1 :: .ref x0 :: st) (by
    have h1 : 4 ≤ (.int x3 :: .int x2 :: .int x1 :: .ref x0 :: st : List Value).length := by simp
    have h2 : gb_rcv 151 [.ref x0, .int x1, .int x2, .int x3] p = true := by
      show (true && true && true && decide (atag p x0 = 20)) = true
      rw [h]
      rfl
    simp only [gb_stp]
    exact if_pos ⟨h1, hs, h2⟩)
theorem cl_RM_there {p : gb_Pi} {g : gb_Sg} {x0 : Nat} {x1 : Int32} {x2 : Int32} {x3 : Int32} : gb_call 151 [.ref x0, .int x1, .int x2, .int x3] p g = gb_ex 151 bk_RM_there_0 [.ref x0, .int x1, .int x2, .int x3] [] p g := rfl
theorem xc_RM_missed {m : Nat} {r : List Instr} {ls st : List Value} {p : gb_Pi} {g : gb_Sg} {x0 : Nat} {x1 : Int32} (h : atag p x0 = 20) (hs : st.length ≤ 4) : gb_ex m (.invokeinterface 152 2 :: r) ls (.int x1 :: .ref x0 :: st) p g = (gb_call 152 [.ref x0, .int x1] p g).bind (fun w => gb_ex m r ls (psh w.1 st) w.2.1 w.2.2) :=
  gb_ex_cl (k := 152) (n := 2) (st' := .int x1 :: .ref x0 :: st) (by
    have h1 : 2 ≤ (.int x1 :: .ref x0 :: st : List Value).length := by simp
    have h2 : gb_rcv 152 [.ref x0, .int x1] p = true := by
      show (true && true && true && decide (atag p x0 = 20)) = true
      rw [h]
      rfl
    simp only [gb_stp]
    exact if_pos ⟨h1, hs, h2⟩)
theorem cl_RM_missed {p : gb_Pi} {g : gb_Sg} {x0 : Nat} {x1 : Int32} : gb_call 152 [.ref x0, .int x1] p g = gb_ex 152 bk_RM_missed_0 [.ref x0, .int x1, .null, .null, .null] [] p g := rfl
theorem xc_RM_isGainsaid {m : Nat} {r : List Instr} {ls st : List Value} {p : gb_Pi} {g : gb_Sg} {x0 : Nat} {x1 : Int32} {x2 : Int32} (h : atag p x0 = 20) (hs : st.length ≤ 4) : gb_ex m (.invokeinterface 153 3 :: r) ls (.int x2 :: .int x1 :: .ref x0 :: st) p g = (gb_call 153 [.ref x0, .int x1, .int x2] p g).bind (fun w => gb_ex m r ls (psh w.1 st) w.2.1 w.2.2) :=
  gb_ex_cl (k := 153) (n := 3) (st' := .int x2 :: .int x1 :: .ref x0 :: st) (by
    have h1 : 3 ≤ (.int x2 :: .int x1 :: .ref x0 :: st : List Value).length := by simp
    have h2 : gb_rcv 153 [.ref x0, .int x1, .int x2] p = true := by
      show (true && true && true && decide (atag p x0 = 20)) = true
      rw [h]
      rfl
    simp only [gb_stp]
    exact if_pos ⟨h1, hs, h2⟩)
theorem cl_RM_isGainsaid {p : gb_Pi} {g : gb_Sg} {x0 : Nat} {x1 : Int32} {x2 : Int32} : gb_call 153 [.ref x0, .int x1, .int x2] p g = gb_ex 153 bk_RM_isGainsaid_0 [.ref x0, .int x1, .int x2] [] p g := rfl
theorem xc_RM_leftOf {m : Nat} {r : List Instr} {ls st : List Value} {p : gb_Pi} {g : gb_Sg} {x0 : Nat} {x1 : Int32} (h : atag p x0 = 20) (hs : st.length ≤ 4) : gb_ex m (.invokeinterface 154 2 :: r) ls (.int x1 :: .ref x0 :: st) p g = (gb_call 154 [.ref x0, .int x1] p g).bind (fun w => gb_ex m r ls (psh w.1 st) w.2.1 w.2.2) :=
  gb_ex_cl (k := 154) (n := 2) (st' := .int x1 :: .ref x0 :: st) (by
    have h1 : 2 ≤ (.int x1 :: .ref x0 :: st : List Value).length := by simp
    have h2 : gb_rcv 154 [.ref x0, .int x1] p = true := by
      show (true && true && true && decide (atag p x0 = 20)) = true
      rw [h]
      rfl
    simp only [gb_stp]
    exact if_pos ⟨h1, hs, h2⟩)
theorem cl_RM_leftOf {p : gb_Pi} {g : gb_Sg} {x0 : Nat} {x1 : Int32} : gb_call 154 [.ref x0, .int x1] p g = gb_ex 154 bk_RM_leftOf_0 [.ref x0, .int x1, .null, .null] [] p g := rfl
theorem xc_RM_left {m : Nat} {r : List Instr} {ls st : List Value} {p : gb_Pi} {g : gb_Sg} {x0 : Nat} {x1 : Int32} (h : atag p x0 = 20) (hs : st.length ≤ 4) : gb_ex m (.invokeinterface 155 2 :: r) ls (.int x1 :: .ref x0 :: st) p g = (gb_call 155 [.ref x0, .int x1] p g).bind (fun w => gb_ex m r ls (psh w.1 st) w.2.1 w.2.2) :=
  gb_ex_cl (k := 155) (n := 2) (st' := .int x1 :: .ref x0 :: st) (by
    have h1 : 2 ≤ (.int x1 :: .ref x0 :: st : List Value).length := by simp
    have h2 : gb_rcv 155 [.ref x0, .int x1] p = true := by
      show (true && true && true && decide (atag p x0 = 20)) = true
      rw [h]
      rfl
    simp only [gb_stp]
    exact if_pos ⟨h1, hs, h2⟩)
theorem cl_RM_left {p : gb_Pi} {g : gb_Sg} {x0 : Nat} {x1 : Int32} : gb_call 155 [.ref x0, .int x1] p g = gb_ex 155 bk_RM_left_0 [.ref x0, .int x1] [] p g := rfl
theorem xc_RM_hopeOf {m : Nat} {r : List Instr} {ls st : List Value} {p : gb_Pi} {g : gb_Sg} {x0 : Nat} {x1 : Int32} {x2 : Int32} {x3 : Int32} {x4 : Int32} (h : atag p x0 = 20) (hs : st.length ≤ 4) : gb_ex m (.invokeinterface 156 5 :: r) ls (.int x4 :: .int x3 :: .int x2 :: .int x1 :: .ref x0 :: st) p g = (gb_call 156 [.ref x0, .int x1, .int x2, .int x3, .int x4] p g).bind (fun w => gb_ex m r ls (psh w.1 st) w.2.1 w.2.2) :=
  gb_ex_cl (k := 156) (n := 5) (st' := .int x4 :: .int x3 :: .int x2 :: .int x1 :: .ref x0 :: st) (by
    have h1 : 5 ≤ (.int x4 :: .int x3 :: .int x2 :: .int x1 :: .ref x0 :: st : List Value).length := by simp
    have h2 : gb_rcv 156 [.ref x0, .int x1, .int x2, .int x3, .int x4] p = true := by
      show (true && true && true && decide (atag p x0 = 20)) = true
      rw [h]
      rfl
    simp only [gb_stp]
    exact if_pos ⟨h1, hs, h2⟩)
theorem cl_RM_hopeOf {p : gb_Pi} {g : gb_Sg} {x0 : Nat} {x1 : Int32} {x2 : Int32} {x3 : Int32} {x4 : Int32} : gb_call 156 [.ref x0, .int x1, .int x2, .int x3, .int x4] p g = gb_ex 156 bk_RM_hopeOf_0 [.ref x0, .int x1, .int x2, .int x3, .int x4, .null, .null, .null, .null, .null, .null] [] p g := rfl
theorem xc_RM_areEyes {m : Nat} {r : List Instr} {ls st : List Value} {p : gb_Pi} {g : gb_Sg} {x0 : Int32} (hs : st.length ≤ 4) : gb_ex m (.invokeinterface 157 1 :: r) ls (.int x0 :: st) p g = (gb_call 157 [.int x0] p g).bind (fun w => gb_ex m r ls (psh w.1 st) w.2.1 w.2.2) :=
  gb_ex_cl (k := 157) (n := 1) (st' := .int x0 :: st) (by
    have h1 : 1 ≤ (.int x0 :: st : List Value).length := by simp
    have h2 : gb_rcv 157 [.int x0] p = true := by rfl
    simp only [gb_stp]
    exact if_pos ⟨h1, hs, h2⟩)
theorem cl_RM_areEyes {p : gb_Pi} {g : gb_Sg} {x0 : Int32} : gb_call 157 [.int x0] p g = gb_ex 157 bk_RM_areEyes_0 [.int x0] [] p g := rfl
theorem xc_RM_hope {m : Nat} {r : List Instr} {ls st : List Value} {p : gb_Pi} {g : gb_Sg} {x0 : Nat} {x1 : Int32} {x2 : Int32} {x3 : Int32} {x4 : Int32} (h : atag p x0 = 20) (hs : st.length ≤ 4) : gb_ex m (.invokeinterface 158 5 :: r) ls (.int x4 :: .int x3 :: .int x2 :: .int x1 :: .ref x0 :: st) p g = (gb_call 158 [.ref x0, .int x1, .int x2, .int x3, .int x4] p g).bind (fun w => gb_ex m r ls (psh w.1 st) w.2.1 w.2.2) :=
  gb_ex_cl (k := 158) (n := 5) (st' := .int x4 :: .int x3 :: .int x2 :: .int x1 :: .ref x0 :: st) (by
    have h1 : 5 ≤ (.int x4 :: .int x3 :: .int x2 :: .int x1 :: .ref x0 :: st : List Value).length := by simp
    have h2 : gb_rcv 158 [.ref x0, .int x1, .int x2, .int x3, .int x4] p = true := by
      show (true && true && true && decide (atag p x0 = 20)) = true
      rw [h]
      rfl
    simp only [gb_stp]
    exact if_pos ⟨h1, hs, h2⟩)
theorem cl_RM_hope {p : gb_Pi} {g : gb_Sg} {x0 : Nat} {x1 : Int32} {x2 : Int32} {x3 : Int32} {x4 : Int32} : gb_call 158 [.ref x0, .int x1, .int x2, .int x3, .int x4] p g = gb_ex 158 bk_RM_hope_0 [.ref x0, .int x1, .int x2, .int x3, .int x4] [] p g := rfl
theorem xc_RM_walk {m : Nat} {r : List Instr} {ls st : List Value} {p : gb_Pi} {g : gb_Sg} {x0 : Nat} {x1 : Int32} {x2 : Int32} {x3 : Int32} {x4 : Int32} (h : atag p x0 = 20) (hs : st.length ≤ 4) : gb_ex m (.invokeinterface 159 5 :: r) ls (.int x4 :: .int x3 :: .int x2 :: .int x1 :: .ref x0 :: st) p g = (gb_call 159 [.ref x0, .int x1, .int x2, .int x3, .int x4] p g).bind (fun w => gb_ex m r ls (psh w.1 st) w.2.1 w.2.2) :=
  gb_ex_cl (k := 159) (n := 5) (st' := .int x4 :: .int x3 :: .int x2 :: .int x1 :: .ref x0 :: st) (by
    have h1 : 5 ≤ (.int x4 :: .int x3 :: .int x2 :: .int x1 :: .ref x0 :: st : List Value).length := by simp
    have h2 : gb_rcv 159 [.ref x0, .int x1, .int x2, .int x3, .int x4] p = true := by
      show (true && true && true && decide (atag p x0 = 20)) = true
      rw [h]
      rfl
    simp only [gb_stp]
    exact if_pos ⟨h1, hs, h2⟩)
theorem cl_RM_walk {p : gb_Pi} {g : gb_Sg} {x0 : Nat} {x1 : Int32} {x2 : Int32} {x3 : Int32} {x4 : Int32} : gb_call 159 [.ref x0, .int x1, .int x2, .int x3, .int x4] p g = gb_ex 159 bk_RM_walk_0 [.ref x0, .int x1, .int x2, .int x3, .int x4, .null, .null, .null, .null, .null, .null] [] p g := rfl
theorem xc_RM_walks {m : Nat} {r : List Instr} {ls st : List Value} {p : gb_Pi} {g : gb_Sg} {x0 : Nat} {x1 : Int32} {x2 : Int32} {x3 : Int32} {x4 : Int32} {x5 : Int32} (h : atag p x0 = 20) (hs : st.length ≤ 4) : gb_ex m (.invokeinterface 160 6 :: r) ls (.int x5 :: .int x4 :: .int x3 :: .int x2 :: .int x1 :: .ref x0 :: st) p g = (gb_call 160 [.ref x0, .int x1, .int x2, .int x3, .int x4, .int x5] p g).bind (fun w => gb_ex m r ls (psh w.1 st) w.2.1 w.2.2) :=
  gb_ex_cl (k := 160) (n := 6) (st' := .int x5 :: .int x4 :: .int x3 :: .int x2 :: .int x1 :: .ref x0 :: st) (by
    have h1 : 6 ≤ (.int x5 :: .int x4 :: .int x3 :: .int x2 :: .int x1 :: .ref x0 :: st : List Value).length := by simp
    have h2 : gb_rcv 160 [.ref x0, .int x1, .int x2, .int x3, .int x4, .int x5] p = true := by
      show (true && true && true && decide (atag p x0 = 20)) = true
      rw [h]
      rfl
    simp only [gb_stp]
    exact if_pos ⟨h1, hs, h2⟩)
theorem cl_RM_walks {p : gb_Pi} {g : gb_Sg} {x0 : Nat} {x1 : Int32} {x2 : Int32} {x3 : Int32} {x4 : Int32} {x5 : Int32} : gb_call 160 [.ref x0, .int x1, .int x2, .int x3, .int x4, .int x5] p g = gb_ex 160 bk_RM_walks_0 [.ref x0, .int x1, .int x2, .int x3, .int x4, .int x5, .null, .null, .null, .null, .null, .null, .null, .null] [] p g := rfl
theorem xc_RM_number {m : Nat} {r : List Instr} {ls st : List Value} {p : gb_Pi} {g : gb_Sg} {x0 : Nat} {x1 : Int32} (h : atag p x0 = 20) (hs : st.length ≤ 4) : gb_ex m (.invokeinterface 161 2 :: r) ls (.int x1 :: .ref x0 :: st) p g = (gb_call 161 [.ref x0, .int x1] p g).bind (fun w => gb_ex m r ls (psh w.1 st) w.2.1 w.2.2) :=
  gb_ex_cl (k := 161) (n := 2) (st' := .int x1 :: .ref x0 :: st) (by
    have h1 : 2 ≤ (.int x1 :: .ref x0 :: st : List Value).length := by simp
    have h2 : gb_rcv 161 [.ref x0, .int x1] p = true := by
      show (true && true && true && decide (atag p x0 = 20)) = true
      rw [h]
      rfl
    simp only [gb_stp]
    exact if_pos ⟨h1, hs, h2⟩)
theorem cl_RM_number {p : gb_Pi} {g : gb_Sg} {x0 : Nat} {x1 : Int32} : gb_call 161 [.ref x0, .int x1] p g = gb_ex 161 bk_RM_number_0 [.ref x0, .int x1, .null] [] p g := rfl
theorem xc_RM_greatest {m : Nat} {r : List Instr} {ls st : List Value} {p : gb_Pi} {g : gb_Sg} {x0 : Nat} (h : atag p x0 = 20) (hs : st.length ≤ 4) : gb_ex m (.invokeinterface 162 1 :: r) ls (.ref x0 :: st) p g = (gb_call 162 [.ref x0] p g).bind (fun w => gb_ex m r ls (psh w.1 st) w.2.1 w.2.2) :=
  gb_ex_cl (k := 162) (n := 1) (st' := .ref x0 :: st) (by
    have h1 : 1 ≤ (.ref x0 :: st : List Value).length := by simp
    have h2 : gb_rcv 162 [.ref x0] p = true := by
      show (true && true && true && decide (atag p x0 = 20)) = true
      rw [h]
      rfl
    simp only [gb_stp]
    exact if_pos ⟨h1, hs, h2⟩)
theorem cl_RM_greatest {p : gb_Pi} {g : gb_Sg} {x0 : Nat} : gb_call 162 [.ref x0] p g = gb_ex 162 bk_RM_greatest_0 [.ref x0, .null, .null] [] p g := rfl
theorem xc_RM_lowest {m : Nat} {r : List Instr} {ls st : List Value} {p : gb_Pi} {g : gb_Sg} {x0 : Nat} {x1 : Int64} {x2 : Int64} (h : atag p x0 = 20) (hs : st.length ≤ 4) : gb_ex m (.invokeinterface 163 3 :: r) ls (.long x2 :: .long x1 :: .ref x0 :: st) p g = (gb_call 163 [.ref x0, .long x1, .long x2] p g).bind (fun w => gb_ex m r ls (psh w.1 st) w.2.1 w.2.2) :=
  gb_ex_cl (k := 163) (n := 3) (st' := .long x2 :: .long x1 :: .ref x0 :: st) (by
    have h1 : 3 ≤ (.long x2 :: .long x1 :: .ref x0 :: st : List Value).length := by simp
    have h2 : gb_rcv 163 [.ref x0, .long x1, .long x2] p = true := by
      show (true && true && true && decide (atag p x0 = 20)) = true
      rw [h]
      rfl
    simp only [gb_stp]
    exact if_pos ⟨h1, hs, h2⟩)
theorem cl_RM_lowest {p : gb_Pi} {g : gb_Sg} {x0 : Nat} {x1 : Int64} {x2 : Int64} : gb_call 163 [.ref x0, .long x1, .long x2] p g = gb_ex 163 bk_RM_lowest_0 [.ref x0, .long x1, .null, .long x2, .null, .null, .null, .null, .null, .null, .null] [] p g := rfl
theorem xc_RM_fell {m : Nat} {r : List Instr} {ls st : List Value} {p : gb_Pi} {g : gb_Sg} {x0 : Nat} {x1 : Int32} (h : atag p x0 = 20) (hs : st.length ≤ 4) : gb_ex m (.invokeinterface 164 2 :: r) ls (.int x1 :: .ref x0 :: st) p g = (gb_call 164 [.ref x0, .int x1] p g).bind (fun w => gb_ex m r ls (psh w.1 st) w.2.1 w.2.2) :=
  gb_ex_cl (k := 164) (n := 2) (st' := .int x1 :: .ref x0 :: st) (by
    have h1 : 2 ≤ (.int x1 :: .ref x0 :: st : List Value).length := by simp
    have h2 : gb_rcv 164 [.ref x0, .int x1] p = true := by
      show (true && true && true && decide (atag p x0 = 20)) = true
      rw [h]
      rfl
    simp only [gb_stp]
    exact if_pos ⟨h1, hs, h2⟩)
theorem cl_RM_fell {p : gb_Pi} {g : gb_Sg} {x0 : Nat} {x1 : Int32} : gb_call 164 [.ref x0, .int x1] p g = gb_ex 164 bk_RM_fell_0 [.ref x0, .int x1, .null, .null] [] p g := rfl
theorem xc_RM_most {m : Nat} {r : List Instr} {ls st : List Value} {p : gb_Pi} {g : gb_Sg} {x0 : Nat} {x1 : Int32} {x2 : Int32} (h : atag p x0 = 20) (hs : st.length ≤ 4) : gb_ex m (.invokeinterface 165 3 :: r) ls (.int x2 :: .int x1 :: .ref x0 :: st) p g = (gb_call 165 [.ref x0, .int x1, .int x2] p g).bind (fun w => gb_ex m r ls (psh w.1 st) w.2.1 w.2.2) :=
  gb_ex_cl (k := 165) (n := 3) (st' := .int x2 :: .int x1 :: .ref x0 :: st) (by
    have h1 : 3 ≤ (.int x2 :: .int x1 :: .ref x0 :: st : List Value).length := by simp
    have h2 : gb_rcv 165 [.ref x0, .int x1, .int x2] p = true := by
      show (true && true && true && decide (atag p x0 = 20)) = true
      rw [h]
      rfl
    simp only [gb_stp]
    exact if_pos ⟨h1, hs, h2⟩)
theorem cl_RM_most {p : gb_Pi} {g : gb_Sg} {x0 : Nat} {x1 : Int32} {x2 : Int32} : gb_call 165 [.ref x0, .int x1, .int x2] p g = gb_ex 165 bk_RM_most_0 [.ref x0, .int x1, .int x2, .null, .null, .null, .null] [] p g := rfl
theorem xc_RM_odds {m : Nat} {r : List Instr} {ls st : List Value} {p : gb_Pi} {g : gb_Sg} {x0 : Nat} {x1 : Int32} {x2 : Int32} (h : atag p x0 = 20) (hs : st.length ≤ 4) : gb_ex m (.invokeinterface 166 3 :: r) ls (.int x2 :: .int x1 :: .ref x0 :: st) p g = (gb_call 166 [.ref x0, .int x1, .int x2] p g).bind (fun w => gb_ex m r ls (psh w.1 st) w.2.1 w.2.2) :=
  gb_ex_cl (k := 166) (n := 3) (st' := .int x2 :: .int x1 :: .ref x0 :: st) (by
    have h1 : 3 ≤ (.int x2 :: .int x1 :: .ref x0 :: st : List Value).length := by simp
    have h2 : gb_rcv 166 [.ref x0, .int x1, .int x2] p = true := by
      show (true && true && true && decide (atag p x0 = 20)) = true
      rw [h]
      rfl
    simp only [gb_stp]
    exact if_pos ⟨h1, hs, h2⟩)
theorem cl_RM_odds {p : gb_Pi} {g : gb_Sg} {x0 : Nat} {x1 : Int32} {x2 : Int32} : gb_call 166 [.ref x0, .int x1, .int x2] p g = gb_ex 166 bk_RM_odds_0 [.ref x0, .int x1, .int x2, .null, .null, .null] [] p g := rfl
theorem xc_RM_worn {m : Nat} {r : List Instr} {ls st : List Value} {p : gb_Pi} {g : gb_Sg} {x0 : Int32} {x1 : Int32} (hs : st.length ≤ 4) : gb_ex m (.invokeinterface 167 2 :: r) ls (.int x1 :: .int x0 :: st) p g = (gb_call 167 [.int x0, .int x1] p g).bind (fun w => gb_ex m r ls (psh w.1 st) w.2.1 w.2.2) :=
  gb_ex_cl (k := 167) (n := 2) (st' := .int x1 :: .int x0 :: st) (by
    have h1 : 2 ≤ (.int x1 :: .int x0 :: st : List Value).length := by simp
    have h2 : gb_rcv 167 [.int x0, .int x1] p = true := by rfl
    simp only [gb_stp]
    exact if_pos ⟨h1, hs, h2⟩)
theorem cl_RM_worn {p : gb_Pi} {g : gb_Sg} {x0 : Int32} {x1 : Int32} : gb_call 167 [.int x0, .int x1] p g = gb_ex 167 bk_RM_worn_0 [.int x0, .int x1, .null] [] p g := rfl
theorem xc_RM_isGlass {m : Nat} {r : List Instr} {ls st : List Value} {p : gb_Pi} {g : gb_Sg} {x0 : Int32} {x1 : Int32} (hs : st.length ≤ 4) : gb_ex m (.invokeinterface 168 2 :: r) ls (.int x1 :: .int x0 :: st) p g = (gb_call 168 [.int x0, .int x1] p g).bind (fun w => gb_ex m r ls (psh w.1 st) w.2.1 w.2.2) :=
  gb_ex_cl (k := 168) (n := 2) (st' := .int x1 :: .int x0 :: st) (by
    have h1 : 2 ≤ (.int x1 :: .int x0 :: st : List Value).length := by simp
    have h2 : gb_rcv 168 [.int x0, .int x1] p = true := by rfl
    simp only [gb_stp]
    exact if_pos ⟨h1, hs, h2⟩)
theorem cl_RM_isGlass {p : gb_Pi} {g : gb_Sg} {x0 : Int32} {x1 : Int32} : gb_call 168 [.int x0, .int x1] p g = gb_ex 168 bk_RM_isGlass_0 [.int x0, .int x1] [] p g := rfl
theorem xc_RM_glass {m : Nat} {r : List Instr} {ls st : List Value} {p : gb_Pi} {g : gb_Sg} {x0 : Nat} {x1 : Int32} {x2 : Int32} {x3 : Int32} (h : atag p x0 = 20) (hs : st.length ≤ 4) : gb_ex m (.invokeinterface 169 4 :: r) ls (.int x3 :: .int x2 :: .int x1 :: .ref x0 :: st) p g = (gb_call 169 [.ref x0, .int x1, .int x2, .int x3] p g).bind (fun w => gb_ex m r ls (psh w.1 st) w.2.1 w.2.2) :=
  gb_ex_cl (k := 169) (n := 4) (st' := .int x3 :: .int x2 :: .int x1 :: .ref x0 :: st) (by
    have h1 : 4 ≤ (.int x3 :: .int x2 :: .int x1 :: .ref x0 :: st : List Value).length := by simp
    have h2 : gb_rcv 169 [.ref x0, .int x1, .int x2, .int x3] p = true := by
      show (true && true && true && decide (atag p x0 = 20)) = true
      rw [h]
      rfl
    simp only [gb_stp]
    exact if_pos ⟨h1, hs, h2⟩)
theorem cl_RM_glass {p : gb_Pi} {g : gb_Sg} {x0 : Nat} {x1 : Int32} {x2 : Int32} {x3 : Int32} : gb_call 169 [.ref x0, .int x1, .int x2, .int x3] p g = gb_ex 169 bk_RM_glass_0 [.ref x0, .int x1, .int x2, .int x3, .null, .null] [] p g := rfl
theorem xc_RM_life {m : Nat} {r : List Instr} {ls st : List Value} {p : gb_Pi} {g : gb_Sg} {x0 : Nat} {x1 : Int32} {x2 : Int32} (h : atag p x0 = 20) (hs : st.length ≤ 4) : gb_ex m (.invokeinterface 170 3 :: r) ls (.int x2 :: .int x1 :: .ref x0 :: st) p g = (gb_call 170 [.ref x0, .int x1, .int x2] p g).bind (fun w => gb_ex m r ls (psh w.1 st) w.2.1 w.2.2) :=
  gb_ex_cl (k := 170) (n := 3) (st' := .int x2 :: .int x1 :: .ref x0 :: st) (by
    have h1 : 3 ≤ (.int x2 :: .int x1 :: .ref x0 :: st : List Value).length := by simp
    have h2 : gb_rcv 170 [.ref x0, .int x1, .int x2] p = true := by
      show (true && true && true && decide (atag p x0 = 20)) = true
      rw [h]
      rfl
    simp only [gb_stp]
    exact if_pos ⟨h1, hs, h2⟩)
theorem cl_RM_life {p : gb_Pi} {g : gb_Sg} {x0 : Nat} {x1 : Int32} {x2 : Int32} : gb_call 170 [.ref x0, .int x1, .int x2] p g = gb_ex 170 bk_RM_life_0 [.ref x0, .int x1, .int x2, .null, .null] [] p g := rfl
theorem xc_RM_holds {m : Nat} {r : List Instr} {ls st : List Value} {p : gb_Pi} {g : gb_Sg} {x0 : Nat} {x1 : Int32} {x2 : Int32} {x3 : Int32} {x4 : Int32} (h : atag p x0 = 20) (hs : st.length ≤ 4) : gb_ex m (.invokeinterface 171 5 :: r) ls (.int x4 :: .int x3 :: .int x2 :: .int x1 :: .ref x0 :: st) p g = (gb_call 171 [.ref x0, .int x1, .int x2, .int x3, .int x4] p g).bind (fun w => gb_ex m r ls (psh w.1 st) w.2.1 w.2.2) :=
  gb_ex_cl (k := 171) (n := 5) (st' := .int x4 :: .int x3 :: .int x2 :: .int x1 :: .ref x0 :: st) (by
    have h1 : 5 ≤ (.int x4 :: .int x3 :: .int x2 :: .int x1 :: .ref x0 :: st : List Value).length := by simp
    have h2 : gb_rcv 171 [.ref x0, .int x1, .int x2, .int x3, .int x4] p = true := by
      show (true && true && true && decide (atag p x0 = 20)) = true
      rw [h]
      rfl
    simp only [gb_stp]
    exact if_pos ⟨h1, hs, h2⟩)
theorem cl_RM_holds {p : gb_Pi} {g : gb_Sg} {x0 : Nat} {x1 : Int32} {x2 : Int32} {x3 : Int32} {x4 : Int32} : gb_call 171 [.ref x0, .int x1, .int x2, .int x3, .int x4] p g = gb_ex 171 bk_RM_holds_0 [.ref x0, .int x1, .int x2, .int x3, .int x4, .null, .null, .null, .null, .null] [] p g := rfl
theorem xc_RM_whose {m : Nat} {r : List Instr} {ls st : List Value} {p : gb_Pi} {g : gb_Sg} {x0 : Nat} {x1 : Int32} {x2 : Int32} {x3 : Int32} {x4 : Int32} (h : atag p x0 = 20) (hs : st.length ≤ 4) : gb_ex m (.invokeinterface 172 5 :: r) ls (.int x4 :: .int x3 :: .int x2 :: .int x1 :: .ref x0 :: st) p g = (gb_call 172 [.ref x0, .int x1, .int x2, .int x3, .int x4] p g).bind (fun w => gb_ex m r ls (psh w.1 st) w.2.1 w.2.2) :=
  gb_ex_cl (k := 172) (n := 5) (st' := .int x4 :: .int x3 :: .int x2 :: .int x1 :: .ref x0 :: st) (by
    have h1 : 5 ≤ (.int x4 :: .int x3 :: .int x2 :: .int x1 :: .ref x0 :: st : List Value).length := by simp
    have h2 : gb_rcv 172 [.ref x0, .int x1, .int x2, .int x3, .int x4] p = true := by
      show (true && true && true && decide (atag p x0 = 20)) = true
      rw [h]
      rfl
    simp only [gb_stp]
    exact if_pos ⟨h1, hs, h2⟩)
theorem cl_RM_whose {p : gb_Pi} {g : gb_Sg} {x0 : Nat} {x1 : Int32} {x2 : Int32} {x3 : Int32} {x4 : Int32} : gb_call 172 [.ref x0, .int x1, .int x2, .int x3, .int x4] p g = gb_ex 172 bk_RM_whose_0 [.ref x0, .int x1, .int x2, .int x3, .int x4, .null] [] p g := rfl
theorem xc_RM_two {m : Nat} {r : List Instr} {ls st : List Value} {p : gb_Pi} {g : gb_Sg} {x0 : Nat} {x1 : Int32} {x2 : Int32} {x3 : Int32} {x4 : Int32} {x5 : Int32} (h : atag p x0 = 20) (hs : st.length ≤ 4) : gb_ex m (.invokeinterface 173 6 :: r) ls (.int x5 :: .int x4 :: .int x3 :: .int x2 :: .int x1 :: .ref x0 :: st) p g = (gb_call 173 [.ref x0, .int x1, .int x2, .int x3, .int x4, .int x5] p g).bind (fun w => gb_ex m r ls (psh w.1 st) w.2.1 w.2.2) :=
  gb_ex_cl (k := 173) (n := 6) (st' := .int x5 :: .int x4 :: .int x3 :: .int x2 :: .int x1 :: .ref x0 :: st) (by
    have h1 : 6 ≤ (.int x5 :: .int x4 :: .int x3 :: .int x2 :: .int x1 :: .ref x0 :: st : List Value).length := by simp
    have h2 : gb_rcv 173 [.ref x0, .int x1, .int x2, .int x3, .int x4, .int x5] p = true := by
      show (true && true && true && decide (atag p x0 = 20)) = true
      rw [h]
      rfl
    simp only [gb_stp]
    exact if_pos ⟨h1, hs, h2⟩)
theorem cl_RM_two {p : gb_Pi} {g : gb_Sg} {x0 : Nat} {x1 : Int32} {x2 : Int32} {x3 : Int32} {x4 : Int32} {x5 : Int32} : gb_call 173 [.ref x0, .int x1, .int x2, .int x3, .int x4, .int x5] p g = gb_ex 173 bk_RM_two_0 [.ref x0, .int x1, .int x2, .int x3, .int x4, .int x5, .null, .null, .null, .null, .null] [] p g := rfl
theorem xc_RM_isTest {m : Nat} {r : List Instr} {ls st : List Value} {p : gb_Pi} {g : gb_Sg} {x0 : Int32} (hs : st.length ≤ 4) : gb_ex m (.invokeinterface 174 1 :: r) ls (.int x0 :: st) p g = (gb_call 174 [.int x0] p g).bind (fun w => gb_ex m r ls (psh w.1 st) w.2.1 w.2.2) :=
  gb_ex_cl (k := 174) (n := 1) (st' := .int x0 :: st) (by
    have h1 : 1 ≤ (.int x0 :: st : List Value).length := by simp
    have h2 : gb_rcv 174 [.int x0] p = true := by rfl
    simp only [gb_stp]
    exact if_pos ⟨h1, hs, h2⟩)
theorem cl_RM_isTest {p : gb_Pi} {g : gb_Sg} {x0 : Int32} : gb_call 174 [.int x0] p g = gb_ex 174 bk_RM_isTest_0 [.int x0] [] p g := rfl
theorem xc_RM_show {m : Nat} {r : List Instr} {ls st : List Value} {p : gb_Pi} {g : gb_Sg} {x0 : Nat} {x1 : Int32} {x2 : Int32} {x3 : Int32} (h : atag p x0 = 20) (hs : st.length ≤ 4) : gb_ex m (.invokeinterface 175 4 :: r) ls (.int x3 :: .int x2 :: .int x1 :: .ref x0 :: st) p g = (gb_call 175 [.ref x0, .int x1, .int x2, .int x3] p g).bind (fun w => gb_ex m r ls (psh w.1 st) w.2.1 w.2.2) :=
  gb_ex_cl (k := 175) (n := 4) (st' := .int x3 :: .int x2 :: .int x1 :: .ref x0 :: st) (by
    have h1 : 4 ≤ (.int x3 :: .int x2 :: .int x1 :: .ref x0 :: st : List Value).length := by simp
    have h2 : gb_rcv 175 [.ref x0, .int x1, .int x2, .int x3] p = true := by
      show (true && true && true && decide (atag p x0 = 20)) = true
      rw [h]
      rfl
    simp only [gb_stp]
    exact if_pos ⟨h1, hs, h2⟩)
theorem cl_RM_show {p : gb_Pi} {g : gb_Sg} {x0 : Nat} {x1 : Int32} {x2 : Int32} {x3 : Int32} : gb_call 175 [.ref x0, .int x1, .int x2, .int x3] p g = gb_ex 175 bk_RM_show_0 [.ref x0, .int x1, .int x2, .int x3, .null] [] p g := rfl
theorem xc_RM_cost {m : Nat} {r : List Instr} {ls st : List Value} {p : gb_Pi} {g : gb_Sg} {x0 : Nat} {x1 : Int32} {x2 : Int32} (h : atag p x0 = 20) (hs : st.length ≤ 4) : gb_ex m (.invokeinterface 176 3 :: r) ls (.int x2 :: .int x1 :: .ref x0 :: st) p g = (gb_call 176 [.ref x0, .int x1, .int x2] p g).bind (fun w => gb_ex m r ls (psh w.1 st) w.2.1 w.2.2) :=
  gb_ex_cl (k := 176) (n := 3) (st' := .int x2 :: .int x1 :: .ref x0 :: st) (by
    have h1 : 3 ≤ (.int x2 :: .int x1 :: .ref x0 :: st : List Value).length := by simp
    have h2 : gb_rcv 176 [.ref x0, .int x1, .int x2] p = true := by
      show (true && true && true && decide (atag p x0 = 20)) = true
      rw [h]
      rfl
    simp only [gb_stp]
    exact if_pos ⟨h1, hs, h2⟩)
theorem cl_RM_cost {p : gb_Pi} {g : gb_Sg} {x0 : Nat} {x1 : Int32} {x2 : Int32} : gb_call 176 [.ref x0, .int x1, .int x2] p g = gb_ex 176 bk_RM_cost_0 [.ref x0, .int x1, .int x2, .null] [] p g := rfl
theorem xc_RM_shownOf {m : Nat} {r : List Instr} {ls st : List Value} {p : gb_Pi} {g : gb_Sg} {x0 : Nat} {x1 : Int32} {x2 : Int32} {x3 : Int32} (h : atag p x0 = 20) (hs : st.length ≤ 4) : gb_ex m (.invokeinterface 177 4 :: r) ls (.int x3 :: .int x2 :: .int x1 :: .ref x0 :: st) p g = (gb_call 177 [.ref x0, .int x1, .int x2, .int x3] p g).bind (fun w => gb_ex m r ls (psh w.1 st) w.2.1 w.2.2) :=
  gb_ex_cl (k := 177) (n := 4) (st' := .int x3 :: .int x2 :: .int x1 :: .ref x0 :: st) (by
    have h1 : 4 ≤ (.int x3 :: .int x2 :: .int x1 :: .ref x0 :: st : List Value).length := by simp
    have h2 : gb_rcv 177 [.ref x0, .int x1, .int x2, .int x3] p = true := by
      show (true && true && true && decide (atag p x0 = 20)) = true
      rw [h]
      rfl
    simp only [gb_stp]
    exact if_pos ⟨h1, hs, h2⟩)
theorem cl_RM_shownOf {p : gb_Pi} {g : gb_Sg} {x0 : Nat} {x1 : Int32} {x2 : Int32} {x3 : Int32} : gb_call 177 [.ref x0, .int x1, .int x2, .int x3] p g = gb_ex 177 bk_RM_shownOf_0 [.ref x0, .int x1, .int x2, .int x3, .null, .null] [] p g := rfl
theorem xc_RM_byTest {m : Nat} {r : List Instr} {ls st : List Value} {p : gb_Pi} {g : gb_Sg} {x0 : Nat} {x1 : Int32} {x2 : Int32} (h : atag p x0 = 20) (hs : st.length ≤ 4) : gb_ex m (.invokeinterface 178 3 :: r) ls (.int x2 :: .int x1 :: .ref x0 :: st) p g = (gb_call 178 [.ref x0, .int x1, .int x2] p g).bind (fun w => gb_ex m r ls (psh w.1 st) w.2.1 w.2.2) :=
  gb_ex_cl (k := 178) (n := 3) (st' := .int x2 :: .int x1 :: .ref x0 :: st) (by
    have h1 : 3 ≤ (.int x2 :: .int x1 :: .ref x0 :: st : List Value).length := by simp
    have h2 : gb_rcv 178 [.ref x0, .int x1, .int x2] p = true := by
      show (true && true && true && decide (atag p x0 = 20)) = true
      rw [h]
      rfl
    simp only [gb_stp]
    exact if_pos ⟨h1, hs, h2⟩)
theorem cl_RM_byTest {p : gb_Pi} {g : gb_Sg} {x0 : Nat} {x1 : Int32} {x2 : Int32} : gb_call 178 [.ref x0, .int x1, .int x2] p g = gb_ex 178 bk_RM_byTest_0 [.ref x0, .int x1, .int x2, .null, .null, .null] [] p g := rfl
theorem xc_RM_parting {m : Nat} {r : List Instr} {ls st : List Value} {p : gb_Pi} {g : gb_Sg} {x0 : Nat} {x1 : Int32} {x2 : Int32} (h : atag p x0 = 20) (hs : st.length ≤ 4) : gb_ex m (.invokeinterface 179 3 :: r) ls (.int x2 :: .int x1 :: .ref x0 :: st) p g = (gb_call 179 [.ref x0, .int x1, .int x2] p g).bind (fun w => gb_ex m r ls (psh w.1 st) w.2.1 w.2.2) :=
  gb_ex_cl (k := 179) (n := 3) (st' := .int x2 :: .int x1 :: .ref x0 :: st) (by
    have h1 : 3 ≤ (.int x2 :: .int x1 :: .ref x0 :: st : List Value).length := by simp
    have h2 : gb_rcv 179 [.ref x0, .int x1, .int x2] p = true := by
      show (true && true && true && decide (atag p x0 = 20)) = true
      rw [h]
      rfl
    simp only [gb_stp]
    exact if_pos ⟨h1, hs, h2⟩)
theorem cl_RM_parting {p : gb_Pi} {g : gb_Sg} {x0 : Nat} {x1 : Int32} {x2 : Int32} : gb_call 179 [.ref x0, .int x1, .int x2] p g = gb_ex 179 bk_RM_parting_0 [.ref x0, .int x1, .int x2, .null, .null, .null, .null] [] p g := rfl
theorem xc_RM_shown {m : Nat} {r : List Instr} {ls st : List Value} {p : gb_Pi} {g : gb_Sg} {x0 : Nat} {x1 : Int32} {x2 : Int32} {x3 : Int32} (h : atag p x0 = 20) (hs : st.length ≤ 4) : gb_ex m (.invokeinterface 180 4 :: r) ls (.int x3 :: .int x2 :: .int x1 :: .ref x0 :: st) p g = (gb_call 180 [.ref x0, .int x1, .int x2, .int x3] p g).bind (fun w => gb_ex m r ls (psh w.1 st) w.2.1 w.2.2) :=
  gb_ex_cl (k := 180) (n := 4) (st' := .int x3 :: .int x2 :: .int x1 :: .ref x0 :: st) (by
    have h1 : 4 ≤ (.int x3 :: .int x2 :: .int x1 :: .ref x0 :: st : List Value).length := by simp
    have h2 : gb_rcv 180 [.ref x0, .int x1, .int x2, .int x3] p = true := by
      show (true && true && true && decide (atag p x0 = 20)) = true
      rw [h]
      rfl
    simp only [gb_stp]
    exact if_pos ⟨h1, hs, h2⟩)
theorem cl_RM_shown {p : gb_Pi} {g : gb_Sg} {x0 : Nat} {x1 : Int32} {x2 : Int32} {x3 : Int32} : gb_call 180 [.ref x0, .int x1, .int x2, .int x3] p g = gb_ex 180 bk_RM_shown_0 [.ref x0, .int x1, .int x2, .int x3] [] p g := rfl
theorem xc_RM_copies {m : Nat} {r : List Instr} {ls st : List Value} {p : gb_Pi} {g : gb_Sg} {x0 : Nat} {x1 : Int32} {x2 : Int32} (h : atag p x0 = 20) (hs : st.length ≤ 4) : gb_ex m (.invokeinterface 181 3 :: r) ls (.int x2 :: .int x1 :: .ref x0 :: st) p g = (gb_call 181 [.ref x0, .int x1, .int x2] p g).bind (fun w => gb_ex m r ls (psh w.1 st) w.2.1 w.2.2) :=
  gb_ex_cl (k := 181) (n := 3) (st' := .int x2 :: .int x1 :: .ref x0 :: st) (by
    have h1 : 3 ≤ (.int x2 :: .int x1 :: .ref x0 :: st : List Value).length := by simp
    have h2 : gb_rcv 181 [.ref x0, .int x1, .int x2] p = true := by
      show (true && true && true && decide (atag p x0 = 20)) = true
      rw [h]
      rfl
    simp only [gb_stp]
    exact if_pos ⟨h1, hs, h2⟩)
theorem cl_RM_copies {p : gb_Pi} {g : gb_Sg} {x0 : Nat} {x1 : Int32} {x2 : Int32} : gb_call 181 [.ref x0, .int x1, .int x2] p g = gb_ex 181 bk_RM_copies_0 [.ref x0, .int x1, .int x2, .null] [] p g := rfl
theorem xc_RM_keep {m : Nat} {r : List Instr} {ls st : List Value} {p : gb_Pi} {g : gb_Sg} {x0 : Nat} (h : atag p x0 = 20) (hs : st.length ≤ 4) : gb_ex m (.invokeinterface 182 1 :: r) ls (.ref x0 :: st) p g = (gb_call 182 [.ref x0] p g).bind (fun w => gb_ex m r ls (psh w.1 st) w.2.1 w.2.2) :=
  gb_ex_cl (k := 182) (n := 1) (st' := .ref x0 :: st) (by
    have h1 : 1 ≤ (.ref x0 :: st : List Value).length := by simp
    have h2 : gb_rcv 182 [.ref x0] p = true := by
      show (true && true && true && decide (atag p x0 = 20)) = true
      rw [h]
      rfl
    simp only [gb_stp]
    exact if_pos ⟨h1, hs, h2⟩)
theorem cl_RM_keep {p : gb_Pi} {g : gb_Sg} {x0 : Nat} : gb_call 182 [.ref x0] p g = gb_ex 182 bk_RM_keep_0 [.ref x0] [] p g := rfl
theorem xc_RM_back {m : Nat} {r : List Instr} {ls st : List Value} {p : gb_Pi} {g : gb_Sg} {x0 : Nat} (h : atag p x0 = 20) (hs : st.length ≤ 4) : gb_ex m (.invokeinterface 183 1 :: r) ls (.ref x0 :: st) p g = (gb_call 183 [.ref x0] p g).bind (fun w => gb_ex m r ls (psh w.1 st) w.2.1 w.2.2) :=
  gb_ex_cl (k := 183) (n := 1) (st' := .ref x0 :: st) (by
    have h1 : 1 ≤ (.ref x0 :: st : List Value).length := by simp
    have h2 : gb_rcv 183 [.ref x0] p = true := by
      show (true && true && true && decide (atag p x0 = 20)) = true
      rw [h]
      rfl
    simp only [gb_stp]
    exact if_pos ⟨h1, hs, h2⟩)
theorem cl_RM_back {p : gb_Pi} {g : gb_Sg} {x0 : Nat} : gb_call 183 [.ref x0] p g = gb_ex 183 bk_RM_back_0 [.ref x0] [] p g := rfl
theorem xc_RM_count {m : Nat} {r : List Instr} {ls st : List Value} {p : gb_Pi} {g : gb_Sg} {x0 : Nat} {x1 : Int32} (h : atag p x0 = 20) (hs : st.length ≤ 4) : gb_ex m (.invokeinterface 184 2 :: r) ls (.int x1 :: .ref x0 :: st) p g = (gb_call 184 [.ref x0, .int x1] p g).bind (fun w => gb_ex m r ls (psh w.1 st) w.2.1 w.2.2) :=
  gb_ex_cl (k := 184) (n := 2) (st' := .int x1 :: .ref x0 :: st) (by
    have h1 : 2 ≤ (.int x1 :: .ref x0 :: st : List Value).length := by simp
    have h2 : gb_rcv 184 [.ref x0, .int x1] p = true := by
      show (true && true && true && decide (atag p x0 = 20)) = true
      rw [h]
      rfl
    simp only [gb_stp]
    exact if_pos ⟨h1, hs, h2⟩)
theorem cl_RM_count {p : gb_Pi} {g : gb_Sg} {x0 : Nat} {x1 : Int32} : gb_call 184 [.ref x0, .int x1] p g = gb_ex 184 bk_RM_count_0 [.ref x0, .int x1] [] p g := rfl
theorem xc_JI_bitCount_0f7a4 {m : Nat} {r : List Instr} {ls st : List Value} {p : gb_Pi} {g : gb_Sg} {x0 : Int32} (hs : st.length ≤ 4) : gb_ex m (.invokeinterface 185 1 :: r) ls (.int x0 :: st) p g = (gb_call 185 [.int x0] p g).bind (fun w => gb_ex m r ls (psh w.1 st) w.2.1 w.2.2) :=
  gb_ex_cl (k := 185) (n := 1) (st' := .int x0 :: st) (by
    have h1 : 1 ≤ (.int x0 :: st : List Value).length := by simp
    have h2 : gb_rcv 185 [.int x0] p = true := by rfl
    simp only [gb_stp]
    exact if_pos ⟨h1, hs, h2⟩)
theorem cl_JI_bitCount_0f7a4 {p : gb_Pi} {g : gb_Sg} {x0 : Int32} : gb_call 185 [.int x0] p g = gb_ex 185 bk_JI_bitCount_0f7a4_0 [.int x0] [] p g := rfl
theorem xc_JA_fill_d0a16 {m : Nat} {r : List Instr} {ls st : List Value} {p : gb_Pi} {g : gb_Sg} {x0 : Nat} {x1 : Int64} (hs : st.length ≤ 4) : gb_ex m (.invokeinterface 186 2 :: r) ls (.long x1 :: .ref x0 :: st) p g = (gb_call 186 [.ref x0, .long x1] p g).bind (fun w => gb_ex m r ls (psh w.1 st) w.2.1 w.2.2) :=
  gb_ex_cl (k := 186) (n := 2) (st' := .long x1 :: .ref x0 :: st) (by
    have h1 : 2 ≤ (.long x1 :: .ref x0 :: st : List Value).length := by simp
    have h2 : gb_rcv 186 [.ref x0, .long x1] p = true := by rfl
    simp only [gb_stp]
    exact if_pos ⟨h1, hs, h2⟩)
theorem cl_JA_fill_d0a16 {p : gb_Pi} {g : gb_Sg} {x0 : Nat} {x1 : Int64} : gb_call 186 [.ref x0, .long x1] p g = gb_ex 186 bk_JA_fill_d0a16_0 [.ref x0, .long x1, .null, .null, .null] [] p g := rfl
theorem xc_JA_fill_53178 {m : Nat} {r : List Instr} {ls st : List Value} {p : gb_Pi} {g : gb_Sg} {x0 : Nat} {x1 : Int32} (hs : st.length ≤ 4) : gb_ex m (.invokeinterface 187 2 :: r) ls (.int x1 :: .ref x0 :: st) p g = (gb_call 187 [.ref x0, .int x1] p g).bind (fun w => gb_ex m r ls (psh w.1 st) w.2.1 w.2.2) :=
  gb_ex_cl (k := 187) (n := 2) (st' := .int x1 :: .ref x0 :: st) (by
    have h1 : 2 ≤ (.int x1 :: .ref x0 :: st : List Value).length := by simp
    have h2 : gb_rcv 187 [.ref x0, .int x1] p = true := by rfl
    simp only [gb_stp]
    exact if_pos ⟨h1, hs, h2⟩)
theorem cl_JA_fill_53178 {p : gb_Pi} {g : gb_Sg} {x0 : Nat} {x1 : Int32} : gb_call 187 [.ref x0, .int x1] p g = gb_ex 187 bk_JA_fill_53178_0 [.ref x0, .int x1, .null, .null] [] p g := rfl
theorem tg_GL_law_10 : gb_tgt 0 10 = bk_GL_law_10 := rfl
theorem tg_GL_law_22 : gb_tgt 0 22 = bk_GL_law_22 := rfl
theorem tg_GL_law_73 : gb_tgt 0 73 = bk_GL_law_73 := rfl
theorem tg_GL_law_80 : gb_tgt 0 80 = bk_GL_law_80 := rfl
theorem tg_GL_law_89 : gb_tgt 0 89 = bk_GL_law_89 := rfl
theorem tg_GL_law_90 : gb_tgt 0 90 = bk_GL_law_90 := rfl
theorem tg_GL_law_100 : gb_tgt 0 100 = bk_GL_law_100 := rfl
theorem tg_GL_law_101 : gb_tgt 0 101 = bk_GL_law_101 := rfl
theorem tg_GL_law_105 : gb_tgt 0 105 = bk_GL_law_105 := rfl
theorem tg_GL_law_114 : gb_tgt 0 114 = bk_GL_law_114 := rfl
theorem tg_GL_law_115 : gb_tgt 0 115 = bk_GL_law_115 := rfl
theorem tg_GL_law_125 : gb_tgt 0 125 = bk_GL_law_125 := rfl
theorem tg_GL_law_126 : gb_tgt 0 126 = bk_GL_law_126 := rfl
theorem tg_GL_law_130 : gb_tgt 0 130 = bk_GL_law_130 := rfl
set_option maxRecDepth 100000 in
theorem tg_GL_law_187 : gb_tgt 0 187 = bk_GL_law_187 := rfl
set_option maxRecDepth 100000 in
theorem tg_GL_law_214 : gb_tgt 0 214 = bk_GL_law_214 := rfl
set_option maxRecDepth 100000 in
theorem tg_GL_law_261 : gb_tgt 0 261 = bk_GL_law_261 := rfl
set_option maxRecDepth 100000 in
theorem tg_GL_law_298 : gb_tgt 0 298 = bk_GL_law_298 := rfl
set_option maxRecDepth 100000 in
theorem tg_GL_law_315 : gb_tgt 0 315 = bk_GL_law_315 := rfl
set_option maxRecDepth 100000 in
theorem tg_GL_law_332 : gb_tgt 0 332 = bk_GL_law_332 := rfl
set_option maxRecDepth 100000 in
theorem tg_GL_law_361 : gb_tgt 0 361 = bk_GL_law_361 := rfl
set_option maxRecDepth 100000 in
theorem tg_GL_law_362 : gb_tgt 0 362 = bk_GL_law_362 := rfl
set_option maxRecDepth 100000 in
theorem tg_GL_law_392 : gb_tgt 0 392 = bk_GL_law_392 := rfl
set_option maxRecDepth 100000 in
theorem tg_GL_law_393 : gb_tgt 0 393 = bk_GL_law_393 := rfl
set_option maxRecDepth 100000 in
theorem tg_GL_law_397 : gb_tgt 0 397 = bk_GL_law_397 := rfl
set_option maxRecDepth 100000 in
theorem tg_GL_law_434 : gb_tgt 0 434 = bk_GL_law_434 := rfl
set_option maxRecDepth 100000 in
theorem tg_GL_law_451 : gb_tgt 0 451 = bk_GL_law_451 := rfl
set_option maxRecDepth 100000 in
theorem tg_GL_law_468 : gb_tgt 0 468 = bk_GL_law_468 := rfl
set_option maxRecDepth 100000 in
theorem tg_GL_law_516 : gb_tgt 0 516 = bk_GL_law_516 := rfl
set_option maxRecDepth 100000 in
theorem tg_GL_law_564 : gb_tgt 0 564 = bk_GL_law_564 := rfl
set_option maxRecDepth 100000 in
theorem tg_GL_law_622 : gb_tgt 0 622 = bk_GL_law_622 := rfl
set_option maxRecDepth 100000 in
theorem tg_GL_law_639 : gb_tgt 0 639 = bk_GL_law_639 := rfl
set_option maxRecDepth 100000 in
theorem tg_GL_law_656 : gb_tgt 0 656 = bk_GL_law_656 := rfl
set_option maxRecDepth 100000 in
theorem tg_GL_law_683 : gb_tgt 0 683 = bk_GL_law_683 := rfl
set_option maxRecDepth 100000 in
theorem tg_GL_law_720 : gb_tgt 0 720 = bk_GL_law_720 := rfl
set_option maxRecDepth 100000 in
theorem tg_GL_law_747 : gb_tgt 0 747 = bk_GL_law_747 := rfl
set_option maxRecDepth 100000 in
theorem tg_GL_law_794 : gb_tgt 0 794 = bk_GL_law_794 := rfl
set_option maxRecDepth 100000 in
theorem tg_GL_law_851 : gb_tgt 0 851 = bk_GL_law_851 := rfl
set_option maxRecDepth 100000 in
theorem tg_GL_law_888 : gb_tgt 0 888 = bk_GL_law_888 := rfl
set_option maxRecDepth 100000 in
theorem tg_GL_law_915 : gb_tgt 0 915 = bk_GL_law_915 := rfl
set_option maxRecDepth 100000 in
theorem tg_GL_law_942 : gb_tgt 0 942 = bk_GL_law_942 := rfl
set_option maxRecDepth 100000 in
theorem tg_GL_law_979 : gb_tgt 0 979 = bk_GL_law_979 := rfl
set_option maxRecDepth 100000 in
theorem tg_GL_law_986 : gb_tgt 0 986 = bk_GL_law_986 := rfl
set_option maxRecDepth 100000 in
theorem tg_GL_law_993 : gb_tgt 0 993 = bk_GL_law_993 := rfl
set_option maxRecDepth 100000 in
theorem tg_GL_law_1010 : gb_tgt 0 1010 = bk_GL_law_1010 := rfl
set_option maxRecDepth 100000 in
theorem tg_GL_law_1012 : gb_tgt 0 1012 = bk_GL_law_1012 := rfl
theorem tg_BE_readFrom_17 : gb_tgt 3 17 = bk_BE_readFrom_17 := rfl
theorem tg_BE_readFrom_32 : gb_tgt 3 32 = bk_BE_readFrom_32 := rfl
theorem tg_BE_readFrom_34 : gb_tgt 3 34 = bk_BE_readFrom_34 := rfl
theorem tg_BE_readItem_3 : gb_tgt 4 3 = bk_BE_readItem_3 := rfl
theorem tg_BE_readItem_13 : gb_tgt 4 13 = bk_BE_readItem_13 := rfl
theorem tg_BE_readItem_14 : gb_tgt 4 14 = bk_BE_readItem_14 := rfl
theorem tg_BE_readItem_15 : gb_tgt 4 15 = bk_BE_readItem_15 := rfl
theorem tg_BE_readItem_25 : gb_tgt 4 25 = bk_BE_readItem_25 := rfl
theorem tg_BE_readItem_26 : gb_tgt 4 26 = bk_BE_readItem_26 := rfl
theorem tg_BE_readItem_27 : gb_tgt 4 27 = bk_BE_readItem_27 := rfl
theorem tg_BE_readItem_37 : gb_tgt 4 37 = bk_BE_readItem_37 := rfl
theorem tg_BE_readItem_38 : gb_tgt 4 38 = bk_BE_readItem_38 := rfl
theorem tg_BE_readItem_39 : gb_tgt 4 39 = bk_BE_readItem_39 := rfl
theorem tg_BE_readItem_49 : gb_tgt 4 49 = bk_BE_readItem_49 := rfl
theorem tg_BE_readItem_50 : gb_tgt 4 50 = bk_BE_readItem_50 := rfl
theorem tg_BE_readItem_51 : gb_tgt 4 51 = bk_BE_readItem_51 := rfl
theorem tg_BE_readItem_61 : gb_tgt 4 61 = bk_BE_readItem_61 := rfl
theorem tg_BE_readItem_62 : gb_tgt 4 62 = bk_BE_readItem_62 := rfl
theorem tg_BE_readItem_63 : gb_tgt 4 63 = bk_BE_readItem_63 := rfl
theorem tg_BE_readNumbers_2 : gb_tgt 5 2 = bk_BE_readNumbers_2 := rfl
theorem tg_BE_readNumbers_16 : gb_tgt 5 16 = bk_BE_readNumbers_16 := rfl
theorem tg_BE_readNumbers_30 : gb_tgt 5 30 = bk_BE_readNumbers_30 := rfl
theorem tg_BE_readNumbers_31 : gb_tgt 5 31 = bk_BE_readNumbers_31 := rfl
theorem tg_BE_readNumbers_35 : gb_tgt 5 35 = bk_BE_readNumbers_35 := rfl
theorem tg_BE_readNumbers_37 : gb_tgt 5 37 = bk_BE_readNumbers_37 := rfl
theorem tg_BE_addCells_10 : gb_tgt 6 10 = bk_BE_addCells_10 := rfl
theorem tg_BE_addTide_21 : gb_tgt 7 21 = bk_BE_addTide_21 := rfl
theorem tg_BE_addTide_23 : gb_tgt 7 23 = bk_BE_addTide_23 := rfl
theorem tg_BE_addWind_27 : gb_tgt 8 27 = bk_BE_addWind_27 := rfl
theorem tg_BE_addWind_29 : gb_tgt 8 29 = bk_BE_addWind_29 := rfl
theorem tg_BE_addKind_37 : gb_tgt 9 37 = bk_BE_addKind_37 := rfl
theorem tg_BE_addKind_39 : gb_tgt 9 39 = bk_BE_addKind_39 := rfl
theorem tg_BE_addLoss_59 : gb_tgt 10 59 = bk_BE_addLoss_59 := rfl
theorem tg_BE_addLoss_61 : gb_tgt 10 61 = bk_BE_addLoss_61 := rfl
theorem tg_LA_forget_2 : gb_tgt 12 2 = bk_LA_forget_2 := rfl
theorem tg_LA_forget_12 : gb_tgt 12 12 = bk_LA_forget_12 := rfl
theorem tg_LA_release_28 : gb_tgt 13 28 = bk_LA_release_28 := rfl
theorem tg_LA_release_31 : gb_tgt 13 31 = bk_LA_release_31 := rfl
theorem tg_LA_release_61 : gb_tgt 13 61 = bk_LA_release_61 := rfl
theorem tg_LA_release_83 : gb_tgt 13 83 = bk_LA_release_83 := rfl
theorem tg_LA_release_99 : gb_tgt 13 99 = bk_LA_release_99 := rfl
theorem tg_LA_release_100 : gb_tgt 13 100 = bk_LA_release_100 := rfl
theorem tg_LA_release_113 : gb_tgt 13 113 = bk_LA_release_113 := rfl
theorem tg_LA_release_115 : gb_tgt 13 115 = bk_LA_release_115 := rfl
theorem tg_LA_settle_6 : gb_tgt 14 6 = bk_LA_settle_6 := rfl
theorem tg_LA_settle_18 : gb_tgt 14 18 = bk_LA_settle_18 := rfl
theorem tg_LA_settle_29 : gb_tgt 14 29 = bk_LA_settle_29 := rfl
theorem tg_LA_settle_68 : gb_tgt 14 68 = bk_LA_settle_68 := rfl
theorem tg_LA_settle_70 : gb_tgt 14 70 = bk_LA_settle_70 := rfl
theorem tg_LA_settle_72 : gb_tgt 14 72 = bk_LA_settle_72 := rfl
theorem tg_LA_howMany_4 : gb_tgt 15 4 = bk_LA_howMany_4 := rfl
theorem tg_LA_howMany_29 : gb_tgt 15 29 = bk_LA_howMany_29 := rfl
theorem tg_LA_howMany_31 : gb_tgt 15 31 = bk_LA_howMany_31 := rfl
theorem tg_LW_readFrom_8 : gb_tgt 17 8 = bk_LW_readFrom_8 := rfl
theorem tg_LW_readFrom_29 : gb_tgt 17 29 = bk_LW_readFrom_29 := rfl
theorem tg_LW_readFrom_31 : gb_tgt 17 31 = bk_LW_readFrom_31 := rfl
theorem tg_LW_readFrom_39 : gb_tgt 17 39 = bk_LW_readFrom_39 := rfl
theorem tg_LW_readConditions_12 : gb_tgt 18 12 = bk_LW_readConditions_12 := rfl
theorem tg_LW_readConditions_14 : gb_tgt 18 14 = bk_LW_readConditions_14 := rfl
theorem tg_LW_readConditions_24 : gb_tgt 18 24 = bk_LW_readConditions_24 := rfl
theorem tg_LW_readConditions_38 : gb_tgt 18 38 = bk_LW_readConditions_38 := rfl
theorem tg_LW_readConditions_44 : gb_tgt 18 44 = bk_LW_readConditions_44 := rfl
theorem tg_LW_readConditions_46 : gb_tgt 18 46 = bk_LW_readConditions_46 := rfl
theorem tg_LW_readCondition_18 : gb_tgt 19 18 = bk_LW_readCondition_18 := rfl
theorem tg_LW_readCondition_20 : gb_tgt 19 20 = bk_LW_readCondition_20 := rfl
theorem tg_LW_readCondition_21 : gb_tgt 19 21 = bk_LW_readCondition_21 := rfl
theorem tg_LW_readCondition_30 : gb_tgt 19 30 = bk_LW_readCondition_30 := rfl
theorem tg_LW_readCondition_34 : gb_tgt 19 34 = bk_LW_readCondition_34 := rfl
theorem tg_LW_readCondition_36 : gb_tgt 19 36 = bk_LW_readCondition_36 := rfl
theorem tg_LW_readOutcome_12 : gb_tgt 20 12 = bk_LW_readOutcome_12 := rfl
theorem tg_LW_readOutcome_17 : gb_tgt 20 17 = bk_LW_readOutcome_17 := rfl
theorem tg_LW_readOutcome_18 : gb_tgt 20 18 = bk_LW_readOutcome_18 := rfl
theorem tg_LW_readOutcome_28 : gb_tgt 20 28 = bk_LW_readOutcome_28 := rfl
theorem tg_LW_readOutcome_32 : gb_tgt 20 32 = bk_LW_readOutcome_32 := rfl
theorem tg_LW_readOutcome_34 : gb_tgt 20 34 = bk_LW_readOutcome_34 := rfl
theorem tg_LW_readOutcome_53 : gb_tgt 20 53 = bk_LW_readOutcome_53 := rfl
theorem tg_LW_readOutcome_55 : gb_tgt 20 55 = bk_LW_readOutcome_55 := rfl
theorem tg_LW_firstThatHolds_2 : gb_tgt 21 2 = bk_LW_firstThatHolds_2 := rfl
theorem tg_LW_firstThatHolds_10 : gb_tgt 21 10 = bk_LW_firstThatHolds_10 := rfl
theorem tg_LW_firstThatHolds_49 : gb_tgt 21 49 = bk_LW_firstThatHolds_49 := rfl
theorem tg_LW_firstThatHolds_52 : gb_tgt 21 52 = bk_LW_firstThatHolds_52 := rfl
theorem tg_LW_firstThatHolds_54 : gb_tgt 21 54 = bk_LW_firstThatHolds_54 := rfl
theorem tg_LW_firstThatHolds_55 : gb_tgt 21 55 = bk_LW_firstThatHolds_55 := rfl
theorem tg_LW_firstThatHolds_58 : gb_tgt 21 58 = bk_LW_firstThatHolds_58 := rfl
theorem tg_LW_firstThatHolds_62 : gb_tgt 21 62 = bk_LW_firstThatHolds_62 := rfl
theorem tg_LW_firstThatHolds_64 : gb_tgt 21 64 = bk_LW_firstThatHolds_64 := rfl
theorem tg_LW_valueOf_2 : gb_tgt 22 2 = bk_LW_valueOf_2 := rfl
theorem tg_LW_valueOf_4 : gb_tgt 22 4 = bk_LW_valueOf_4 := rfl
theorem tg_LW_valueOf_6 : gb_tgt 22 6 = bk_LW_valueOf_6 := rfl
theorem tg_LW_valueOf_8 : gb_tgt 22 8 = bk_LW_valueOf_8 := rfl
theorem tg_MA_solve_2 : gb_tgt 24 2 = bk_MA_solve_2 := rfl
theorem tg_MA_solve_21 : gb_tgt 24 21 = bk_MA_solve_21 := rfl
theorem tg_MA_solve_23 : gb_tgt 24 23 = bk_MA_solve_23 := rfl
theorem tg_MA_solve_24 : gb_tgt 24 24 = bk_MA_solve_24 := rfl
theorem tg_MA_solve_27 : gb_tgt 24 27 = bk_MA_solve_27 := rfl
theorem tg_MA_lowestFor_11 : gb_tgt 25 11 = bk_MA_lowestFor_11 := rfl
theorem tg_MA_lowestFor_32 : gb_tgt 25 32 = bk_MA_lowestFor_32 := rfl
theorem tg_MA_lowestFor_34 : gb_tgt 25 34 = bk_MA_lowestFor_34 := rfl
theorem tg_MA_choiceOf_6 : gb_tgt 26 6 = bk_MA_choiceOf_6 := rfl
theorem tg_MA_choiceOf_18 : gb_tgt 26 18 = bk_MA_choiceOf_18 := rfl
theorem tg_MA_choiceOf_26 : gb_tgt 26 26 = bk_MA_choiceOf_26 := rfl
theorem tg_OU_readReports_2 : gb_tgt 28 2 = bk_OU_readReports_2 := rfl
theorem tg_OU_readReports_13 : gb_tgt 28 13 = bk_OU_readReports_13 := rfl
theorem tg_OU_readReports_15 : gb_tgt 28 15 = bk_OU_readReports_15 := rfl
theorem tg_OU_readReports_60 : gb_tgt 28 60 = bk_OU_readReports_60 := rfl
theorem tg_OU_readReports_62 : gb_tgt 28 62 = bk_OU_readReports_62 := rfl
theorem tg_OU_weigh_25 : gb_tgt 29 25 = bk_OU_weigh_25 := rfl
theorem tg_OU_weigh_57 : gb_tgt 29 57 = bk_OU_weigh_57 := rfl
theorem tg_OU_weigh_83 : gb_tgt 29 83 = bk_OU_weigh_83 := rfl
theorem tg_OU_weigh_85 : gb_tgt 29 85 = bk_OU_weigh_85 := rfl
theorem tg_OU_sumOver_4 : gb_tgt 30 4 = bk_OU_sumOver_4 := rfl
theorem tg_OU_sumOver_28 : gb_tgt 30 28 = bk_OU_sumOver_28 := rfl
theorem tg_OU_sumOver_46 : gb_tgt 30 46 = bk_OU_sumOver_46 := rfl
theorem tg_OU_sumOver_64 : gb_tgt 30 64 = bk_OU_sumOver_64 := rfl
theorem tg_OU_sumOver_66 : gb_tgt 30 66 = bk_OU_sumOver_66 := rfl
theorem tg_OU_weighStretches_2 : gb_tgt 31 2 = bk_OU_weighStretches_2 := rfl
theorem tg_OU_weighStretches_24 : gb_tgt 31 24 = bk_OU_weighStretches_24 := rfl
theorem tg_OU_bestStretch_4 : gb_tgt 32 4 = bk_OU_bestStretch_4 := rfl
theorem tg_OU_bestStretch_22 : gb_tgt 32 22 = bk_OU_bestStretch_22 := rfl
theorem tg_OU_bestStretch_24 : gb_tgt 32 24 = bk_OU_bestStretch_24 := rfl
theorem tg_OU_joinStretches_2 : gb_tgt 33 2 = bk_OU_joinStretches_2 := rfl
theorem tg_OU_joinStretches_18 : gb_tgt 33 18 = bk_OU_joinStretches_18 := rfl
theorem tg_OU_joinStretches_42 : gb_tgt 33 42 = bk_OU_joinStretches_42 := rfl
theorem tg_OU_joinStretches_44 : gb_tgt 33 44 = bk_OU_joinStretches_44 := rfl
theorem tg_OU_sumFrom_17 : gb_tgt 34 17 = bk_OU_sumFrom_17 := rfl
theorem tg_OU_sumFrom_23 : gb_tgt 34 23 = bk_OU_sumFrom_23 := rfl
theorem tg_OU_beginOf_4 : gb_tgt 35 4 = bk_OU_beginOf_4 := rfl
theorem tg_OU_beginOf_19 : gb_tgt 35 19 = bk_OU_beginOf_19 := rfl
theorem tg_OU_beginOf_20 : gb_tgt 35 20 = bk_OU_beginOf_20 := rfl
theorem tg_OU_beginOf_27 : gb_tgt 35 27 = bk_OU_beginOf_27 := rfl
theorem tg_OU_beginOf_34 : gb_tgt 35 34 = bk_OU_beginOf_34 := rfl
theorem tg_OU_beginOf_49 : gb_tgt 35 49 = bk_OU_beginOf_49 := rfl
theorem tg_OU_beginOf_51 : gb_tgt 35 51 = bk_OU_beginOf_51 := rfl
theorem tg_SC_append_4 : gb_tgt 37 4 = bk_SC_append_4 := rfl
theorem tg_SC_append_30 : gb_tgt 37 30 = bk_SC_append_30 := rfl
theorem tg_SC_hasMore_7 : gb_tgt 38 7 = bk_SC_hasMore_7 := rfl
theorem tg_SC_hasMore_8 : gb_tgt 38 8 = bk_SC_hasMore_8 := rfl
theorem tg_SC_peek_17 : gb_tgt 39 17 = bk_SC_peek_17 := rfl
theorem tg_SC_peek_18 : gb_tgt 39 18 = bk_SC_peek_18 := rfl
theorem tg_SC_take_6 : gb_tgt 41 6 = bk_SC_take_6 := rfl
theorem tg_SC_takeNumber_8 : gb_tgt 42 8 = bk_SC_takeNumber_8 := rfl
theorem tg_SC_takeNumber_9 : gb_tgt 42 9 = bk_SC_takeNumber_9 := rfl
theorem tg_SC_takeNumber_18 : gb_tgt 42 18 = bk_SC_takeNumber_18 := rfl
theorem tg_SC_takeNumber_47 : gb_tgt 42 47 = bk_SC_takeNumber_47 := rfl
theorem tg_SC_takeNumber_54 : gb_tgt 42 54 = bk_SC_takeNumber_54 := rfl
theorem tg_SC_takeNumber_56 : gb_tgt 42 56 = bk_SC_takeNumber_56 := rfl
theorem tg_SC_takeNumber_63 : gb_tgt 42 63 = bk_SC_takeNumber_63 := rfl
theorem tg_SC_takeNumber_65 : gb_tgt 42 65 = bk_SC_takeNumber_65 := rfl
theorem tg_SH_sawBy_2 : gb_tgt 49 2 = bk_SH_sawBy_2 := rfl
theorem tg_SH_sawBy_31 : gb_tgt 49 31 = bk_SH_sawBy_31 := rfl
theorem tg_SH_sawBy_33 : gb_tgt 49 33 = bk_SH_sawBy_33 := rfl
theorem tg_SH_sawNoneFrom_2 : gb_tgt 50 2 = bk_SH_sawNoneFrom_2 := rfl
theorem tg_SH_sawNoneFrom_37 : gb_tgt 50 37 = bk_SH_sawNoneFrom_37 := rfl
theorem tg_SH_sawNoneFrom_39 : gb_tgt 50 39 = bk_SH_sawNoneFrom_39 := rfl
theorem tg_SH_hasNumber_2 : gb_tgt 51 2 = bk_SH_hasNumber_2 := rfl
theorem tg_SH_hasNumber_14 : gb_tgt 51 14 = bk_SH_hasNumber_14 := rfl
theorem tg_SH_hasNumber_16 : gb_tgt 51 16 = bk_SH_hasNumber_16 := rfl
theorem tg_SH_greatestNumber_4 : gb_tgt 53 4 = bk_SH_greatestNumber_4 := rfl
theorem tg_SH_greatestNumber_17 : gb_tgt 53 17 = bk_SH_greatestNumber_17 := rfl
theorem tg_SU_init_22 : gb_tgt 54 22 = bk_SU_init_22 := rfl
theorem tg_SU_init_39 : gb_tgt 54 39 = bk_SU_init_39 := rfl
theorem tg_SU_solve_2 : gb_tgt 57 2 = bk_SU_solve_2 := rfl
theorem tg_SU_solve_23 : gb_tgt 57 23 = bk_SU_solve_23 := rfl
theorem tg_SU_solve_26 : gb_tgt 57 26 = bk_SU_solve_26 := rfl
theorem tg_SU_solve_27 : gb_tgt 57 27 = bk_SU_solve_27 := rfl
theorem tg_SU_solve_29 : gb_tgt 57 29 = bk_SU_solve_29 := rfl
theorem tg_SU_leastCost_4 : gb_tgt 58 4 = bk_SU_leastCost_4 := rfl
theorem tg_SU_leastCost_16 : gb_tgt 58 16 = bk_SU_leastCost_16 := rfl
theorem tg_SU_costThrough_4 : gb_tgt 59 4 = bk_SU_costThrough_4 := rfl
theorem tg_SU_costThrough_18 : gb_tgt 59 18 = bk_SU_costThrough_18 := rfl
theorem tg_SU_costThrough_27 : gb_tgt 59 27 = bk_SU_costThrough_27 := rfl
theorem tg_SU_costThrough_29 : gb_tgt 59 29 = bk_SU_costThrough_29 := rfl
theorem tg_SU_costThrough_34 : gb_tgt 59 34 = bk_SU_costThrough_34 := rfl
theorem tg_SU_costThrough_40 : gb_tgt 59 40 = bk_SU_costThrough_40 := rfl
theorem tg_SU_firstTest_2 : gb_tgt 60 2 = bk_SU_firstTest_2 := rfl
theorem tg_SU_firstTest_16 : gb_tgt 60 16 = bk_SU_firstTest_16 := rfl
theorem tg_SU_firstTest_18 : gb_tgt 60 18 = bk_SU_firstTest_18 := rfl
theorem tg_WE_addWind_8 : gb_tgt 64 8 = bk_WE_addWind_8 := rfl
theorem tg_WE_addWind_20 : gb_tgt 64 20 = bk_WE_addWind_20 := rfl
theorem tg_WE_addWind_30 : gb_tgt 64 30 = bk_WE_addWind_30 := rfl
theorem tg_WE_addWind_33 : gb_tgt 64 33 = bk_WE_addWind_33 := rfl
theorem tg_WE_makeRoom_3 : gb_tgt 65 3 = bk_WE_makeRoom_3 := rfl
theorem tg_WE_makeRoom_38 : gb_tgt 65 38 = bk_WE_makeRoom_38 := rfl
theorem tg_GB_write_7 : gb_tgt 67 7 = bk_GB_write_7 := rfl
theorem tg_GB_write_16 : gb_tgt 67 16 = bk_GB_write_16 := rfl
theorem tg_GB_fault_8 : gb_tgt 69 8 = bk_GB_fault_8 := rfl
theorem tg_GB_fault_13 : gb_tgt 69 13 = bk_GB_fault_13 := rfl
theorem tg_GB_lay_5 : gb_tgt 70 5 = bk_GB_lay_5 := rfl
theorem tg_GB_lay_7 : gb_tgt 70 7 = bk_GB_lay_7 := rfl
theorem tg_GB_layLaw_9 : gb_tgt 71 9 = bk_GB_layLaw_9 := rfl
theorem tg_GB_layBeach_9 : gb_tgt 72 9 = bk_GB_layBeach_9 := rfl
theorem tg_GB_drift_29 : gb_tgt 73 29 = bk_GB_drift_29 := rfl
theorem tg_GB_drift_31 : gb_tgt 73 31 = bk_GB_drift_31 := rfl
theorem tg_GB_drift_47 : gb_tgt 73 47 = bk_GB_drift_47 := rfl
theorem tg_GB_drift_53 : gb_tgt 73 53 = bk_GB_drift_53 := rfl
theorem tg_GB_drift_56 : gb_tgt 73 56 = bk_GB_drift_56 := rfl
theorem tg_GB_worlds_9 : gb_tgt 74 9 = bk_GB_worlds_9 := rfl
theorem tg_GB_worlds_11 : gb_tgt 74 11 = bk_GB_worlds_11 := rfl
theorem tg_GB_worlds_26 : gb_tgt 74 26 = bk_GB_worlds_26 := rfl
theorem tg_GB_worlds_42 : gb_tgt 74 42 = bk_GB_worlds_42 := rfl
theorem tg_GB_worlds_43 : gb_tgt 74 43 = bk_GB_worlds_43 := rfl
theorem tg_GB_ashore_17 : gb_tgt 75 17 = bk_GB_ashore_17 := rfl
theorem tg_GB_ashore_19 : gb_tgt 75 19 = bk_GB_ashore_19 := rfl
theorem tg_GB_find_11 : gb_tgt 76 11 = bk_GB_find_11 := rfl
theorem tg_GB_find_13 : gb_tgt 76 13 = bk_GB_find_13 := rfl
theorem tg_GB_find_20 : gb_tgt 76 20 = bk_GB_find_20 := rfl
theorem tg_GB_from_13 : gb_tgt 77 13 = bk_GB_from_13 := rfl
theorem tg_GB_from_14 : gb_tgt 77 14 = bk_GB_from_14 := rfl
theorem tg_GB_lossesBehind_4 : gb_tgt 78 4 = bk_GB_lossesBehind_4 := rfl
theorem tg_GB_lossesBehind_52 : gb_tgt 78 52 = bk_GB_lossesBehind_52 := rfl
theorem tg_GB_lossesBehind_54 : gb_tgt 78 54 = bk_GB_lossesBehind_54 := rfl
theorem tg_GB_parted_11 : gb_tgt 79 11 = bk_GB_parted_11 := rfl
theorem tg_GB_parted_18 : gb_tgt 79 18 = bk_GB_parted_18 := rfl
theorem tg_GB_parted_20 : gb_tgt 79 20 = bk_GB_parted_20 := rfl
theorem tg_GB_parted_35 : gb_tgt 79 35 = bk_GB_parted_35 := rfl
theorem tg_GB_parted_44 : gb_tgt 79 44 = bk_GB_parted_44 := rfl
theorem tg_GB_parted_48 : gb_tgt 79 48 = bk_GB_parted_48 := rfl
theorem tg_GB_parted_52 : gb_tgt 79 52 = bk_GB_parted_52 := rfl
theorem tg_GB_report_14 : gb_tgt 80 14 = bk_GB_report_14 := rfl
theorem tg_GB_report_16 : gb_tgt 80 16 = bk_GB_report_16 := rfl
theorem tg_GB_report_23 : gb_tgt 80 23 = bk_GB_report_23 := rfl
theorem tg_GB_there_11 : gb_tgt 81 11 = bk_GB_there_11 := rfl
theorem tg_GB_there_13 : gb_tgt 81 13 = bk_GB_there_13 := rfl
theorem tg_GB_there_22 : gb_tgt 81 22 = bk_GB_there_22 := rfl
theorem tg_GB_there_36 : gb_tgt 81 36 = bk_GB_there_36 := rfl
theorem tg_GB_there_37 : gb_tgt 81 37 = bk_GB_there_37 := rfl
theorem tg_GB_missed_7 : gb_tgt 82 7 = bk_GB_missed_7 := rfl
theorem tg_GB_missed_11 : gb_tgt 82 11 = bk_GB_missed_11 := rfl
theorem tg_GB_missed_35 : gb_tgt 82 35 = bk_GB_missed_35 := rfl
theorem tg_GB_missed_36 : gb_tgt 82 36 = bk_GB_missed_36 := rfl
theorem tg_GB_missed_49 : gb_tgt 82 49 = bk_GB_missed_49 := rfl
theorem tg_GB_missed_50 : gb_tgt 82 50 = bk_GB_missed_50 := rfl
theorem tg_GB_missed_72 : gb_tgt 82 72 = bk_GB_missed_72 := rfl
theorem tg_GB_missed_74 : gb_tgt 82 74 = bk_GB_missed_74 := rfl
theorem tg_GB_left_6 : gb_tgt 83 6 = bk_GB_left_6 := rfl
theorem tg_GB_hope_17 : gb_tgt 84 17 = bk_GB_hope_17 := rfl
theorem tg_GB_hope_19 : gb_tgt 84 19 = bk_GB_hope_19 := rfl
theorem tg_GB_walk_18 : gb_tgt 85 18 = bk_GB_walk_18 := rfl
theorem tg_GB_walk_20 : gb_tgt 85 20 = bk_GB_walk_20 := rfl
theorem tg_GB_walk_44 : gb_tgt 85 44 = bk_GB_walk_44 := rfl
theorem tg_GB_walk_49 : gb_tgt 85 49 = bk_GB_walk_49 := rfl
theorem tg_GB_walks_21 : gb_tgt 86 21 = bk_GB_walks_21 := rfl
theorem tg_GB_walks_23 : gb_tgt 86 23 = bk_GB_walks_23 := rfl
theorem tg_GB_walks_33 : gb_tgt 86 33 = bk_GB_walks_33 := rfl
theorem tg_GB_walks_35 : gb_tgt 86 35 = bk_GB_walks_35 := rfl
theorem tg_GB_walks_63 : gb_tgt 86 63 = bk_GB_walks_63 := rfl
theorem tg_GB_walks_73 : gb_tgt 86 73 = bk_GB_walks_73 := rfl
theorem tg_GB_weighLosses_9 : gb_tgt 87 9 = bk_GB_weighLosses_9 := rfl
theorem tg_GB_weighLosses_31 : gb_tgt 87 31 = bk_GB_weighLosses_31 := rfl
theorem tg_GB_number_7 : gb_tgt 88 7 = bk_GB_number_7 := rfl
theorem tg_GB_number_14 : gb_tgt 88 14 = bk_GB_number_14 := rfl
theorem tg_GB_number_21 : gb_tgt 88 21 = bk_GB_number_21 := rfl
theorem tg_GB_fell_7 : gb_tgt 89 7 = bk_GB_fell_7 := rfl
theorem tg_GB_fell_16 : gb_tgt 89 16 = bk_GB_fell_16 := rfl
theorem tg_GB_fell_24 : gb_tgt 89 24 = bk_GB_fell_24 := rfl
theorem tg_GB_fell_40 : gb_tgt 89 40 = bk_GB_fell_40 := rfl
theorem tg_GB_fell_44 : gb_tgt 89 44 = bk_GB_fell_44 := rfl
theorem tg_GB_most_13 : gb_tgt 90 13 = bk_GB_most_13 := rfl
theorem tg_GB_most_15 : gb_tgt 90 15 = bk_GB_most_15 := rfl
theorem tg_GB_most_22 : gb_tgt 90 22 = bk_GB_most_22 := rfl
theorem tg_GB_greatestLikely_6 : gb_tgt 91 6 = bk_GB_greatestLikely_6 := rfl
theorem tg_GB_greatestLikely_30 : gb_tgt 91 30 = bk_GB_greatestLikely_30 := rfl
theorem tg_GB_greatestLikely_34 : gb_tgt 91 34 = bk_GB_greatestLikely_34 := rfl
theorem tg_GB_greatestLikely_36 : gb_tgt 91 36 = bk_GB_greatestLikely_36 := rfl
theorem tg_GB_oddsOf_4 : gb_tgt 92 4 = bk_GB_oddsOf_4 := rfl
theorem tg_GB_oddsOf_24 : gb_tgt 92 24 = bk_GB_oddsOf_24 := rfl
theorem tg_GB_shortened_2 : gb_tgt 93 2 = bk_GB_shortened_2 := rfl
theorem tg_GB_shortened_17 : gb_tgt 93 17 = bk_GB_shortened_17 := rfl
theorem tg_GB_shortened_19 : gb_tgt 93 19 = bk_GB_shortened_19 := rfl
theorem tg_GB_glass_9 : gb_tgt 94 9 = bk_GB_glass_9 := rfl
theorem tg_GB_glass_11 : gb_tgt 94 11 = bk_GB_glass_11 := rfl
theorem tg_GB_glass_15 : gb_tgt 94 15 = bk_GB_glass_15 := rfl
theorem tg_GB_glass_24 : gb_tgt 94 24 = bk_GB_glass_24 := rfl
theorem tg_GB_life_6 : gb_tgt 95 6 = bk_GB_life_6 := rfl
theorem tg_GB_life_10 : gb_tgt 95 10 = bk_GB_life_10 := rfl
theorem tg_GB_life_21 : gb_tgt 95 21 = bk_GB_life_21 := rfl
theorem tg_GB_isGlass_12 : gb_tgt 96 12 = bk_GB_isGlass_12 := rfl
theorem tg_GB_isGlass_13 : gb_tgt 96 13 = bk_GB_isGlass_13 := rfl
theorem tg_GB_whose_16 : gb_tgt 98 16 = bk_GB_whose_16 := rfl
theorem tg_GB_whose_18 : gb_tgt 98 18 = bk_GB_whose_18 := rfl
theorem tg_GB_whose_38 : gb_tgt 98 38 = bk_GB_whose_38 := rfl
theorem tg_GB_whose_39 : gb_tgt 98 39 = bk_GB_whose_39 := rfl
theorem tg_GB_whose_40 : gb_tgt 98 40 = bk_GB_whose_40 := rfl
theorem tg_GB_whose_53 : gb_tgt 98 53 = bk_GB_whose_53 := rfl
theorem tg_GB_whose_61 : gb_tgt 98 61 = bk_GB_whose_61 := rfl
theorem tg_GB_whose_66 : gb_tgt 98 66 = bk_GB_whose_66 := rfl
theorem tg_GB_two_21 : gb_tgt 99 21 = bk_GB_two_21 := rfl
theorem tg_GB_two_23 : gb_tgt 99 23 = bk_GB_two_23 := rfl
theorem tg_GB_two_34 : gb_tgt 99 34 = bk_GB_two_34 := rfl
theorem tg_GB_two_43 : gb_tgt 99 43 = bk_GB_two_43 := rfl
theorem tg_GB_two_44 : gb_tgt 99 44 = bk_GB_two_44 := rfl
theorem tg_GB_two_45 : gb_tgt 99 45 = bk_GB_two_45 := rfl
theorem tg_GB_two_51 : gb_tgt 99 51 = bk_GB_two_51 := rfl
theorem tg_GB_two_60 : gb_tgt 99 60 = bk_GB_two_60 := rfl
theorem tg_GB_two_70 : gb_tgt 99 70 = bk_GB_two_70 := rfl
theorem tg_GB_two_75 : gb_tgt 99 75 = bk_GB_two_75 := rfl
theorem tg_GB_two_76 : gb_tgt 99 76 = bk_GB_two_76 := rfl
theorem tg_GB_two_81 : gb_tgt 99 81 = bk_GB_two_81 := rfl
theorem tg_GB_two_83 : gb_tgt 99 83 = bk_GB_two_83 := rfl
theorem tg_GB_two_85 : gb_tgt 99 85 = bk_GB_two_85 := rfl
theorem tg_GB_show_11 : gb_tgt 100 11 = bk_GB_show_11 := rfl
theorem tg_GB_show_13 : gb_tgt 100 13 = bk_GB_show_13 := rfl
theorem tg_GB_cost_8 : gb_tgt 101 8 = bk_GB_cost_8 := rfl
theorem tg_GB_cost_10 : gb_tgt 101 10 = bk_GB_cost_10 := rfl
theorem tg_GB_parting_8 : gb_tgt 102 8 = bk_GB_parting_8 := rfl
theorem tg_GB_parting_10 : gb_tgt 102 10 = bk_GB_parting_10 := rfl
theorem tg_GB_parting_23 : gb_tgt 102 23 = bk_GB_parting_23 := rfl
theorem tg_GB_parting_31 : gb_tgt 102 31 = bk_GB_parting_31 := rfl
theorem tg_GB_parting_35 : gb_tgt 102 35 = bk_GB_parting_35 := rfl
theorem tg_GB_shown_9 : gb_tgt 103 9 = bk_GB_shown_9 := rfl
theorem tg_GB_shown_11 : gb_tgt 103 11 = bk_GB_shown_11 := rfl
theorem tg_GB_keep_7 : gb_tgt 104 7 = bk_GB_keep_7 := rfl
theorem tg_GB_back_7 : gb_tgt 105 7 = bk_GB_back_7 := rfl
theorem tg_GB_count_2 : gb_tgt 106 2 = bk_GB_count_2 := rfl
theorem tg_GB_count_6 : gb_tgt 106 6 = bk_GB_count_6 := rfl
theorem tg_GB_count_10 : gb_tgt 106 10 = bk_GB_count_10 := rfl
theorem tg_GB_count_14 : gb_tgt 106 14 = bk_GB_count_14 := rfl
theorem tg_GB_count_18 : gb_tgt 106 18 = bk_GB_count_18 := rfl
theorem tg_GB_count_22 : gb_tgt 106 22 = bk_GB_count_22 := rfl
theorem tg_GB_count_26 : gb_tgt 106 26 = bk_GB_count_26 := rfl
theorem tg_GB_count_30 : gb_tgt 106 30 = bk_GB_count_30 := rfl
theorem tg_GB_count_34 : gb_tgt 106 34 = bk_GB_count_34 := rfl
theorem tg_GB_count_38 : gb_tgt 106 38 = bk_GB_count_38 := rfl
theorem tg_GB_within_8 : gb_tgt 107 8 = bk_GB_within_8 := rfl
theorem tg_GB_within_9 : gb_tgt 107 9 = bk_GB_within_9 := rfl
theorem tg_RM_in_10 : gb_tgt 117 10 = bk_RM_in_10 := rfl
theorem tg_RM_in_11 : gb_tgt 117 11 = bk_RM_in_11 := rfl
theorem tg_RM_write_8 : gb_tgt 118 8 = bk_RM_write_8 := rfl
theorem tg_RM_write_16 : gb_tgt 118 16 = bk_RM_write_16 := rfl
theorem tg_RM_write_20 : gb_tgt 118 20 = bk_RM_write_20 := rfl
theorem tg_RM_write_42 : gb_tgt 118 42 = bk_RM_write_42 := rfl
theorem tg_RM_next_11 : gb_tgt 120 11 = bk_RM_next_11 := rfl
theorem tg_RM_next_12 : gb_tgt 120 12 = bk_RM_next_12 := rfl
theorem tg_RM_value_6 : gb_tgt 121 6 = bk_RM_value_6 := rfl
theorem tg_RM_value_7 : gb_tgt 121 7 = bk_RM_value_7 := rfl
theorem tg_RM_value_15 : gb_tgt 121 15 = bk_RM_value_15 := rfl
theorem tg_RM_value_16 : gb_tgt 121 16 = bk_RM_value_16 := rfl
theorem tg_RM_value_22 : gb_tgt 121 22 = bk_RM_value_22 := rfl
theorem tg_RM_value_41 : gb_tgt 121 41 = bk_RM_value_41 := rfl
theorem tg_RM_value_42 : gb_tgt 121 42 = bk_RM_value_42 := rfl
theorem tg_RM_value_51 : gb_tgt 121 51 = bk_RM_value_51 := rfl
theorem tg_RM_value_65 : gb_tgt 121 65 = bk_RM_value_65 := rfl
theorem tg_RM_value_67 : gb_tgt 121 67 = bk_RM_value_67 := rfl
theorem tg_RM_value_68 : gb_tgt 121 68 = bk_RM_value_68 := rfl
theorem tg_RM_value_74 : gb_tgt 121 74 = bk_RM_value_74 := rfl
theorem tg_RM_value_75 : gb_tgt 121 75 = bk_RM_value_75 := rfl
theorem tg_RM_value_90 : gb_tgt 121 90 = bk_RM_value_90 := rfl
theorem tg_RM_value_91 : gb_tgt 121 91 = bk_RM_value_91 := rfl
theorem tg_RM_more_10 : gb_tgt 122 10 = bk_RM_more_10 := rfl
theorem tg_RM_more_11 : gb_tgt 122 11 = bk_RM_more_11 := rfl
theorem tg_RM_more_26 : gb_tgt 122 26 = bk_RM_more_26 := rfl
theorem tg_RM_more_27 : gb_tgt 122 27 = bk_RM_more_27 := rfl
theorem tg_RM_ends_10 : gb_tgt 123 10 = bk_RM_ends_10 := rfl
theorem tg_RM_ends_11 : gb_tgt 123 11 = bk_RM_ends_11 := rfl
theorem tg_RM_item_27 : gb_tgt 124 27 = bk_RM_item_27 := rfl
theorem tg_RM_item_31 : gb_tgt 124 31 = bk_RM_item_31 := rfl
theorem tg_RM_item_33 : gb_tgt 124 33 = bk_RM_item_33 := rfl
theorem tg_RM_item_60 : gb_tgt 124 60 = bk_RM_item_60 := rfl
theorem tg_RM_item_61 : gb_tgt 124 61 = bk_RM_item_61 := rfl
theorem tg_RM_item_97 : gb_tgt 124 97 = bk_RM_item_97 := rfl
theorem tg_RM_item_98 : gb_tgt 124 98 = bk_RM_item_98 := rfl
theorem tg_RM_item_130 : gb_tgt 124 130 = bk_RM_item_130 := rfl
theorem tg_RM_item_131 : gb_tgt 124 131 = bk_RM_item_131 := rfl
theorem tg_RM_item_179 : gb_tgt 124 179 = bk_RM_item_179 := rfl
theorem tg_RM_item_180 : gb_tgt 124 180 = bk_RM_item_180 := rfl
set_option maxRecDepth 100000 in
theorem tg_RM_item_186 : gb_tgt 124 186 = bk_RM_item_186 := rfl
set_option maxRecDepth 100000 in
theorem tg_RM_item_192 : gb_tgt 124 192 = bk_RM_item_192 := rfl
set_option maxRecDepth 100000 in
theorem tg_RM_item_195 : gb_tgt 124 195 = bk_RM_item_195 := rfl
theorem tg_RM_kindItem_37 : gb_tgt 125 37 = bk_RM_kindItem_37 := rfl
theorem tg_RM_kindItem_38 : gb_tgt 125 38 = bk_RM_kindItem_38 := rfl
theorem tg_RM_kindItem_85 : gb_tgt 125 85 = bk_RM_kindItem_85 := rfl
theorem tg_RM_lossItem_54 : gb_tgt 126 54 = bk_RM_lossItem_54 := rfl
theorem tg_RM_lossItem_55 : gb_tgt 126 55 = bk_RM_lossItem_55 := rfl
theorem tg_RM_lossItem_109 : gb_tgt 126 109 = bk_RM_lossItem_109 := rfl
theorem tg_RM_ruleItem_9 : gb_tgt 127 9 = bk_RM_ruleItem_9 := rfl
theorem tg_RM_ruleItem_10 : gb_tgt 127 10 = bk_RM_ruleItem_10 := rfl
theorem tg_RM_ruleItem_31 : gb_tgt 127 31 = bk_RM_ruleItem_31 := rfl
theorem tg_RM_ruleItem_32 : gb_tgt 127 32 = bk_RM_ruleItem_32 := rfl
theorem tg_RM_ruleItem_33 : gb_tgt 127 33 = bk_RM_ruleItem_33 := rfl
theorem tg_RM_ruleItem_69 : gb_tgt 127 69 = bk_RM_ruleItem_69 := rfl
theorem tg_RM_ruleItem_75 : gb_tgt 127 75 = bk_RM_ruleItem_75 := rfl
theorem tg_RM_ruleItem_84 : gb_tgt 127 84 = bk_RM_ruleItem_84 := rfl
theorem tg_RM_ruleItem_85 : gb_tgt 127 85 = bk_RM_ruleItem_85 := rfl
theorem tg_RM_ruleItem_94 : gb_tgt 127 94 = bk_RM_ruleItem_94 := rfl
theorem tg_RM_ruleItem_95 : gb_tgt 127 95 = bk_RM_ruleItem_95 := rfl
theorem tg_RM_ruleItem_133 : gb_tgt 127 133 = bk_RM_ruleItem_133 := rfl
theorem tg_RM_ruleItem_142 : gb_tgt 127 142 = bk_RM_ruleItem_142 := rfl
theorem tg_RM_ruleItem_143 : gb_tgt 127 143 = bk_RM_ruleItem_143 := rfl
theorem tg_RM_ruleItem_151 : gb_tgt 127 151 = bk_RM_ruleItem_151 := rfl
theorem tg_RM_ruleItem_152 : gb_tgt 127 152 = bk_RM_ruleItem_152 := rfl
theorem tg_RM_ruleItem_155 : gb_tgt 127 155 = bk_RM_ruleItem_155 := rfl
theorem tg_RM_ruleItem_165 : gb_tgt 127 165 = bk_RM_ruleItem_165 := rfl
theorem tg_RM_ruleItem_166 : gb_tgt 127 166 = bk_RM_ruleItem_166 := rfl
set_option maxRecDepth 100000 in
theorem tg_RM_ruleItem_195 : gb_tgt 127 195 = bk_RM_ruleItem_195 := rfl
set_option maxRecDepth 100000 in
theorem tg_RM_ruleItem_204 : gb_tgt 127 204 = bk_RM_ruleItem_204 := rfl
set_option maxRecDepth 100000 in
theorem tg_RM_ruleItem_205 : gb_tgt 127 205 = bk_RM_ruleItem_205 := rfl
set_option maxRecDepth 100000 in
theorem tg_RM_ruleItem_214 : gb_tgt 127 214 = bk_RM_ruleItem_214 := rfl
set_option maxRecDepth 100000 in
theorem tg_RM_ruleItem_215 : gb_tgt 127 215 = bk_RM_ruleItem_215 := rfl
set_option maxRecDepth 100000 in
theorem tg_RM_ruleItem_224 : gb_tgt 127 224 = bk_RM_ruleItem_224 := rfl
set_option maxRecDepth 100000 in
theorem tg_RM_ruleItem_225 : gb_tgt 127 225 = bk_RM_ruleItem_225 := rfl
set_option maxRecDepth 100000 in
theorem tg_RM_ruleItem_246 : gb_tgt 127 246 = bk_RM_ruleItem_246 := rfl
set_option maxRecDepth 100000 in
theorem tg_RM_ruleItem_251 : gb_tgt 127 251 = bk_RM_ruleItem_251 := rfl
set_option maxRecDepth 100000 in
theorem tg_RM_ruleItem_252 : gb_tgt 127 252 = bk_RM_ruleItem_252 := rfl
set_option maxRecDepth 100000 in
theorem tg_RM_ruleItem_275 : gb_tgt 127 275 = bk_RM_ruleItem_275 := rfl
theorem tg_RM_fault_33 : gb_tgt 128 33 = bk_RM_fault_33 := rfl
theorem tg_RM_fault_49 : gb_tgt 128 49 = bk_RM_fault_49 := rfl
theorem tg_RM_fault_51 : gb_tgt 128 51 = bk_RM_fault_51 := rfl
theorem tg_RM_fault_56 : gb_tgt 128 56 = bk_RM_fault_56 := rfl
theorem tg_RM_fault_57 : gb_tgt 128 57 = bk_RM_fault_57 := rfl
theorem tg_RM_lay_7 : gb_tgt 129 7 = bk_RM_lay_7 := rfl
theorem tg_RM_lay_19 : gb_tgt 129 19 = bk_RM_lay_19 := rfl
theorem tg_RM_lay_34 : gb_tgt 129 34 = bk_RM_lay_34 := rfl
theorem tg_RM_lay_39 : gb_tgt 129 39 = bk_RM_lay_39 := rfl
theorem tg_RM_lay_81 : gb_tgt 129 81 = bk_RM_lay_81 := rfl
theorem tg_RM_lay_117 : gb_tgt 129 117 = bk_RM_lay_117 := rfl
theorem tg_RM_lay_130 : gb_tgt 129 130 = bk_RM_lay_130 := rfl
theorem tg_RM_lay_132 : gb_tgt 129 132 = bk_RM_lay_132 := rfl
theorem tg_RM_lay_152 : gb_tgt 129 152 = bk_RM_lay_152 := rfl
theorem tg_RM_lay_163 : gb_tgt 129 163 = bk_RM_lay_163 := rfl
theorem tg_RM_blows_4 : gb_tgt 134 4 = bk_RM_blows_4 := rfl
theorem tg_RM_blows_33 : gb_tgt 134 33 = bk_RM_blows_33 := rfl
theorem tg_RM_blows_35 : gb_tgt 134 35 = bk_RM_blows_35 := rfl
theorem tg_RM_blows_36 : gb_tgt 134 36 = bk_RM_blows_36 := rfl
theorem tg_RM_blows_39 : gb_tgt 134 39 = bk_RM_blows_39 := rfl
theorem tg_RM_blows_43 : gb_tgt 134 43 = bk_RM_blows_43 := rfl
theorem tg_RM_blows_51 : gb_tgt 134 51 = bk_RM_blows_51 := rfl
theorem tg_RM_drifts_6 : gb_tgt 135 6 = bk_RM_drifts_6 := rfl
theorem tg_RM_drifts_16 : gb_tgt 135 16 = bk_RM_drifts_16 := rfl
theorem tg_RM_drifts_22 : gb_tgt 135 22 = bk_RM_drifts_22 := rfl
theorem tg_RM_drifts_31 : gb_tgt 135 31 = bk_RM_drifts_31 := rfl
theorem tg_RM_drifts_37 : gb_tgt 135 37 = bk_RM_drifts_37 := rfl
theorem tg_RM_drifts_56 : gb_tgt 135 56 = bk_RM_drifts_56 := rfl
theorem tg_RM_drifts_64 : gb_tgt 135 64 = bk_RM_drifts_64 := rfl
theorem tg_RM_drifts_92 : gb_tgt 135 92 = bk_RM_drifts_92 := rfl
theorem tg_RM_drifts_94 : gb_tgt 135 94 = bk_RM_drifts_94 := rfl
theorem tg_RM_drifts_105 : gb_tgt 135 105 = bk_RM_drifts_105 := rfl
theorem tg_RM_drifts_107 : gb_tgt 135 107 = bk_RM_drifts_107 := rfl
theorem tg_RM_drift_35 : gb_tgt 136 35 = bk_RM_drift_35 := rfl
theorem tg_RM_drift_37 : gb_tgt 136 37 = bk_RM_drift_37 := rfl
theorem tg_RM_drift_48 : gb_tgt 136 48 = bk_RM_drift_48 := rfl
theorem tg_RM_drift_52 : gb_tgt 136 52 = bk_RM_drift_52 := rfl
theorem tg_RM_drift_54 : gb_tgt 136 54 = bk_RM_drift_54 := rfl
theorem tg_RM_laysWorlds_16 : gb_tgt 137 16 = bk_RM_laysWorlds_16 := rfl
theorem tg_RM_laysWorlds_35 : gb_tgt 137 35 = bk_RM_laysWorlds_35 := rfl
theorem tg_RM_laysWorlds_86 : gb_tgt 137 86 = bk_RM_laysWorlds_86 := rfl
theorem tg_RM_laysWorlds_88 : gb_tgt 137 88 = bk_RM_laysWorlds_88 := rfl
theorem tg_RM_counts_6 : gb_tgt 138 6 = bk_RM_counts_6 := rfl
theorem tg_RM_counts_40 : gb_tgt 138 40 = bk_RM_counts_40 := rfl
theorem tg_RM_counts_41 : gb_tgt 138 41 = bk_RM_counts_41 := rfl
theorem tg_RM_counts_52 : gb_tgt 138 52 = bk_RM_counts_52 := rfl
theorem tg_RM_counts_54 : gb_tgt 138 54 = bk_RM_counts_54 := rfl
theorem tg_RM_counts_55 : gb_tgt 138 55 = bk_RM_counts_55 := rfl
theorem tg_RM_counts_59 : gb_tgt 138 59 = bk_RM_counts_59 := rfl
theorem tg_RM_worlds_10 : gb_tgt 139 10 = bk_RM_worlds_10 := rfl
theorem tg_RM_worlds_12 : gb_tgt 139 12 = bk_RM_worlds_12 := rfl
theorem tg_RM_worlds_28 : gb_tgt 139 28 = bk_RM_worlds_28 := rfl
theorem tg_RM_worlds_33 : gb_tgt 139 33 = bk_RM_worlds_33 := rfl
theorem tg_RM_worlds_39 : gb_tgt 139 39 = bk_RM_worlds_39 := rfl
theorem tg_RM_ashore_26 : gb_tgt 140 26 = bk_RM_ashore_26 := rfl
theorem tg_RM_ashore_27 : gb_tgt 140 27 = bk_RM_ashore_27 := rfl
theorem tg_RM_find_11 : gb_tgt 141 11 = bk_RM_find_11 := rfl
theorem tg_RM_find_13 : gb_tgt 141 13 = bk_RM_find_13 := rfl
theorem tg_RM_find_23 : gb_tgt 141 23 = bk_RM_find_23 := rfl
theorem tg_RM_fromOf_4 : gb_tgt 142 4 = bk_RM_fromOf_4 := rfl
theorem tg_RM_fromOf_53 : gb_tgt 142 53 = bk_RM_fromOf_53 := rfl
theorem tg_RM_fromOf_54 : gb_tgt 142 54 = bk_RM_fromOf_54 := rfl
theorem tg_RM_fromOf_58 : gb_tgt 142 58 = bk_RM_fromOf_58 := rfl
theorem tg_RM_from_16 : gb_tgt 143 16 = bk_RM_from_16 := rfl
theorem tg_RM_from_17 : gb_tgt 143 17 = bk_RM_from_17 := rfl
theorem tg_RM_parts_14 : gb_tgt 144 14 = bk_RM_parts_14 := rfl
theorem tg_RM_parts_34 : gb_tgt 144 34 = bk_RM_parts_34 := rfl
theorem tg_RM_parts_35 : gb_tgt 144 35 = bk_RM_parts_35 := rfl
theorem tg_RM_parts_52 : gb_tgt 144 52 = bk_RM_parts_52 := rfl
theorem tg_RM_parts_63 : gb_tgt 144 63 = bk_RM_parts_63 := rfl
theorem tg_RM_parts_68 : gb_tgt 144 68 = bk_RM_parts_68 := rfl
theorem tg_RM_parts_88 : gb_tgt 144 88 = bk_RM_parts_88 := rfl
theorem tg_RM_parts_89 : gb_tgt 144 89 = bk_RM_parts_89 := rfl
theorem tg_RM_parts_94 : gb_tgt 144 94 = bk_RM_parts_94 := rfl
theorem tg_RM_parts_95 : gb_tgt 144 95 = bk_RM_parts_95 := rfl
theorem tg_RM_parted_17 : gb_tgt 145 17 = bk_RM_parted_17 := rfl
theorem tg_RM_parted_22 : gb_tgt 145 22 = bk_RM_parted_22 := rfl
theorem tg_RM_parted_26 : gb_tgt 145 26 = bk_RM_parted_26 := rfl
theorem tg_RM_parted_30 : gb_tgt 145 30 = bk_RM_parted_30 := rfl
theorem tg_RM_report_17 : gb_tgt 146 17 = bk_RM_report_17 := rfl
theorem tg_RM_report_19 : gb_tgt 146 19 = bk_RM_report_19 := rfl
theorem tg_RM_report_29 : gb_tgt 146 29 = bk_RM_report_29 := rfl
theorem tg_RM_report_74 : gb_tgt 146 74 = bk_RM_report_74 := rfl
theorem tg_RM_report_75 : gb_tgt 146 75 = bk_RM_report_75 := rfl
theorem tg_RM_sees_12 : gb_tgt 147 12 = bk_RM_sees_12 := rfl
theorem tg_RM_sees_13 : gb_tgt 147 13 = bk_RM_sees_13 := rfl
theorem tg_RM_isOf_20 : gb_tgt 148 20 = bk_RM_isOf_20 := rfl
theorem tg_RM_isOf_21 : gb_tgt 148 21 = bk_RM_isOf_21 := rfl
theorem tg_RM_isThere_4 : gb_tgt 149 4 = bk_RM_isThere_4 := rfl
theorem tg_RM_isThere_38 : gb_tgt 149 38 = bk_RM_isThere_38 := rfl
theorem tg_RM_isThere_40 : gb_tgt 149 40 = bk_RM_isThere_40 := rfl
theorem tg_RM_isThere_41 : gb_tgt 149 41 = bk_RM_isThere_41 := rfl
theorem tg_RM_isThere_44 : gb_tgt 149 44 = bk_RM_isThere_44 := rfl
theorem tg_RM_isNot_4 : gb_tgt 150 4 = bk_RM_isNot_4 := rfl
theorem tg_RM_isNot_49 : gb_tgt 150 49 = bk_RM_isNot_49 := rfl
theorem tg_RM_isNot_51 : gb_tgt 150 51 = bk_RM_isNot_51 := rfl
theorem tg_RM_isNot_52 : gb_tgt 150 52 = bk_RM_isNot_52 := rfl
theorem tg_RM_isNot_55 : gb_tgt 150 55 = bk_RM_isNot_55 := rfl
theorem tg_RM_there_11 : gb_tgt 151 11 = bk_RM_there_11 := rfl
theorem tg_RM_there_13 : gb_tgt 151 13 = bk_RM_there_13 := rfl
theorem tg_RM_there_21 : gb_tgt 151 21 = bk_RM_there_21 := rfl
theorem tg_RM_there_29 : gb_tgt 151 29 = bk_RM_there_29 := rfl
theorem tg_RM_there_30 : gb_tgt 151 30 = bk_RM_there_30 := rfl
theorem tg_RM_missed_8 : gb_tgt 152 8 = bk_RM_missed_8 := rfl
theorem tg_RM_missed_12 : gb_tgt 152 12 = bk_RM_missed_12 := rfl
theorem tg_RM_missed_54 : gb_tgt 152 54 = bk_RM_missed_54 := rfl
theorem tg_RM_missed_55 : gb_tgt 152 55 = bk_RM_missed_55 := rfl
theorem tg_RM_missed_82 : gb_tgt 152 82 = bk_RM_missed_82 := rfl
theorem tg_RM_missed_83 : gb_tgt 152 83 = bk_RM_missed_83 := rfl
theorem tg_RM_missed_88 : gb_tgt 152 88 = bk_RM_missed_88 := rfl
theorem tg_RM_missed_89 : gb_tgt 152 89 = bk_RM_missed_89 := rfl
theorem tg_RM_missed_93 : gb_tgt 152 93 = bk_RM_missed_93 := rfl
theorem tg_RM_isGainsaid_24 : gb_tgt 153 24 = bk_RM_isGainsaid_24 := rfl
theorem tg_RM_isGainsaid_25 : gb_tgt 153 25 = bk_RM_isGainsaid_25 := rfl
theorem tg_RM_leftOf_6 : gb_tgt 154 6 = bk_RM_leftOf_6 := rfl
theorem tg_RM_leftOf_24 : gb_tgt 154 24 = bk_RM_leftOf_24 := rfl
theorem tg_RM_leftOf_25 : gb_tgt 154 25 = bk_RM_leftOf_25 := rfl
theorem tg_RM_leftOf_29 : gb_tgt 154 29 = bk_RM_leftOf_29 := rfl
theorem tg_RM_left_8 : gb_tgt 155 8 = bk_RM_left_8 := rfl
theorem tg_RM_left_9 : gb_tgt 155 9 = bk_RM_left_9 := rfl
theorem tg_RM_hopeOf_4 : gb_tgt 156 4 = bk_RM_hopeOf_4 := rfl
theorem tg_RM_hopeOf_27 : gb_tgt 156 27 = bk_RM_hopeOf_27 := rfl
theorem tg_RM_hopeOf_28 : gb_tgt 156 28 = bk_RM_hopeOf_28 := rfl
theorem tg_RM_hopeOf_36 : gb_tgt 156 36 = bk_RM_hopeOf_36 := rfl
theorem tg_RM_hopeOf_59 : gb_tgt 156 59 = bk_RM_hopeOf_59 := rfl
theorem tg_RM_hopeOf_63 : gb_tgt 156 63 = bk_RM_hopeOf_63 := rfl
theorem tg_RM_hope_24 : gb_tgt 158 24 = bk_RM_hope_24 := rfl
theorem tg_RM_hope_25 : gb_tgt 158 25 = bk_RM_hope_25 := rfl
theorem tg_RM_walk_22 : gb_tgt 159 22 = bk_RM_walk_22 := rfl
theorem tg_RM_walk_24 : gb_tgt 159 24 = bk_RM_walk_24 := rfl
theorem tg_RM_walk_30 : gb_tgt 159 30 = bk_RM_walk_30 := rfl
theorem tg_RM_walk_55 : gb_tgt 159 55 = bk_RM_walk_55 := rfl
theorem tg_RM_walk_56 : gb_tgt 159 56 = bk_RM_walk_56 := rfl
theorem tg_RM_walk_63 : gb_tgt 159 63 = bk_RM_walk_63 := rfl
theorem tg_RM_walk_64 : gb_tgt 159 64 = bk_RM_walk_64 := rfl
theorem tg_RM_walk_67 : gb_tgt 159 67 = bk_RM_walk_67 := rfl
theorem tg_RM_walk_72 : gb_tgt 159 72 = bk_RM_walk_72 := rfl
theorem tg_RM_walk_73 : gb_tgt 159 73 = bk_RM_walk_73 := rfl
theorem tg_RM_walks_25 : gb_tgt 160 25 = bk_RM_walks_25 := rfl
theorem tg_RM_walks_27 : gb_tgt 160 27 = bk_RM_walks_27 := rfl
theorem tg_RM_walks_29 : gb_tgt 160 29 = bk_RM_walks_29 := rfl
theorem tg_RM_walks_53 : gb_tgt 160 53 = bk_RM_walks_53 := rfl
theorem tg_RM_walks_64 : gb_tgt 160 64 = bk_RM_walks_64 := rfl
theorem tg_RM_walks_74 : gb_tgt 160 74 = bk_RM_walks_74 := rfl
theorem tg_RM_walks_75 : gb_tgt 160 75 = bk_RM_walks_75 := rfl
theorem tg_RM_walks_76 : gb_tgt 160 76 = bk_RM_walks_76 := rfl
theorem tg_RM_walks_82 : gb_tgt 160 82 = bk_RM_walks_82 := rfl
theorem tg_RM_walks_83 : gb_tgt 160 83 = bk_RM_walks_83 := rfl
theorem tg_RM_walks_91 : gb_tgt 160 91 = bk_RM_walks_91 := rfl
theorem tg_RM_walks_92 : gb_tgt 160 92 = bk_RM_walks_92 := rfl
theorem tg_RM_walks_93 : gb_tgt 160 93 = bk_RM_walks_93 := rfl
theorem tg_RM_walks_99 : gb_tgt 160 99 = bk_RM_walks_99 := rfl
theorem tg_RM_walks_100 : gb_tgt 160 100 = bk_RM_walks_100 := rfl
theorem tg_RM_walks_113 : gb_tgt 160 113 = bk_RM_walks_113 := rfl
theorem tg_RM_walks_114 : gb_tgt 160 114 = bk_RM_walks_114 := rfl
theorem tg_RM_walks_123 : gb_tgt 160 123 = bk_RM_walks_123 := rfl
theorem tg_RM_walks_124 : gb_tgt 160 124 = bk_RM_walks_124 := rfl
theorem tg_RM_walks_147 : gb_tgt 160 147 = bk_RM_walks_147 := rfl
theorem tg_RM_walks_149 : gb_tgt 160 149 = bk_RM_walks_149 := rfl
theorem tg_RM_walks_151 : gb_tgt 160 151 = bk_RM_walks_151 := rfl
theorem tg_RM_walks_153 : gb_tgt 160 153 = bk_RM_walks_153 := rfl
theorem tg_RM_walks_160 : gb_tgt 160 160 = bk_RM_walks_160 := rfl
theorem tg_RM_walks_162 : gb_tgt 160 162 = bk_RM_walks_162 := rfl
theorem tg_RM_walks_166 : gb_tgt 160 166 = bk_RM_walks_166 := rfl
theorem tg_RM_walks_171 : gb_tgt 160 171 = bk_RM_walks_171 := rfl
theorem tg_RM_number_8 : gb_tgt 161 8 = bk_RM_number_8 := rfl
theorem tg_RM_number_10 : gb_tgt 161 10 = bk_RM_number_10 := rfl
theorem tg_RM_number_24 : gb_tgt 161 24 = bk_RM_number_24 := rfl
theorem tg_RM_number_26 : gb_tgt 161 26 = bk_RM_number_26 := rfl
theorem tg_RM_number_34 : gb_tgt 161 34 = bk_RM_number_34 := rfl
theorem tg_RM_greatest_4 : gb_tgt 162 4 = bk_RM_greatest_4 := rfl
theorem tg_RM_greatest_21 : gb_tgt 162 21 = bk_RM_greatest_21 := rfl
theorem tg_RM_greatest_22 : gb_tgt 162 22 = bk_RM_greatest_22 := rfl
theorem tg_RM_greatest_25 : gb_tgt 162 25 = bk_RM_greatest_25 := rfl
theorem tg_RM_lowest_4 : gb_tgt 163 4 = bk_RM_lowest_4 := rfl
theorem tg_RM_lowest_17 : gb_tgt 163 17 = bk_RM_lowest_17 := rfl
theorem tg_RM_fell_8 : gb_tgt 164 8 = bk_RM_fell_8 := rfl
theorem tg_RM_fell_17 : gb_tgt 164 17 = bk_RM_fell_17 := rfl
theorem tg_RM_fell_40 : gb_tgt 164 40 = bk_RM_fell_40 := rfl
theorem tg_RM_fell_46 : gb_tgt 164 46 = bk_RM_fell_46 := rfl
theorem tg_RM_fell_48 : gb_tgt 164 48 = bk_RM_fell_48 := rfl
theorem tg_RM_most_13 : gb_tgt 165 13 = bk_RM_most_13 := rfl
theorem tg_RM_most_15 : gb_tgt 165 15 = bk_RM_most_15 := rfl
theorem tg_RM_most_22 : gb_tgt 165 22 = bk_RM_most_22 := rfl
theorem tg_RM_most_35 : gb_tgt 165 35 = bk_RM_most_35 := rfl
theorem tg_RM_most_44 : gb_tgt 165 44 = bk_RM_most_44 := rfl
theorem tg_RM_odds_4 : gb_tgt 166 4 = bk_RM_odds_4 := rfl
theorem tg_RM_odds_24 : gb_tgt 166 24 = bk_RM_odds_24 := rfl
theorem tg_RM_worn_14 : gb_tgt 167 14 = bk_RM_worn_14 := rfl
theorem tg_RM_worn_15 : gb_tgt 167 15 = bk_RM_worn_15 := rfl
theorem tg_RM_isGlass_14 : gb_tgt 168 14 = bk_RM_isGlass_14 := rfl
theorem tg_RM_isGlass_15 : gb_tgt 168 15 = bk_RM_isGlass_15 := rfl
theorem tg_RM_glass_10 : gb_tgt 169 10 = bk_RM_glass_10 := rfl
theorem tg_RM_glass_12 : gb_tgt 169 12 = bk_RM_glass_12 := rfl
theorem tg_RM_glass_16 : gb_tgt 169 16 = bk_RM_glass_16 := rfl
theorem tg_RM_glass_25 : gb_tgt 169 25 = bk_RM_glass_25 := rfl
theorem tg_RM_life_6 : gb_tgt 170 6 = bk_RM_life_6 := rfl
theorem tg_RM_life_10 : gb_tgt 170 10 = bk_RM_life_10 := rfl
theorem tg_RM_life_18 : gb_tgt 170 18 = bk_RM_life_18 := rfl
theorem tg_RM_holds_4 : gb_tgt 171 4 = bk_RM_holds_4 := rfl
theorem tg_RM_holds_37 : gb_tgt 171 37 = bk_RM_holds_37 := rfl
theorem tg_RM_holds_42 : gb_tgt 171 42 = bk_RM_holds_42 := rfl
theorem tg_RM_holds_47 : gb_tgt 171 47 = bk_RM_holds_47 := rfl
theorem tg_RM_holds_48 : gb_tgt 171 48 = bk_RM_holds_48 := rfl
theorem tg_RM_holds_82 : gb_tgt 171 82 = bk_RM_holds_82 := rfl
theorem tg_RM_holds_85 : gb_tgt 171 85 = bk_RM_holds_85 := rfl
theorem tg_RM_holds_87 : gb_tgt 171 87 = bk_RM_holds_87 := rfl
theorem tg_RM_holds_88 : gb_tgt 171 88 = bk_RM_holds_88 := rfl
theorem tg_RM_holds_91 : gb_tgt 171 91 = bk_RM_holds_91 := rfl
theorem tg_RM_whose_17 : gb_tgt 172 17 = bk_RM_whose_17 := rfl
theorem tg_RM_whose_19 : gb_tgt 172 19 = bk_RM_whose_19 := rfl
theorem tg_RM_whose_21 : gb_tgt 172 21 = bk_RM_whose_21 := rfl
theorem tg_RM_whose_48 : gb_tgt 172 48 = bk_RM_whose_48 := rfl
theorem tg_RM_whose_67 : gb_tgt 172 67 = bk_RM_whose_67 := rfl
theorem tg_RM_whose_68 : gb_tgt 172 68 = bk_RM_whose_68 := rfl
theorem tg_RM_whose_70 : gb_tgt 172 70 = bk_RM_whose_70 := rfl
theorem tg_RM_whose_74 : gb_tgt 172 74 = bk_RM_whose_74 := rfl
theorem tg_RM_whose_75 : gb_tgt 172 75 = bk_RM_whose_75 := rfl
theorem tg_RM_two_24 : gb_tgt 173 24 = bk_RM_two_24 := rfl
theorem tg_RM_two_26 : gb_tgt 173 26 = bk_RM_two_26 := rfl
theorem tg_RM_two_36 : gb_tgt 173 36 = bk_RM_two_36 := rfl
theorem tg_RM_two_45 : gb_tgt 173 45 = bk_RM_two_45 := rfl
theorem tg_RM_two_56 : gb_tgt 173 56 = bk_RM_two_56 := rfl
theorem tg_RM_two_57 : gb_tgt 173 57 = bk_RM_two_57 := rfl
theorem tg_RM_two_65 : gb_tgt 173 65 = bk_RM_two_65 := rfl
theorem tg_RM_two_66 : gb_tgt 173 66 = bk_RM_two_66 := rfl
theorem tg_RM_two_74 : gb_tgt 173 74 = bk_RM_two_74 := rfl
theorem tg_RM_two_75 : gb_tgt 173 75 = bk_RM_two_75 := rfl
theorem tg_RM_two_79 : gb_tgt 173 79 = bk_RM_two_79 := rfl
theorem tg_RM_two_81 : gb_tgt 173 81 = bk_RM_two_81 := rfl
theorem tg_RM_two_87 : gb_tgt 173 87 = bk_RM_two_87 := rfl
theorem tg_RM_two_93 : gb_tgt 173 93 = bk_RM_two_93 := rfl
theorem tg_RM_two_94 : gb_tgt 173 94 = bk_RM_two_94 := rfl
theorem tg_RM_two_99 : gb_tgt 173 99 = bk_RM_two_99 := rfl
theorem tg_RM_two_104 : gb_tgt 173 104 = bk_RM_two_104 := rfl
theorem tg_RM_two_109 : gb_tgt 173 109 = bk_RM_two_109 := rfl
theorem tg_RM_two_110 : gb_tgt 173 110 = bk_RM_two_110 := rfl
theorem tg_RM_show_15 : gb_tgt 175 15 = bk_RM_show_15 := rfl
theorem tg_RM_show_17 : gb_tgt 175 17 = bk_RM_show_17 := rfl
theorem tg_RM_cost_9 : gb_tgt 176 9 = bk_RM_cost_9 := rfl
theorem tg_RM_cost_11 : gb_tgt 176 11 = bk_RM_cost_11 := rfl
theorem tg_RM_shownOf_4 : gb_tgt 177 4 = bk_RM_shownOf_4 := rfl
theorem tg_RM_shownOf_29 : gb_tgt 177 29 = bk_RM_shownOf_29 := rfl
theorem tg_RM_shownOf_30 : gb_tgt 177 30 = bk_RM_shownOf_30 := rfl
theorem tg_RM_shownOf_34 : gb_tgt 177 34 = bk_RM_shownOf_34 := rfl
theorem tg_RM_byTest_4 : gb_tgt 178 4 = bk_RM_byTest_4 := rfl
theorem tg_RM_byTest_18 : gb_tgt 178 18 = bk_RM_byTest_18 := rfl
theorem tg_RM_byTest_31 : gb_tgt 178 31 = bk_RM_byTest_31 := rfl
theorem tg_RM_byTest_32 : gb_tgt 178 32 = bk_RM_byTest_32 := rfl
theorem tg_RM_byTest_35 : gb_tgt 178 35 = bk_RM_byTest_35 := rfl
theorem tg_RM_byTest_40 : gb_tgt 178 40 = bk_RM_byTest_40 := rfl
theorem tg_RM_byTest_46 : gb_tgt 178 46 = bk_RM_byTest_46 := rfl
theorem tg_RM_parting_12 : gb_tgt 179 12 = bk_RM_parting_12 := rfl
theorem tg_RM_parting_14 : gb_tgt 179 14 = bk_RM_parting_14 := rfl
theorem tg_RM_parting_16 : gb_tgt 179 16 = bk_RM_parting_16 := rfl
theorem tg_RM_parting_27 : gb_tgt 179 27 = bk_RM_parting_27 := rfl
theorem tg_RM_parting_28 : gb_tgt 179 28 = bk_RM_parting_28 := rfl
theorem tg_RM_parting_36 : gb_tgt 179 36 = bk_RM_parting_36 := rfl
theorem tg_RM_parting_37 : gb_tgt 179 37 = bk_RM_parting_37 := rfl
theorem tg_RM_parting_45 : gb_tgt 179 45 = bk_RM_parting_45 := rfl
theorem tg_RM_parting_71 : gb_tgt 179 71 = bk_RM_parting_71 := rfl
theorem tg_RM_parting_73 : gb_tgt 179 73 = bk_RM_parting_73 := rfl
theorem tg_RM_parting_75 : gb_tgt 179 75 = bk_RM_parting_75 := rfl
theorem tg_RM_parting_83 : gb_tgt 179 83 = bk_RM_parting_83 := rfl
theorem tg_RM_parting_90 : gb_tgt 179 90 = bk_RM_parting_90 := rfl
theorem tg_RM_parting_94 : gb_tgt 179 94 = bk_RM_parting_94 := rfl
theorem tg_RM_shown_21 : gb_tgt 180 21 = bk_RM_shown_21 := rfl
theorem tg_RM_shown_22 : gb_tgt 180 22 = bk_RM_shown_22 := rfl
theorem tg_RM_copies_26 : gb_tgt 181 26 = bk_RM_copies_26 := rfl
theorem tg_RM_copies_64 : gb_tgt 181 64 = bk_RM_copies_64 := rfl
theorem tg_RM_copies_83 : gb_tgt 181 83 = bk_RM_copies_83 := rfl
theorem tg_RM_copies_85 : gb_tgt 181 85 = bk_RM_copies_85 := rfl
theorem tg_RM_keep_6 : gb_tgt 182 6 = bk_RM_keep_6 := rfl
theorem tg_RM_back_5 : gb_tgt 183 5 = bk_RM_back_5 := rfl
theorem tg_RM_count_7 : gb_tgt 184 7 = bk_RM_count_7 := rfl
theorem tg_RM_count_15 : gb_tgt 184 15 = bk_RM_count_15 := rfl
theorem tg_RM_count_23 : gb_tgt 184 23 = bk_RM_count_23 := rfl
theorem tg_RM_count_31 : gb_tgt 184 31 = bk_RM_count_31 := rfl
theorem tg_RM_count_39 : gb_tgt 184 39 = bk_RM_count_39 := rfl
theorem tg_RM_count_47 : gb_tgt 184 47 = bk_RM_count_47 := rfl
theorem tg_RM_count_55 : gb_tgt 184 55 = bk_RM_count_55 := rfl
theorem tg_RM_count_61 : gb_tgt 184 61 = bk_RM_count_61 := rfl
theorem tg_RM_count_67 : gb_tgt 184 67 = bk_RM_count_67 := rfl
theorem tg_RM_count_68 : gb_tgt 184 68 = bk_RM_count_68 := rfl
theorem tg_JA_fill_d0a16_5 : gb_tgt 186 5 = bk_JA_fill_d0a16_5 := rfl
theorem tg_JA_fill_d0a16_14 : gb_tgt 186 14 = bk_JA_fill_d0a16_14 := rfl
theorem tg_JA_fill_53178_5 : gb_tgt 187 5 = bk_JA_fill_53178_5 := rfl
theorem tg_JA_fill_53178_14 : gb_tgt 187 14 = bk_JA_fill_53178_14 := rfl
end
section
/-! numbers -/
theorem fa_lit (n : Nat) : (OfNat.ofNat n : Int32) = nI n := rfl
theorem fa_litL (n : Nat) : (OfNat.ofNat n : Int64) = lN n := rfl
theorem nI_ltL {i n : Nat} (h : i < 2147483648) (hn : n < 2147483648) : nI i < (no_index (OfNat.ofNat n) : Int32) ↔ i < n := by rw [fa_lit]; exact nI_ltI h hn
theorem nI_leL {i n : Nat} (h : i < 2147483648) (hn : n < 2147483648) : nI i ≤ (no_index (OfNat.ofNat n) : Int32) ↔ i ≤ n := by rw [fa_lit]; exact nI_leI h hn
theorem L_ltI {i n : Nat} (h : i < 2147483648) (hn : n < 2147483648) : (no_index (OfNat.ofNat n) : Int32) < nI i ↔ n < i := by rw [fa_lit]; exact nI_ltI hn h
theorem L_leI {i n : Nat} (h : i < 2147483648) (hn : n < 2147483648) : (no_index (OfNat.ofNat n) : Int32) ≤ nI i ↔ n ≤ i := by rw [fa_lit]; exact nI_leI hn h
theorem nI_eqL {i n : Nat} (h : i < 2147483648) (hn : n < 2147483648) : nI i = (no_index (OfNat.ofNat n) : Int32) ↔ i = n := by rw [fa_lit]; exact nI_eq h hn
theorem L_eqI {i n : Nat} (h : i < 2147483648) (hn : n < 2147483648) : (no_index (OfNat.ofNat n) : Int32) = nI i ↔ n = i := by rw [fa_lit]; exact nI_eq hn h
theorem oob_L {k n : Nat} (h : k < n) (hn : n ≤ 2147483648) : oob (no_index (OfNat.ofNat k)) n = false := oob_nI h hn
theorem ix_L {k : Nat} (h : k < 2147483648) : ix (no_index (OfNat.ofNat k)) = k := nI_clamp h
theorem toInt_L {n : Nat} (h : n < 2147483648) : (no_index (OfNat.ofNat n) : Int32).toInt = (n : Int) := nI_toInt h
theorem toInt_LL {n : Nat} (h : n < 9223372036854775808) : (no_index (OfNat.ofNat n) : Int64).toInt = (n : Int) := pk_lT h
theorem w_Lle {n : Nat} (h : n < 2147483648) (x : Int32) : (no_index (OfNat.ofNat n) : Int64) ≤ x.toInt64 ↔ (OfNat.ofNat n : Int32) ≤ x := by
  rw [Int64.le_iff_toInt_le, Int32.le_iff_toInt_le, toInt_L h, toInt_LL (by omega), Int32.toInt_toInt64]
theorem w_leL {n : Nat} (h : n < 2147483648) (x : Int32) : x.toInt64 ≤ (no_index (OfNat.ofNat n) : Int64) ↔ x ≤ (OfNat.ofNat n : Int32) := by
  rw [Int64.le_iff_toInt_le, Int32.le_iff_toInt_le, toInt_L h, toInt_LL (by omega), Int32.toInt_toInt64]
theorem w_le (x y : Int32) : x.toInt64 ≤ y.toInt64 ↔ x ≤ y := by
  rw [Int64.le_iff_toInt_le, Int32.le_iff_toInt_le, Int32.toInt_toInt64, Int32.toInt_toInt64]
theorem ite_b1 {c : Prop} [Decidable c] : (if c then (1 : Int32) else 0) = 0 ↔ ¬ c := by by_cases h : c <;> simp [h]
theorem ite_b2 {c : Prop} [Decidable c] : (if c then (1 : Int32) else 0) ≠ 0 ↔ c := by by_cases h : c <;> simp [h]
theorem ite_b3 {c : Prop} [Decidable c] : ((if c then (1 : Int32) else 0) = 0 ∨ (if c then (1 : Int32) else 0) = 1) ↔ True := by by_cases h : c <;> simp [h]
theorem s_GB_within (v lo hi : Int32) (p : gb_Pi) (g : gb_Sg) : gb_call 107 [.int v, .int lo, .int hi] p g = some (.int (if lo ≤ v ∧ v ≤ hi then 1 else 0), p, g) := by
  rw [cl_GB_within]
  simp only [x_iload_0, x_iload_1, x_ic_lt, x_iload_2, x_ic_gt, x_c_1, x_goto, x_c_0, x_zret, tg_GB_within_8, tg_GB_within_9, bk_GB_within_0, bk_GB_within_8, bk_GB_within_9, kil_int, kil_ref, kil_null, kil_long, kil_rA, psh_int, psh_long, psh_null, gI_gS, gL_gS, gR_gS, sI_gS, sL_gS, orf_some, Option.bind_some, List.length_cons, List.length_nil, Nat.reduceAdd, Nat.reduceLeDiff, if_true, if_false, Nat.zero_le]
  by_cases h1 : lo ≤ v <;> by_cases h2 : v ≤ hi <;> simp [h1, h2, ← Int32.not_le]
theorem s_RM_in (v lo hi : Int64) (p : gb_Pi) (g : gb_Sg) : gb_call 117 [.long v, .long lo, .long hi] p g = some (.int (if lo ≤ v ∧ v ≤ hi then 1 else 0), p, g) := by
  rw [cl_RM_in]
  simp only [x_lload_0, x_lload_2, x_lc_lt, x_lload_4, x_lc_gt, x_c_1, x_goto, x_c_0, x_zret, tg_RM_in_10, tg_RM_in_11, bk_RM_in_0, bk_RM_in_10, bk_RM_in_11, kil_int, kil_ref, kil_null, kil_long, kil_rA, psh_int, psh_long, psh_null, gI_gS, gL_gS, gR_gS, sI_gS, sL_gS, orf_some, Option.bind_some, List.length_cons, List.length_nil, Nat.reduceAdd, Nat.reduceLeDiff, if_true, if_false, Nat.zero_le]
  by_cases h1 : lo ≤ v <;> by_cases h2 : v ≤ hi <;> simp [h1, h2, ← Int64.not_le]
/-! loops as folds: d rounds from i on -/
def lp {α : Type} (f : Nat → α → α) : Nat → Nat → α → α
  | 0, _, a => a
  | d + 1, i, a => lp f d (i + 1) (f i a)
def lf {β : Type} (f : Nat → Option β) : Nat → Nat → Option β
  | 0, _ => none
  | d + 1, i => match f i with
    | some b => some b
    | none => lf f d (i + 1)
def la (f : Nat → Bool) : Nat → Nat → Bool
  | 0, _ => false
  | d + 1, i => f i || la f d (i + 1)
theorem lp_congr {α : Type} {f h : Nat → α → α} : ∀ {d i : Nat} {a : α}, (∀ j, i ≤ j → j < i + d → ∀ x, f j x = h j x) → lp f d i a = lp h d i a
  | 0, _, _, _ => rfl
  | d + 1, i, a, e => by
    rw [lp, lp, e i (by omega) (by omega) a]
    exact lp_congr fun j h1 h2 x => e j (by omega) (by omega) x
theorem lf_congr {β : Type} {f h : Nat → Option β} : ∀ {d i : Nat}, (∀ j, i ≤ j → j < i + d → f j = h j) → lf f d i = lf h d i
  | 0, _, _ => rfl
  | d + 1, i, e => by
    rw [lf, lf, e i (by omega) (by omega), lf_congr (f := f) (h := h) (d := d) (i := i + 1) (fun j h1 h2 => e j (by omega) (by omega))]
theorem la_congr {f h : Nat → Bool} : ∀ {d i : Nat}, (∀ j, i ≤ j → j < i + d → f j = h j) → la f d i = la h d i
  | 0, _, _ => rfl
  | d + 1, i, e => by
    rw [la, la, e i (by omega) (by omega), la_congr (f := f) (h := h) (d := d) (i := i + 1) (fun j h1 h2 => e j (by omega) (by omega))]
theorem ib_0 : ((0 : Int32) = 0 ∨ (0 : Int32) = 1) ↔ True := by decide
theorem ib_1 : ((1 : Int32) = 0 ∨ (1 : Int32) = 1) ↔ True := by decide
/-! numbers found -/
theorem l_SH_hasNumber (I : Nat → Nat → Int32) (J : Nat → Nat → Int64) (q : Bool × Bool) (X : Nat × (Nat → Int32)) (v : Int32) {N : Nat} (hN : N ≤ 20) (h : I 23 10 = nI N) : ∀ d i, d + i = N → gb_ex 51 bk_SH_hasNumber_2 [.ref (23 : Nat), .int v, .int (nI i)] [] gb_pG (gS I J q X) = some (.int (if la (fun j => decide (I 32 j = v)) d i = true then 1 else 0), gb_pG, gS I J q X)
  | 0, i, e => by
    rw [bk_SH_hasNumber_2]
    simp only [x_c_0, x_istore_2, x_iload_2, x_aload_0, x_get_394, x_ic_ge, x_get_395, x_iald, x_iload_1, x_ic_ne, x_c_1, x_zret, x_iinc_2_1, x_goto, tg_SH_hasNumber_2, tg_SH_hasNumber_14, tg_SH_hasNumber_16, bk_SH_hasNumber_0, bk_SH_hasNumber_14, bk_SH_hasNumber_16, kil_int, kil_ref, kil_null, kil_long, kil_rA, psh_int, psh_long, psh_null, gI_gS, gL_gS, gR_gS, sI_gS, sL_gS, orf_some, Option.bind_some, List.length_cons, List.length_nil, Nat.reduceAdd, Nat.reduceLeDiff, if_true, if_false, Nat.zero_le, at_23, at_32, al_32, rw_23_11, h]
    simp (disch := first | omega | decide) only [nI_ltI, nI_leI, nI_eq, nI_ltL, nI_leL, L_ltI, L_leI, nI_eqL, L_eqI, oob_nI, ix_nI, oob_L, ix_L, nI_1, nI_add, if_pos (show N ≤ i by omega), ib_0, la]
    rfl
  | d + 1, i, e => by
    have ih := l_SH_hasNumber I J q X v hN h d (i + 1) (by omega)
    rw [bk_SH_hasNumber_2]
    simp only [x_c_0, x_istore_2, x_iload_2, x_aload_0, x_get_394, x_ic_ge, x_get_395, x_iald, x_iload_1, x_ic_ne, x_c_1, x_zret, x_iinc_2_1, x_goto, tg_SH_hasNumber_2, tg_SH_hasNumber_14, tg_SH_hasNumber_16, bk_SH_hasNumber_0, bk_SH_hasNumber_14, bk_SH_hasNumber_16, kil_int, kil_ref, kil_null, kil_long, kil_rA, psh_int, psh_long, psh_null, gI_gS, gL_gS, gR_gS, sI_gS, sL_gS, orf_some, Option.bind_some, List.length_cons, List.length_nil, Nat.reduceAdd, Nat.reduceLeDiff, if_true, if_false, Nat.zero_le, at_23, at_32, al_32, rw_23_11, h]
    simp (disch := first | omega | decide) only [nI_ltI, nI_leI, nI_eq, nI_ltL, nI_leL, L_ltI, L_leI, nI_eqL, L_eqI, oob_nI, ix_nI, oob_L, ix_L, nI_1, nI_add, ih, if_neg (show ¬ N ≤ i by omega), ib_0, ib_1, la]
    by_cases hv : I 32 i = v <;> simp [hv]
theorem s_SH_hasNumber (I : Nat → Nat → Int32) (J : Nat → Nat → Int64) (q : Bool × Bool) (X : Nat × (Nat → Int32)) (v : Int32) {N : Nat} (hN : N ≤ 20) (h : I 23 10 = nI N) : gb_call 51 [.ref (23 : Nat), .int v] gb_pG (gS I J q X) = some (.int (if la (fun j => decide (I 32 j = v)) N 0 = true then 1 else 0), gb_pG, gS I J q X) := by
  rw [cl_SH_hasNumber]
  simp only [x_c_0, x_istore_2, x_iload_2, x_aload_0, x_get_394, x_ic_ge, x_get_395, x_iald, x_iload_1, x_ic_ne, x_c_1, x_zret, x_iinc_2_1, x_goto, tg_SH_hasNumber_2, tg_SH_hasNumber_14, tg_SH_hasNumber_16, bk_SH_hasNumber_0, bk_SH_hasNumber_14, bk_SH_hasNumber_16, kil_int, kil_ref, kil_null, kil_long, kil_rA, psh_int, psh_long, psh_null, gI_gS, gL_gS, gR_gS, sI_gS, sL_gS, orf_some, Option.bind_some, List.length_cons, List.length_nil, Nat.reduceAdd, Nat.reduceLeDiff, if_true, if_false, Nat.zero_le]
  exact l_SH_hasNumber I J q X v hN h N 0 (by omega)
theorem s_SH_addNumber (I : Nat → Nat → Int32) (J : Nat → Nat → Int64) (q : Bool × Bool) (X : Nat × (Nat → Int32)) (v : Int32) {N : Nat} (hN : N < 20) (h : I 23 10 = nI N) : gb_call 52 [.ref (23 : Nat), .int v] gb_pG (gS I J q X) = some (.int (nI (N + 1)), gb_pG, gS (up (up I 32 N v) 23 10 (nI (N + 1))) J q X) := by
  rw [cl_SH_addNumber]
  simp only [x_aload_0, x_get_395, x_get_394, x_iload_1, x_iast, x_dup_i, x_dup_r, x_c_1, x_iadd, x_put_394, x_iret, bk_SH_addNumber_0, kil_int, kil_ref, kil_null, kil_long, kil_rA, psh_int, psh_long, psh_null, gI_gS, gL_gS, gR_gS, sI_gS, sL_gS, orf_some, Option.bind_some, List.length_cons, List.length_nil, Nat.reduceAdd, Nat.reduceLeDiff, if_true, if_false, Nat.zero_le, at_23, at_32, al_32, rw_23_11, h]
  simp (disch := first | omega | decide) only [nI_ltI, nI_leI, nI_eq, nI_ltL, nI_leL, L_ltI, L_leI, nI_eqL, L_eqI, oob_nI, ix_nI, oob_L, ix_L, nI_1, nI_add, up_at, upd_at, upJ_at, updL_at, h]
  simp (disch := first | omega | decide) [nI_ltI, nI_leI, nI_eq, nI_ltL, nI_leL, L_ltI, L_leI, nI_eqL, L_eqI, oob_nI, ix_nI, oob_L, ix_L, nI_1, nI_add, up_at, upd_at, upJ_at, updL_at, h]
theorem s_GB_number (I : Nat → Nat → Int32) (J : Nat → Nat → Int64) (q : Bool × Bool) (X : Nat × (Nat → Int32)) (v : Int32) {N : Nat} (hN : N ≤ 20) (h : I 23 10 = nI N) : gb_call 88 [.ref (0 : Nat), .int v] gb_pG (gS I J q X) =
    if ¬ (1 ≤ v ∧ v ≤ 9999) then some (.int (-1), gb_pG, gS I J q X) else if la (fun j => decide (I 32 j = v)) N 0 = true then some (.int (-2), gb_pG, gS I J q X) else if N = 20 then some (.int (-3), gb_pG, gS I J q X) else some (.int (nI (N + 1)), gb_pG, gS (up (up I 32 N v) 23 10 (nI (N + 1))) J q X) := by
  rw [cl_GB_number]
  simp only [x_iload_1, x_c_1, x_c_9999, xc_GB_within, x_if_ne, x_c_m1, x_iret, x_aload_0, x_get_578, xc_SH_hasNumber, x_if_eq, x_c_m2, x_get_394, x_c_20, x_ic_lt, x_c_m3, xc_SH_addNumber, tg_GB_number_7, tg_GB_number_14, tg_GB_number_21, bk_GB_number_0, bk_GB_number_7, bk_GB_number_14, bk_GB_number_21, kil_int, kil_ref, kil_null, kil_long, kil_rA, psh_int, psh_long, psh_null, gI_gS, gL_gS, gR_gS, sI_gS, sL_gS, orf_some, Option.bind_some, List.length_cons, List.length_nil, Nat.reduceAdd, Nat.reduceLeDiff, if_true, if_false, Nat.zero_le, at_0, at_23, rw_0_2, s_GB_within, s_SH_hasNumber I J q X v hN h, h, ite_b1, ite_b2]
  by_cases h1 : 1 ≤ v ∧ v ≤ 9999
  · rw [if_pos h1, if_neg (not_not_intro h1)]
    by_cases h2 : la (fun j => decide (I 32 j = v)) N 0 = true
    · rw [if_neg (not_not_intro h2), if_pos h2]
    · rw [if_pos h2, if_neg h2]
      simp (disch := first | omega | decide) only [nI_ltI, nI_leI, nI_eq, nI_ltL, nI_leL, L_ltI, L_leI, nI_eqL, L_eqI, oob_nI, ix_nI, oob_L, ix_L, nI_1, nI_add]
      by_cases h3 : N < 20
      · rw [if_pos h3, if_neg (by omega), s_SH_addNumber I J q X v h3 h]
        simp only [x_iload_1, x_c_1, x_c_9999, xc_GB_within, x_if_ne, x_c_m1, x_iret, x_aload_0, x_get_578, xc_SH_hasNumber, x_if_eq, x_c_m2, x_get_394, x_c_20, x_ic_lt, x_c_m3, xc_SH_addNumber, tg_GB_number_7, tg_GB_number_14, tg_GB_number_21, bk_GB_number_0, bk_GB_number_7, bk_GB_number_14, bk_GB_number_21, kil_int, kil_ref, kil_null, kil_long, kil_rA, psh_int, psh_long, psh_null, gI_gS, gL_gS, gR_gS, sI_gS, sL_gS, orf_some, Option.bind_some, List.length_cons, List.length_nil, Nat.reduceAdd, Nat.reduceLeDiff, if_true, if_false, Nat.zero_le]
      · rw [if_neg h3, if_pos (by omega)]
  · rw [if_neg h1, if_pos h1]
end
