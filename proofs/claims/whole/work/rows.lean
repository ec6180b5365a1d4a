section
-- ===== PART A: goes FIRST, ahead of the names: the tables' words, and 'selects' of the private methods out of them =====
/-- a private method of a class that the tables say can be made, by its rows of tables_1 -/
def lw_okq (q : MethodName × Nat) : Prop := (q.1.cls ≠ "java/lang/invoke/MethodHandle" ∧ q.1.cls ≠ "java/lang/invoke/VarHandle") ∧ Cond.instantiable q.1.cls q.2 ∈ tables_1 ∧ Cond.privateMethod q.1 ∈ tables_1 ∧ Cond.instanceMethod q.1 ∈ tables_1
theorem lw_p0 : lw_okq (⟨"SmellBurdens", "refuse", "(I)I"⟩, 12) := ⟨⟨by decide +kernel, by decide +kernel⟩, List.mem_of_getElem? (i := 18) (by decide +kernel), List.mem_of_getElem? (i := 209) (by decide +kernel), List.mem_of_getElem? (i := 210) (by decide +kernel)⟩
theorem lw_p1 : lw_okq (⟨"SmellBurdens", "tell", "(I)I"⟩, 12) := ⟨⟨by decide +kernel, by decide +kernel⟩, List.mem_of_getElem? (i := 18) (by decide +kernel), List.mem_of_getElem? (i := 246) (by decide +kernel), List.mem_of_getElem? (i := 247) (by decide +kernel)⟩
theorem lw_p2 : lw_okq (⟨"SmellBurdens$Reader", "readRoads", "()Z"⟩, 5) := ⟨⟨by decide +kernel, by decide +kernel⟩, List.mem_of_getElem? (i := 46) (by decide +kernel), List.mem_of_getElem? (i := 307) (by decide +kernel), List.mem_of_getElem? (i := 308) (by decide +kernel)⟩
theorem lw_p3 : lw_okq (⟨"SmellBurdens$Reader", "skipBlanks", "()V"⟩, 5) := ⟨⟨by decide +kernel, by decide +kernel⟩, List.mem_of_getElem? (i := 46) (by decide +kernel), List.mem_of_getElem? (i := 311) (by decide +kernel), List.mem_of_getElem? (i := 312) (by decide +kernel)⟩
theorem lw_p4 : lw_okq (⟨"SmellBurdens$Reader", "sign", "()I"⟩, 5) := ⟨⟨by decide +kernel, by decide +kernel⟩, List.mem_of_getElem? (i := 46) (by decide +kernel), List.mem_of_getElem? (i := 315) (by decide +kernel), List.mem_of_getElem? (i := 316) (by decide +kernel)⟩
theorem lw_p5 : lw_okq (⟨"SmellBurdens$Reader", "readFigure", "(I)I"⟩, 5) := ⟨⟨by decide +kernel, by decide +kernel⟩, List.mem_of_getElem? (i := 46) (by decide +kernel), List.mem_of_getElem? (i := 319) (by decide +kernel), List.mem_of_getElem? (i := 320) (by decide +kernel)⟩
theorem lw_p6 : lw_okq (⟨"SmellBurdens$Reader", "readItems", "()Z"⟩, 5) := ⟨⟨by decide +kernel, by decide +kernel⟩, List.mem_of_getElem? (i := 46) (by decide +kernel), List.mem_of_getElem? (i := 327) (by decide +kernel), List.mem_of_getElem? (i := 328) (by decide +kernel)⟩
theorem lw_p7 : lw_okq (⟨"SmellBurdens$Reader", "readLoad", "()Z"⟩, 5) := ⟨⟨by decide +kernel, by decide +kernel⟩, List.mem_of_getElem? (i := 46) (by decide +kernel), List.mem_of_getElem? (i := 331) (by decide +kernel), List.mem_of_getElem? (i := 332) (by decide +kernel)⟩
theorem lw_p8 : lw_okq (⟨"SmellBurdens$Reader", "readSet", "()I"⟩, 5) := ⟨⟨by decide +kernel, by decide +kernel⟩, List.mem_of_getElem? (i := 46) (by decide +kernel), List.mem_of_getElem? (i := 335) (by decide +kernel), List.mem_of_getElem? (i := 336) (by decide +kernel)⟩
theorem lw_p9 : lw_okq (⟨"SmellBurdens$Reader", "readAss", "()Z"⟩, 5) := ⟨⟨by decide +kernel, by decide +kernel⟩, List.mem_of_getElem? (i := 46) (by decide +kernel), List.mem_of_getElem? (i := 353) (by decide +kernel), List.mem_of_getElem? (i := 354) (by decide +kernel)⟩
theorem lw_p10 : lw_okq (⟨"SmellBurdens", "keptAt", "(I)LSmellBurdens$Deeds;"⟩, 12) := ⟨⟨by decide +kernel, by decide +kernel⟩, List.mem_of_getElem? (i := 18) (by decide +kernel), List.mem_of_getElem? (i := 378) (by decide +kernel), List.mem_of_getElem? (i := 379) (by decide +kernel)⟩
theorem lw_p11 : lw_okq (⟨"SmellBurdens", "ofAss", "(II)I"⟩, 12) := ⟨⟨by decide +kernel, by decide +kernel⟩, List.mem_of_getElem? (i := 18) (by decide +kernel), List.mem_of_getElem? (i := 394) (by decide +kernel), List.mem_of_getElem? (i := 395) (by decide +kernel)⟩
theorem lw_p12 : lw_okq (⟨"SmellBurdens$Plain", "choiceOf", "(JII)I"⟩, 5) := ⟨⟨by decide +kernel, by decide +kernel⟩, List.mem_of_getElem? (i := 52) (by decide +kernel), List.mem_of_getElem? (i := 418) (by decide +kernel), List.mem_of_getElem? (i := 419) (by decide +kernel)⟩
theorem lw_p13 : lw_okq (⟨"SmellBurdens", "ofLoad", "(II)I"⟩, 12) := ⟨⟨by decide +kernel, by decide +kernel⟩, List.mem_of_getElem? (i := 18) (by decide +kernel), List.mem_of_getElem? (i := 462) (by decide +kernel), List.mem_of_getElem? (i := 463) (by decide +kernel)⟩
theorem lw_p14 : lw_okq (⟨"SmellBurdens", "doDay", "()I"⟩, 12) := ⟨⟨by decide +kernel, by decide +kernel⟩, List.mem_of_getElem? (i := 18) (by decide +kernel), List.mem_of_getElem? (i := 520) (by decide +kernel), List.mem_of_getElem? (i := 521) (by decide +kernel)⟩
theorem lw_p15 : lw_okq (⟨"SmellBurdens", "doSmear", "(II)V"⟩, 12) := ⟨⟨by decide +kernel, by decide +kernel⟩, List.mem_of_getElem? (i := 18) (by decide +kernel), List.mem_of_getElem? (i := 546) (by decide +kernel), List.mem_of_getElem? (i := 547) (by decide +kernel)⟩
def lw_privs_1 : List (MethodName × Nat) := [(⟨"SmellBurdens", "refuse", "(I)I"⟩, 12), (⟨"SmellBurdens", "tell", "(I)I"⟩, 12), (⟨"SmellBurdens$Reader", "readRoads", "()Z"⟩, 5), (⟨"SmellBurdens$Reader", "skipBlanks", "()V"⟩, 5), (⟨"SmellBurdens$Reader", "sign", "()I"⟩, 5), (⟨"SmellBurdens$Reader", "readFigure", "(I)I"⟩, 5), (⟨"SmellBurdens$Reader", "readItems", "()Z"⟩, 5), (⟨"SmellBurdens$Reader", "readLoad", "()Z"⟩, 5), (⟨"SmellBurdens$Reader", "readSet", "()I"⟩, 5), (⟨"SmellBurdens$Reader", "readAss", "()Z"⟩, 5), (⟨"SmellBurdens", "keptAt", "(I)LSmellBurdens$Deeds;"⟩, 12), (⟨"SmellBurdens", "ofAss", "(II)I"⟩, 12), (⟨"SmellBurdens$Plain", "choiceOf", "(JII)I"⟩, 5), (⟨"SmellBurdens", "ofLoad", "(II)I"⟩, 12), (⟨"SmellBurdens", "doDay", "()I"⟩, 12), (⟨"SmellBurdens", "doSmear", "(II)V"⟩, 12)]
theorem lw_r1 : ∀ q ∈ lw_privs_1, lw_okq q := List.forall_mem_cons.mpr ⟨lw_p0, List.forall_mem_cons.mpr ⟨lw_p1, List.forall_mem_cons.mpr ⟨lw_p2, List.forall_mem_cons.mpr ⟨lw_p3, List.forall_mem_cons.mpr ⟨lw_p4, List.forall_mem_cons.mpr ⟨lw_p5, List.forall_mem_cons.mpr ⟨lw_p6, List.forall_mem_cons.mpr ⟨lw_p7, List.forall_mem_cons.mpr ⟨lw_p8, List.forall_mem_cons.mpr ⟨lw_p9, List.forall_mem_cons.mpr ⟨lw_p10, List.forall_mem_cons.mpr ⟨lw_p11, List.forall_mem_cons.mpr ⟨lw_p12, List.forall_mem_cons.mpr ⟨lw_p13, List.forall_mem_cons.mpr ⟨lw_p14, List.forall_mem_cons.mpr ⟨lw_p15, fun _ h => absurd h List.not_mem_nil⟩⟩⟩⟩⟩⟩⟩⟩⟩⟩⟩⟩⟩⟩⟩⟩
theorem lw_p16 : lw_okq (⟨"SmellBurdens", "doLead", "(II)V"⟩, 12) := ⟨⟨by decide +kernel, by decide +kernel⟩, List.mem_of_getElem? (i := 18) (by decide +kernel), List.mem_of_getElem? (i := 555) (by decide +kernel), List.mem_of_getElem? (i := 556) (by decide +kernel)⟩
theorem lw_p17 : lw_okq (⟨"SmellBurdens$Wall", "setBest", "(III)V"⟩, 1) := ⟨⟨by decide +kernel, by decide +kernel⟩, List.mem_of_getElem? (i := 135) (by decide +kernel), List.mem_of_getElem? (i := 658) (by decide +kernel), List.mem_of_getElem? (i := 659) (by decide +kernel)⟩
theorem lw_p18 : lw_okq (⟨"SmellBurdens$Wall", "mostOf", "(LSmellBurdens$Plain;JII)I"⟩, 1) := ⟨⟨by decide +kernel, by decide +kernel⟩, List.mem_of_getElem? (i := 135) (by decide +kernel), List.mem_of_getElem? (i := 662) (by decide +kernel), List.mem_of_getElem? (i := 663) (by decide +kernel)⟩
theorem lw_p19 : lw_okq (⟨"SmellBurdens$Wall", "bestFrom", "(II)I"⟩, 1) := ⟨⟨by decide +kernel, by decide +kernel⟩, List.mem_of_getElem? (i := 135) (by decide +kernel), List.mem_of_getElem? (i := 666) (by decide +kernel), List.mem_of_getElem? (i := 667) (by decide +kernel)⟩
theorem lw_p20 : lw_okq (⟨"SmellBurdens$Wall", "mostWith", "(LSmellBurdens$Plain;JIII)I"⟩, 1) := ⟨⟨by decide +kernel, by decide +kernel⟩, List.mem_of_getElem? (i := 135) (by decide +kernel), List.mem_of_getElem? (i := 670) (by decide +kernel), List.mem_of_getElem? (i := 671) (by decide +kernel)⟩
theorem lw_p21 : lw_okq (⟨"SmellBurdens$Wall", "firstWith", "(LSmellBurdens$Plain;JII)I"⟩, 1) := ⟨⟨by decide +kernel, by decide +kernel⟩, List.mem_of_getElem? (i := 135) (by decide +kernel), List.mem_of_getElem? (i := 680) (by decide +kernel), List.mem_of_getElem? (i := 681) (by decide +kernel)⟩
theorem lw_p22 : lw_okq (⟨"SmellBurdens$Chances", "keepLowest", "(JJ)V"⟩, 2) := ⟨⟨by decide +kernel, by decide +kernel⟩, List.mem_of_getElem? (i := 145) (by decide +kernel), List.mem_of_getElem? (i := 799) (by decide +kernel), List.mem_of_getElem? (i := 800) (by decide +kernel)⟩
theorem lw_p23 : lw_okq (⟨"SmellBurdens", "doByLot", "(J)V"⟩, 12) := ⟨⟨by decide +kernel, by decide +kernel⟩, List.mem_of_getElem? (i := 18) (by decide +kernel), List.mem_of_getElem? (i := 822) (by decide +kernel), List.mem_of_getElem? (i := 823) (by decide +kernel)⟩
theorem lw_p24 : lw_okq (⟨"SmellBurdens", "howManyKept", "()I"⟩, 12) := ⟨⟨by decide +kernel, by decide +kernel⟩, List.mem_of_getElem? (i := 18) (by decide +kernel), List.mem_of_getElem? (i := 870) (by decide +kernel), List.mem_of_getElem? (i := 871) (by decide +kernel)⟩
theorem lw_p25 : lw_okq (⟨"SmellBurdens", "keptSize", "(I)I"⟩, 12) := ⟨⟨by decide +kernel, by decide +kernel⟩, List.mem_of_getElem? (i := 18) (by decide +kernel), List.mem_of_getElem? (i := 874) (by decide +kernel), List.mem_of_getElem? (i := 875) (by decide +kernel)⟩
theorem lw_p26 : lw_okq (⟨"SmellBurdensModel", "finds", "(I)I"⟩, 32) := ⟨⟨by decide +kernel, by decide +kernel⟩, List.mem_of_getElem? (i := 898) (by decide +kernel), List.mem_of_getElem? (i := 1032) (by decide +kernel), List.mem_of_getElem? (i := 1033) (by decide +kernel)⟩
theorem lw_p27 : lw_okq (⟨"SmellBurdensModel", "fresh", "(II)V"⟩, 32) := ⟨⟨by decide +kernel, by decide +kernel⟩, List.mem_of_getElem? (i := 898) (by decide +kernel), List.mem_of_getElem? (i := 1036) (by decide +kernel), List.mem_of_getElem? (i := 1037) (by decide +kernel)⟩
theorem lw_p28 : lw_okq (⟨"SmellBurdensModel", "whyPlace", "(II)I"⟩, 32) := ⟨⟨by decide +kernel, by decide +kernel⟩, List.mem_of_getElem? (i := 898) (by decide +kernel), List.mem_of_getElem? (i := 1044) (by decide +kernel), List.mem_of_getElem? (i := 1045) (by decide +kernel)⟩
theorem lw_p29 : lw_okq (⟨"SmellBurdensModel", "tells", "(I)I"⟩, 32) := ⟨⟨by decide +kernel, by decide +kernel⟩, List.mem_of_getElem? (i := 898) (by decide +kernel), List.mem_of_getElem? (i := 1048) (by decide +kernel), List.mem_of_getElem? (i := 1049) (by decide +kernel)⟩
theorem lw_p30 : lw_okq (⟨"SmellBurdensModel", "reads", "(I)I"⟩, 32) := ⟨⟨by decide +kernel, by decide +kernel⟩, List.mem_of_getElem? (i := 898) (by decide +kernel), List.mem_of_getElem? (i := 1084) (by decide +kernel), List.mem_of_getElem? (i := 1085) (by decide +kernel)⟩
theorem lw_p31 : lw_okq (⟨"SmellBurdensModel", "skips", "()V"⟩, 32) := ⟨⟨by decide +kernel, by decide +kernel⟩, List.mem_of_getElem? (i := 898) (by decide +kernel), List.mem_of_getElem? (i := 1088) (by decide +kernel), List.mem_of_getElem? (i := 1089) (by decide +kernel)⟩
def lw_privs_2 : List (MethodName × Nat) := [(⟨"SmellBurdens", "doLead", "(II)V"⟩, 12), (⟨"SmellBurdens$Wall", "setBest", "(III)V"⟩, 1), (⟨"SmellBurdens$Wall", "mostOf", "(LSmellBurdens$Plain;JII)I"⟩, 1), (⟨"SmellBurdens$Wall", "bestFrom", "(II)I"⟩, 1), (⟨"SmellBurdens$Wall", "mostWith", "(LSmellBurdens$Plain;JIII)I"⟩, 1), (⟨"SmellBurdens$Wall", "firstWith", "(LSmellBurdens$Plain;JII)I"⟩, 1), (⟨"SmellBurdens$Chances", "keepLowest", "(JJ)V"⟩, 2), (⟨"SmellBurdens", "doByLot", "(J)V"⟩, 12), (⟨"SmellBurdens", "howManyKept", "()I"⟩, 12), (⟨"SmellBurdens", "keptSize", "(I)I"⟩, 12), (⟨"SmellBurdensModel", "finds", "(I)I"⟩, 32), (⟨"SmellBurdensModel", "fresh", "(II)V"⟩, 32), (⟨"SmellBurdensModel", "whyPlace", "(II)I"⟩, 32), (⟨"SmellBurdensModel", "tells", "(I)I"⟩, 32), (⟨"SmellBurdensModel", "reads", "(I)I"⟩, 32), (⟨"SmellBurdensModel", "skips", "()V"⟩, 32)]
theorem lw_r2 : ∀ q ∈ lw_privs_2, lw_okq q := List.forall_mem_cons.mpr ⟨lw_p16, List.forall_mem_cons.mpr ⟨lw_p17, List.forall_mem_cons.mpr ⟨lw_p18, List.forall_mem_cons.mpr ⟨lw_p19, List.forall_mem_cons.mpr ⟨lw_p20, List.forall_mem_cons.mpr ⟨lw_p21, List.forall_mem_cons.mpr ⟨lw_p22, List.forall_mem_cons.mpr ⟨lw_p23, List.forall_mem_cons.mpr ⟨lw_p24, List.forall_mem_cons.mpr ⟨lw_p25, List.forall_mem_cons.mpr ⟨lw_p26, List.forall_mem_cons.mpr ⟨lw_p27, List.forall_mem_cons.mpr ⟨lw_p28, List.forall_mem_cons.mpr ⟨lw_p29, List.forall_mem_cons.mpr ⟨lw_p30, List.forall_mem_cons.mpr ⟨lw_p31, fun _ h => absurd h List.not_mem_nil⟩⟩⟩⟩⟩⟩⟩⟩⟩⟩⟩⟩⟩⟩⟩⟩
theorem lw_p32 : lw_okq (⟨"SmellBurdensModel", "byteAt", "(I)I"⟩, 32) := ⟨⟨by decide +kernel, by decide +kernel⟩, List.mem_of_getElem? (i := 898) (by decide +kernel), List.mem_of_getElem? (i := 1092) (by decide +kernel), List.mem_of_getElem? (i := 1093) (by decide +kernel)⟩
theorem lw_p33 : lw_okq (⟨"SmellBurdensModel", "faults", "(I)V"⟩, 32) := ⟨⟨by decide +kernel, by decide +kernel⟩, List.mem_of_getElem? (i := 898) (by decide +kernel), List.mem_of_getElem? (i := 1096) (by decide +kernel), List.mem_of_getElem? (i := 1097) (by decide +kernel)⟩
theorem lw_p34 : lw_okq (⟨"SmellBurdensModel", "figure", "(I)I"⟩, 32) := ⟨⟨by decide +kernel, by decide +kernel⟩, List.mem_of_getElem? (i := 898) (by decide +kernel), List.mem_of_getElem? (i := 1100) (by decide +kernel), List.mem_of_getElem? (i := 1101) (by decide +kernel)⟩
theorem lw_p35 : lw_okq (⟨"SmellBurdensModel", "readItem", "()V"⟩, 32) := ⟨⟨by decide +kernel, by decide +kernel⟩, List.mem_of_getElem? (i := 898) (by decide +kernel), List.mem_of_getElem? (i := 1104) (by decide +kernel), List.mem_of_getElem? (i := 1105) (by decide +kernel)⟩
theorem lw_p36 : lw_okq (⟨"SmellBurdensModel", "readAss", "(I)V"⟩, 32) := ⟨⟨by decide +kernel, by decide +kernel⟩, List.mem_of_getElem? (i := 898) (by decide +kernel), List.mem_of_getElem? (i := 1111) (by decide +kernel), List.mem_of_getElem? (i := 1112) (by decide +kernel)⟩
theorem lw_p37 : lw_okq (⟨"SmellBurdensModel", "twoFigures", "()I"⟩, 32) := ⟨⟨by decide +kernel, by decide +kernel⟩, List.mem_of_getElem? (i := 898) (by decide +kernel), List.mem_of_getElem? (i := 1115) (by decide +kernel), List.mem_of_getElem? (i := 1116) (by decide +kernel)⟩
theorem lw_p38 : lw_okq (⟨"SmellBurdensModel", "readLoad", "()V"⟩, 32) := ⟨⟨by decide +kernel, by decide +kernel⟩, List.mem_of_getElem? (i := 898) (by decide +kernel), List.mem_of_getElem? (i := 1119) (by decide +kernel), List.mem_of_getElem? (i := 1120) (by decide +kernel)⟩
theorem lw_p39 : lw_okq (⟨"SmellBurdensModel", "isAss", "(I)Z"⟩, 32) := ⟨⟨by decide +kernel, by decide +kernel⟩, List.mem_of_getElem? (i := 898) (by decide +kernel), List.mem_of_getElem? (i := 1131) (by decide +kernel), List.mem_of_getElem? (i := 1132) (by decide +kernel)⟩
theorem lw_p40 : lw_okq (⟨"SmellBurdensModel", "ofAss", "(II)I"⟩, 32) := ⟨⟨by decide +kernel, by decide +kernel⟩, List.mem_of_getElem? (i := 898) (by decide +kernel), List.mem_of_getElem? (i := 1135) (by decide +kernel), List.mem_of_getElem? (i := 1136) (by decide +kernel)⟩
theorem lw_p41 : lw_okq (⟨"SmellBurdensModel", "takesAll", "(I)I"⟩, 32) := ⟨⟨by decide +kernel, by decide +kernel⟩, List.mem_of_getElem? (i := 898) (by decide +kernel), List.mem_of_getElem? (i := 1139) (by decide +kernel), List.mem_of_getElem? (i := 1140) (by decide +kernel)⟩
theorem lw_p42 : lw_okq (⟨"SmellBurdensModel", "takesOne", "(II)I"⟩, 32) := ⟨⟨by decide +kernel, by decide +kernel⟩, List.mem_of_getElem? (i := 898) (by decide +kernel), List.mem_of_getElem? (i := 1143) (by decide +kernel), List.mem_of_getElem? (i := 1144) (by decide +kernel)⟩
theorem lw_p43 : lw_okq (⟨"SmellBurdensModel", "isHome", "(I)Z"⟩, 32) := ⟨⟨by decide +kernel, by decide +kernel⟩, List.mem_of_getElem? (i := 898) (by decide +kernel), List.mem_of_getElem? (i := 1147) (by decide +kernel), List.mem_of_getElem? (i := 1148) (by decide +kernel)⟩
theorem lw_p44 : lw_okq (⟨"SmellBurdensModel", "likeTo", "(II)I"⟩, 32) := ⟨⟨by decide +kernel, by decide +kernel⟩, List.mem_of_getElem? (i := 898) (by decide +kernel), List.mem_of_getElem? (i := 1151) (by decide +kernel), List.mem_of_getElem? (i := 1152) (by decide +kernel)⟩
theorem lw_p45 : lw_okq (⟨"SmellBurdensModel", "refuses", "(II)Z"⟩, 32) := ⟨⟨by decide +kernel, by decide +kernel⟩, List.mem_of_getElem? (i := 898) (by decide +kernel), List.mem_of_getElem? (i := 1161) (by decide +kernel), List.mem_of_getElem? (i := 1162) (by decide +kernel)⟩
theorem lw_p46 : lw_okq (⟨"SmellBurdensModel", "isLoad", "(I)Z"⟩, 32) := ⟨⟨by decide +kernel, by decide +kernel⟩, List.mem_of_getElem? (i := 898) (by decide +kernel), List.mem_of_getElem? (i := 1172) (by decide +kernel), List.mem_of_getElem? (i := 1173) (by decide +kernel)⟩
theorem lw_p47 : lw_okq (⟨"SmellBurdensModel", "ofLoad", "(II)I"⟩, 32) := ⟨⟨by decide +kernel, by decide +kernel⟩, List.mem_of_getElem? (i := 898) (by decide +kernel), List.mem_of_getElem? (i := 1177) (by decide +kernel), List.mem_of_getElem? (i := 1178) (by decide +kernel)⟩
def lw_privs_3 : List (MethodName × Nat) := [(⟨"SmellBurdensModel", "byteAt", "(I)I"⟩, 32), (⟨"SmellBurdensModel", "faults", "(I)V"⟩, 32), (⟨"SmellBurdensModel", "figure", "(I)I"⟩, 32), (⟨"SmellBurdensModel", "readItem", "()V"⟩, 32), (⟨"SmellBurdensModel", "readAss", "(I)V"⟩, 32), (⟨"SmellBurdensModel", "twoFigures", "()I"⟩, 32), (⟨"SmellBurdensModel", "readLoad", "()V"⟩, 32), (⟨"SmellBurdensModel", "isAss", "(I)Z"⟩, 32), (⟨"SmellBurdensModel", "ofAss", "(II)I"⟩, 32), (⟨"SmellBurdensModel", "takesAll", "(I)I"⟩, 32), (⟨"SmellBurdensModel", "takesOne", "(II)I"⟩, 32), (⟨"SmellBurdensModel", "isHome", "(I)Z"⟩, 32), (⟨"SmellBurdensModel", "likeTo", "(II)I"⟩, 32), (⟨"SmellBurdensModel", "refuses", "(II)Z"⟩, 32), (⟨"SmellBurdensModel", "isLoad", "(I)Z"⟩, 32), (⟨"SmellBurdensModel", "ofLoad", "(II)I"⟩, 32)]
theorem lw_r3 : ∀ q ∈ lw_privs_3, lw_okq q := List.forall_mem_cons.mpr ⟨lw_p32, List.forall_mem_cons.mpr ⟨lw_p33, List.forall_mem_cons.mpr ⟨lw_p34, List.forall_mem_cons.mpr ⟨lw_p35, List.forall_mem_cons.mpr ⟨lw_p36, List.forall_mem_cons.mpr ⟨lw_p37, List.forall_mem_cons.mpr ⟨lw_p38, List.forall_mem_cons.mpr ⟨lw_p39, List.forall_mem_cons.mpr ⟨lw_p40, List.forall_mem_cons.mpr ⟨lw_p41, List.forall_mem_cons.mpr ⟨lw_p42, List.forall_mem_cons.mpr ⟨lw_p43, List.forall_mem_cons.mpr ⟨lw_p44, List.forall_mem_cons.mpr ⟨lw_p45, List.forall_mem_cons.mpr ⟨lw_p46, List.forall_mem_cons.mpr ⟨lw_p47, fun _ h => absurd h List.not_mem_nil⟩⟩⟩⟩⟩⟩⟩⟩⟩⟩⟩⟩⟩⟩⟩⟩
theorem lw_p48 : lw_okq (⟨"SmellBurdensModel", "takerOf", "(I)I"⟩, 32) := ⟨⟨by decide +kernel, by decide +kernel⟩, List.mem_of_getElem? (i := 898) (by decide +kernel), List.mem_of_getElem? (i := 1181) (by decide +kernel), List.mem_of_getElem? (i := 1182) (by decide +kernel)⟩
theorem lw_p49 : lw_okq (⟨"SmellBurdensModel", "marksOf", "(II)I"⟩, 32) := ⟨⟨by decide +kernel, by decide +kernel⟩, List.mem_of_getElem? (i := 898) (by decide +kernel), List.mem_of_getElem? (i := 1192) (by decide +kernel), List.mem_of_getElem? (i := 1193) (by decide +kernel)⟩
theorem lw_p50 : lw_okq (⟨"SmellBurdensModel", "notes", "()V"⟩, 32) := ⟨⟨by decide +kernel, by decide +kernel⟩, List.mem_of_getElem? (i := 898) (by decide +kernel), List.mem_of_getElem? (i := 1200) (by decide +kernel), List.mem_of_getElem? (i := 1201) (by decide +kernel)⟩
theorem lw_p51 : lw_okq (⟨"SmellBurdensModel", "goesBy", "()I"⟩, 32) := ⟨⟨by decide +kernel, by decide +kernel⟩, List.mem_of_getElem? (i := 898) (by decide +kernel), List.mem_of_getElem? (i := 1204) (by decide +kernel), List.mem_of_getElem? (i := 1205) (by decide +kernel)⟩
theorem lw_p52 : lw_okq (⟨"SmellBurdensModel", "allGo", "()V"⟩, 32) := ⟨⟨by decide +kernel, by decide +kernel⟩, List.mem_of_getElem? (i := 898) (by decide +kernel), List.mem_of_getElem? (i := 1208) (by decide +kernel), List.mem_of_getElem? (i := 1209) (by decide +kernel)⟩
theorem lw_p53 : lw_okq (⟨"SmellBurdensModel", "takers", "(I)I"⟩, 32) := ⟨⟨by decide +kernel, by decide +kernel⟩, List.mem_of_getElem? (i := 898) (by decide +kernel), List.mem_of_getElem? (i := 1245) (by decide +kernel), List.mem_of_getElem? (i := 1246) (by decide +kernel)⟩
theorem lw_p54 : lw_okq (⟨"SmellBurdensModel", "asides", "()V"⟩, 32) := ⟨⟨by decide +kernel, by decide +kernel⟩, List.mem_of_getElem? (i := 898) (by decide +kernel), List.mem_of_getElem? (i := 1257) (by decide +kernel), List.mem_of_getElem? (i := 1258) (by decide +kernel)⟩
theorem lw_p55 : lw_okq (⟨"SmellBurdensModel", "backs", "()V"⟩, 32) := ⟨⟨by decide +kernel, by decide +kernel⟩, List.mem_of_getElem? (i := 898) (by decide +kernel), List.mem_of_getElem? (i := 1261) (by decide +kernel), List.mem_of_getElem? (i := 1262) (by decide +kernel)⟩
theorem lw_p56 : lw_okq (⟨"SmellBurdensModel", "atHome", "()I"⟩, 32) := ⟨⟨by decide +kernel, by decide +kernel⟩, List.mem_of_getElem? (i := 898) (by decide +kernel), List.mem_of_getElem? (i := 1269) (by decide +kernel), List.mem_of_getElem? (i := 1270) (by decide +kernel)⟩
theorem lw_p57 : lw_okq (⟨"SmellBurdensModel", "state", "()J"⟩, 32) := ⟨⟨by decide +kernel, by decide +kernel⟩, List.mem_of_getElem? (i := 898) (by decide +kernel), List.mem_of_getElem? (i := 1277) (by decide +kernel), List.mem_of_getElem? (i := 1278) (by decide +kernel)⟩
theorem lw_p58 : lw_okq (⟨"SmellBurdensModel", "comesHome", "(II)Z"⟩, 32) := ⟨⟨by decide +kernel, by decide +kernel⟩, List.mem_of_getElem? (i := 898) (by decide +kernel), List.mem_of_getElem? (i := 1286) (by decide +kernel), List.mem_of_getElem? (i := 1287) (by decide +kernel)⟩
theorem lw_p59 : lw_okq (⟨"SmellBurdensModel", "worth", "(I)I"⟩, 32) := ⟨⟨by decide +kernel, by decide +kernel⟩, List.mem_of_getElem? (i := 898) (by decide +kernel), List.mem_of_getElem? (i := 1294) (by decide +kernel), List.mem_of_getElem? (i := 1295) (by decide +kernel)⟩
theorem lw_p60 : lw_okq (⟨"SmellBurdensModel", "isOrder", "(I)Z"⟩, 32) := ⟨⟨by decide +kernel, by decide +kernel⟩, List.mem_of_getElem? (i := 898) (by decide +kernel), List.mem_of_getElem? (i := 1302) (by decide +kernel), List.mem_of_getElem? (i := 1303) (by decide +kernel)⟩
theorem lw_p61 : lw_okq (⟨"SmellBurdensModel", "whyPairs", "(I)I"⟩, 32) := ⟨⟨by decide +kernel, by decide +kernel⟩, List.mem_of_getElem? (i := 898) (by decide +kernel), List.mem_of_getElem? (i := 1314) (by decide +kernel), List.mem_of_getElem? (i := 1315) (by decide +kernel)⟩
theorem lw_p62 : lw_okq (⟨"SmellBurdensModel", "memoriesBy", "(II)I"⟩, 32) := ⟨⟨by decide +kernel, by decide +kernel⟩, List.mem_of_getElem? (i := 898) (by decide +kernel), List.mem_of_getElem? (i := 1318) (by decide +kernel), List.mem_of_getElem? (i := 1319) (by decide +kernel)⟩
theorem lw_p63 : lw_okq (⟨"SmellBurdensModel", "isSo", "(III)Z"⟩, 32) := ⟨⟨by decide +kernel, by decide +kernel⟩, List.mem_of_getElem? (i := 898) (by decide +kernel), List.mem_of_getElem? (i := 1322) (by decide +kernel), List.mem_of_getElem? (i := 1323) (by decide +kernel)⟩
def lw_privs_4 : List (MethodName × Nat) := [(⟨"SmellBurdensModel", "takerOf", "(I)I"⟩, 32), (⟨"SmellBurdensModel", "marksOf", "(II)I"⟩, 32), (⟨"SmellBurdensModel", "notes", "()V"⟩, 32), (⟨"SmellBurdensModel", "goesBy", "()I"⟩, 32), (⟨"SmellBurdensModel", "allGo", "()V"⟩, 32), (⟨"SmellBurdensModel", "takers", "(I)I"⟩, 32), (⟨"SmellBurdensModel", "asides", "()V"⟩, 32), (⟨"SmellBurdensModel", "backs", "()V"⟩, 32), (⟨"SmellBurdensModel", "atHome", "()I"⟩, 32), (⟨"SmellBurdensModel", "state", "()J"⟩, 32), (⟨"SmellBurdensModel", "comesHome", "(II)Z"⟩, 32), (⟨"SmellBurdensModel", "worth", "(I)I"⟩, 32), (⟨"SmellBurdensModel", "isOrder", "(I)Z"⟩, 32), (⟨"SmellBurdensModel", "whyPairs", "(I)I"⟩, 32), (⟨"SmellBurdensModel", "memoriesBy", "(II)I"⟩, 32), (⟨"SmellBurdensModel", "isSo", "(III)Z"⟩, 32)]
theorem lw_r4 : ∀ q ∈ lw_privs_4, lw_okq q := List.forall_mem_cons.mpr ⟨lw_p48, List.forall_mem_cons.mpr ⟨lw_p49, List.forall_mem_cons.mpr ⟨lw_p50, List.forall_mem_cons.mpr ⟨lw_p51, List.forall_mem_cons.mpr ⟨lw_p52, List.forall_mem_cons.mpr ⟨lw_p53, List.forall_mem_cons.mpr ⟨lw_p54, List.forall_mem_cons.mpr ⟨lw_p55, List.forall_mem_cons.mpr ⟨lw_p56, List.forall_mem_cons.mpr ⟨lw_p57, List.forall_mem_cons.mpr ⟨lw_p58, List.forall_mem_cons.mpr ⟨lw_p59, List.forall_mem_cons.mpr ⟨lw_p60, List.forall_mem_cons.mpr ⟨lw_p61, List.forall_mem_cons.mpr ⟨lw_p62, List.forall_mem_cons.mpr ⟨lw_p63, fun _ h => absurd h List.not_mem_nil⟩⟩⟩⟩⟩⟩⟩⟩⟩⟩⟩⟩⟩⟩⟩⟩
theorem lw_p64 : lw_okq (⟨"SmellBurdensModel", "turns", "(Z)V"⟩, 32) := ⟨⟨by decide +kernel, by decide +kernel⟩, List.mem_of_getElem? (i := 898) (by decide +kernel), List.mem_of_getElem? (i := 1338) (by decide +kernel), List.mem_of_getElem? (i := 1339) (by decide +kernel)⟩
theorem lw_p65 : lw_okq (⟨"SmellBurdensModel", "part", "(II)J"⟩, 32) := ⟨⟨by decide +kernel, by decide +kernel⟩, List.mem_of_getElem? (i := 898) (by decide +kernel), List.mem_of_getElem? (i := 1347) (by decide +kernel), List.mem_of_getElem? (i := 1348) (by decide +kernel)⟩
theorem lw_p66 : lw_okq (⟨"SmellBurdensModel", "allParts", "()J"⟩, 32) := ⟨⟨by decide +kernel, by decide +kernel⟩, List.mem_of_getElem? (i := 898) (by decide +kernel), List.mem_of_getElem? (i := 1351) (by decide +kernel), List.mem_of_getElem? (i := 1352) (by decide +kernel)⟩
theorem lw_p67 : lw_okq (⟨"SmellBurdensModel", "fraction", "(JJ)V"⟩, 32) := ⟨⟨by decide +kernel, by decide +kernel⟩, List.mem_of_getElem? (i := 898) (by decide +kernel), List.mem_of_getElem? (i := 1355) (by decide +kernel), List.mem_of_getElem? (i := 1356) (by decide +kernel)⟩
theorem lw_p68 : lw_okq (⟨"SmellBurdensModel", "roadsNow", "()I"⟩, 32) := ⟨⟨by decide +kernel, by decide +kernel⟩, List.mem_of_getElem? (i := 898) (by decide +kernel), List.mem_of_getElem? (i := 1376) (by decide +kernel), List.mem_of_getElem? (i := 1377) (by decide +kernel)⟩
theorem lw_p69 : lw_okq (⟨"SmellBurdensModel", "sortsLike", "(I)I"⟩, 32) := ⟨⟨by decide +kernel, by decide +kernel⟩, List.mem_of_getElem? (i := 898) (by decide +kernel), List.mem_of_getElem? (i := 1380) (by decide +kernel), List.mem_of_getElem? (i := 1381) (by decide +kernel)⟩
theorem lw_p70 : lw_okq (⟨"SmellBurdensModel", "there", "(I)I"⟩, 32) := ⟨⟨by decide +kernel, by decide +kernel⟩, List.mem_of_getElem? (i := 898) (by decide +kernel), List.mem_of_getElem? (i := 1384) (by decide +kernel), List.mem_of_getElem? (i := 1385) (by decide +kernel)⟩
def lw_privs_5 : List (MethodName × Nat) := [(⟨"SmellBurdensModel", "turns", "(Z)V"⟩, 32), (⟨"SmellBurdensModel", "part", "(II)J"⟩, 32), (⟨"SmellBurdensModel", "allParts", "()J"⟩, 32), (⟨"SmellBurdensModel", "fraction", "(JJ)V"⟩, 32), (⟨"SmellBurdensModel", "roadsNow", "()I"⟩, 32), (⟨"SmellBurdensModel", "sortsLike", "(I)I"⟩, 32), (⟨"SmellBurdensModel", "there", "(I)I"⟩, 32)]
theorem lw_r5 : ∀ q ∈ lw_privs_5, lw_okq q := List.forall_mem_cons.mpr ⟨lw_p64, List.forall_mem_cons.mpr ⟨lw_p65, List.forall_mem_cons.mpr ⟨lw_p66, List.forall_mem_cons.mpr ⟨lw_p67, List.forall_mem_cons.mpr ⟨lw_p68, List.forall_mem_cons.mpr ⟨lw_p69, List.forall_mem_cons.mpr ⟨lw_p70, fun _ h => absurd h List.not_mem_nil⟩⟩⟩⟩⟩⟩⟩
def lw_privs : List (MethodName × Nat) := lw_privs_1 ++ (lw_privs_2 ++ (lw_privs_3 ++ (lw_privs_4 ++ (lw_privs_5))))
def lw_tbl : List Cond := k2_sels lw_privs ++ tables_1
theorem lw_privs_ok : ∀ q ∈ lw_privs, lw_okq q := by
  show ∀ q ∈ lw_privs_1 ++ (lw_privs_2 ++ (lw_privs_3 ++ (lw_privs_4 ++ (lw_privs_5)))), lw_okq q
  exact List.forall_mem_append.mpr ⟨lw_r1, List.forall_mem_append.mpr ⟨lw_r2, List.forall_mem_append.mpr ⟨lw_r3, List.forall_mem_append.mpr ⟨lw_r4, lw_r5⟩⟩⟩⟩
end
section
def RX0 : String := "SmellBurdens$Chances"
def TX0 : u_T := fun k => match k with
  | 0 => ("SmellBurdens$Chances", "over", "J", false)
  | _ => ("SmellBurdens$Chances", "under", "J", false)
def tyX0 : Nat → FieldType := fun k => match k with
  | 0 => .long
  | _ => .long
theorem nmX0 : ∀ a, a < 2 → ∀ b, b < 2 → a ≠ b → (TX0 a).2.1 ≠ (TX0 b).2.1 := by decide +kernel
theorem tyX0_ok : ∀ k, k < 2 → parseFieldDescriptor (TX0 k).2.2.1 = some (tyX0 k) := by decide +kernel
abbrev cX0_init : ByteArray := prog_2_method_1_code
def yX0_init : MethodName := ⟨RX0, "<init>", "()V"⟩
abbrev cX0_ofTaking : ByteArray := prog_2_method_2_code
def yX0_ofTaking : MethodName := ⟨RX0, "ofTaking", "(LSmellBurdens$Plain;JII)V"⟩
abbrev cX0_ofHomes : ByteArray := prog_2_method_3_code
def yX0_ofHomes : MethodName := ⟨RX0, "ofHomes", "(LSmellBurdens$Plain;JI)V"⟩
abbrev cX0_weight : ByteArray := prog_2_method_4_code
def yX0_weight : MethodName := ⟨RX0, "weight", "(LSmellBurdens$Plain;II)J"⟩
abbrev cX0_power : ByteArray := prog_2_method_5_code
def yX0_power : MethodName := ⟨RX0, "power", "(II)J"⟩
abbrev cX0_keepLowest : ByteArray := prog_2_method_6_code
def yX0_keepLowest : MethodName := ⟨RX0, "keepLowest", "(JJ)V"⟩
abbrev cX0_commonDivisor : ByteArray := prog_2_method_7_code
def yX0_commonDivisor : MethodName := ⟨RX0, "commonDivisor", "(JJ)J"⟩
def RX1 : String := "SmellBurdens$Deeds"
def TX1 : u_T := fun k => match k with
  | 0 => ("SmellBurdens$Deeds", "before", "[J", true)
  | 1 => ("SmellBurdens$Deeds", "now", "J", false)
  | 2 => ("SmellBurdens$Deeds", "dayBits", "J", false)
  | _ => ("SmellBurdens$Deeds", "size", "I", false)
def tyX1 : Nat → FieldType := fun k => match k with
  | 0 => .array .long
  | 1 => .long
  | 2 => .long
  | _ => .int
theorem nmX1 : ∀ a, a < 4 → ∀ b, b < 4 → a ≠ b → (TX1 a).2.1 ≠ (TX1 b).2.1 := by decide +kernel
theorem tyX1_ok : ∀ k, k < 4 → parseFieldDescriptor (TX1 k).2.2.1 = some (tyX1 k) := by decide +kernel
abbrev cX1_init : ByteArray := prog_3_method_1_code
def yX1_init : MethodName := ⟨RX1, "<init>", "()V"⟩
abbrev cX1_begin : ByteArray := prog_3_method_2_code
def yX1_begin : MethodName := ⟨RX1, "begin", "(J)V"⟩
abbrev cX1_drop : ByteArray := prog_3_method_3_code
def yX1_drop : MethodName := ⟨RX1, "drop", "()V"⟩
abbrev cX1_isMissing : ByteArray := prog_3_method_4_code
def yX1_isMissing : MethodName := ⟨RX1, "isMissing", "()Z"⟩
abbrev cX1_hasRoomFor : ByteArray := prog_3_method_5_code
def yX1_hasRoomFor : MethodName := ⟨RX1, "hasRoomFor", "(I)Z"⟩
abbrev cX1_add : ByteArray := prog_3_method_6_code
def yX1_add : MethodName := ⟨RX1, "add", "(JZ)V"⟩
abbrev cX1_takeBack : ByteArray := prog_3_method_7_code
def yX1_takeBack : MethodName := ⟨RX1, "takeBack", "(I)I"⟩
abbrev cX1_howManyDays : ByteArray := prog_3_method_8_code
def yX1_howManyDays : MethodName := ⟨RX1, "howManyDays", "()I"⟩
abbrev cX1_become : ByteArray := prog_3_method_9_code
def yX1_become : MethodName := ⟨RX1, "become", "(LSmellBurdens$Deeds;)V"⟩
def RX2 : String := "SmellBurdens$Foresight"
def TX2 : u_T := fun k => match k with
  | _ => ("SmellBurdens$Foresight", "seen", "[J", true)
def tyX2 : Nat → FieldType := fun k => match k with
  | _ => .array .long
theorem nmX2 : ∀ a, a < 1 → ∀ b, b < 1 → a ≠ b → (TX2 a).2.1 ≠ (TX2 b).2.1 := by decide +kernel
theorem tyX2_ok : ∀ k, k < 1 → parseFieldDescriptor (TX2 k).2.2.1 = some (tyX2 k) := by decide +kernel
abbrev cX2_init : ByteArray := prog_4_method_1_code
def yX2_init : MethodName := ⟨RX2, "<init>", "()V"⟩
abbrev cX2_behindDays : ByteArray := prog_4_method_2_code
def yX2_behindDays : MethodName := ⟨RX2, "behindDays", "(LSmellBurdens$Plain;JI)J"⟩
abbrev cX2_allHome : ByteArray := prog_4_method_3_code
def yX2_allHome : MethodName := ⟨RX2, "allHome", "(LSmellBurdens$Plain;J)Z"⟩
abbrev cX2_daysToHomes : ByteArray := prog_4_method_4_code
def yX2_daysToHomes : MethodName := ⟨RX2, "daysToHomes", "(LSmellBurdens$Plain;J)I"⟩
abbrev cX2_firstAgain : ByteArray := prog_4_method_5_code
def yX2_firstAgain : MethodName := ⟨RX2, "firstAgain", "(LSmellBurdens$Plain;J)I"⟩
abbrev cX2_daysSince : ByteArray := prog_4_method_6_code
def yX2_daysSince : MethodName := ⟨RX2, "daysSince", "(I)I"⟩
abbrev cX2_marksToHome : ByteArray := prog_4_method_7_code
def yX2_marksToHome : MethodName := ⟨RX2, "marksToHome", "(LSmellBurdens$Plain;JII)I"⟩
def RX3 : String := "SmellBurdens$Guess"
def TX3 : u_T := fun k => match k with
  | _ => ("", "", "", false)
def tyX3 : Nat → FieldType := fun k => match k with
  | _ => .int
theorem nmX3 : ∀ a, a < 0 → ∀ b, b < 0 → a ≠ b → (TX3 a).2.1 ≠ (TX3 b).2.1 := by decide +kernel
theorem tyX3_ok : ∀ k, k < 0 → parseFieldDescriptor (TX3 k).2.2.1 = some (tyX3 k) := by decide +kernel
abbrev cX3_wrongPairs : ByteArray := prog_5_method_2_code
def yX3_wrongPairs : MethodName := ⟨RX3, "wrongPairs", "(LSmellBurdens$Shelf;I)I"⟩
abbrev cX3_fits : ByteArray := prog_5_method_3_code
def yX3_fits : MethodName := ⟨RX3, "fits", "(LSmellBurdens$Shelf;III)Z"⟩
abbrev cX3_memoriesBy : ByteArray := prog_5_method_4_code
def yX3_memoriesBy : MethodName := ⟨RX3, "memoriesBy", "(LSmellBurdens$Shelf;II)I"⟩
abbrev cX3_kindsBy : ByteArray := prog_5_method_5_code
def yX3_kindsBy : MethodName := ⟨RX3, "kindsBy", "(LSmellBurdens$Shelf;II)I"⟩
abbrev cX3_tellingMarks : ByteArray := prog_5_method_6_code
def yX3_tellingMarks : MethodName := ⟨RX3, "tellingMarks", "(II)I"⟩
abbrev cX3_greaterPart : ByteArray := prog_5_method_7_code
def yX3_greaterPart : MethodName := ⟨RX3, "greaterPart", "(III)I"⟩
def RX4 : String := "SmellBurdens$Kind"
def TX4 : u_T := fun k => match k with
  | _ => ("", "", "", false)
def tyX4 : Nat → FieldType := fun k => match k with
  | _ => .int
theorem nmX4 : ∀ a, a < 0 → ∀ b, b < 0 → a ≠ b → (TX4 a).2.1 ≠ (TX4 b).2.1 := by decide +kernel
theorem tyX4_ok : ∀ k, k < 0 → parseFieldDescriptor (TX4 k).2.2.1 = some (tyX4 k) := by decide +kernel
abbrev cX4_byLetter : ByteArray := prog_6_method_2_code
def yX4_byLetter : MethodName := ⟨RX4, "byLetter", "(I)I"⟩
abbrev cX4_isA : ByteArray := prog_6_method_3_code
def yX4_isA : MethodName := ⟨RX4, "isA", "(II)Z"⟩
abbrev cX4_likeness : ByteArray := prog_6_method_4_code
def yX4_likeness : MethodName := ⟨RX4, "likeness", "(III)I"⟩
abbrev cX4_leastLike : ByteArray := prog_6_method_5_code
def yX4_leastLike : MethodName := ⟨RX4, "leastLike", "(I)I"⟩
abbrev cX4_wouldTake : ByteArray := prog_6_method_6_code
def yX4_wouldTake : MethodName := ⟨RX4, "wouldTake", "(III)Z"⟩
def RX5 : String := "SmellBurdens$Plain"
def TX5 : u_T := fun k => match k with
  | 0 => ("SmellBurdens$Plain", "asses", "I", false)
  | 1 => ("SmellBurdens$Plain", "loads", "I", false)
  | 2 => ("SmellBurdens$Plain", "kinds", "I", false)
  | 3 => ("SmellBurdens$Plain", "roads", "I", false)
  | _ => ("SmellBurdens$Plain", "homes", "I", false)
def tyX5 : Nat → FieldType := fun k => match k with
  | 0 => .int
  | 1 => .int
  | 2 => .int
  | 3 => .int
  | _ => .int
theorem nmX5 : ∀ a, a < 5 → ∀ b, b < 5 → a ≠ b → (TX5 a).2.1 ≠ (TX5 b).2.1 := by decide +kernel
theorem tyX5_ok : ∀ k, k < 5 → parseFieldDescriptor (TX5 k).2.2.1 = some (tyX5 k) := by decide +kernel
abbrev cX5_init : ByteArray := prog_7_method_1_code
def yX5_init : MethodName := ⟨RX5, "<init>", "()V"⟩
abbrev cX5_clear : ByteArray := prog_7_method_2_code
def yX5_clear : MethodName := ⟨RX5, "clear", "()V"⟩
abbrev cX5_become : ByteArray := prog_7_method_3_code
def yX5_become : MethodName := ⟨RX5, "become", "(LSmellBurdens$Plain;)V"⟩
abbrev cX5_addRoad : ByteArray := prog_7_method_4_code
def yX5_addRoad : MethodName := ⟨RX5, "addRoad", "(II)V"⟩
abbrev cX5_addAss : ByteArray := prog_7_method_5_code
def yX5_addAss : MethodName := ⟨RX5, "addAss", "(I)V"⟩
abbrev cX5_addLoad : ByteArray := prog_7_method_6_code
def yX5_addLoad : MethodName := ⟨RX5, "addLoad", "(I)V"⟩
abbrev cX5_isAss : ByteArray := prog_7_method_7_code
def yX5_isAss : MethodName := ⟨RX5, "isAss", "(I)Z"⟩
abbrev cX5_isLoad : ByteArray := prog_7_method_8_code
def yX5_isLoad : MethodName := ⟨RX5, "isLoad", "(I)Z"⟩
abbrev cX5_kindOf : ByteArray := prog_7_method_9_code
def yX5_kindOf : MethodName := ⟨RX5, "kindOf", "(I)I"⟩
abbrev cX5_homeOf : ByteArray := prog_7_method_10_code
def yX5_homeOf : MethodName := ⟨RX5, "homeOf", "(I)I"⟩
abbrev cX5_roadFrom : ByteArray := prog_7_method_11_code
def yX5_roadFrom : MethodName := ⟨RX5, "roadFrom", "(I)I"⟩
abbrev cX5_roadsAsNumber : ByteArray := prog_7_method_12_code
def yX5_roadsAsNumber : MethodName := ⟨RX5, "roadsAsNumber", "()I"⟩
abbrev cX5_howManyAre : ByteArray := prog_7_method_13_code
def yX5_howManyAre : MethodName := ⟨RX5, "howManyAre", "(I)I"⟩
abbrev cX5_isHome : ByteArray := prog_7_method_14_code
def yX5_isHome : MethodName := ⟨RX5, "isHome", "(JI)Z"⟩
abbrev cX5_atHomes : ByteArray := prog_7_method_15_code
def yX5_atHomes : MethodName := ⟨RX5, "atHomes", "(J)I"⟩
abbrev cX5_likeness : ByteArray := prog_7_method_16_code
def yX5_likeness : MethodName := ⟨RX5, "likeness", "(JII)I"⟩
abbrev cX5_wouldTake : ByteArray := prog_7_method_17_code
def yX5_wouldTake : MethodName := ⟨RX5, "wouldTake", "(JII)Z"⟩
abbrev cX5_takersOf : ByteArray := prog_7_method_18_code
def yX5_takersOf : MethodName := ⟨RX5, "takersOf", "(JI)I"⟩
abbrev cX5_loadsLikeMemory : ByteArray := prog_7_method_19_code
def yX5_loadsLikeMemory : MethodName := ⟨RX5, "loadsLikeMemory", "(JI)I"⟩
abbrev cX5_loadsRefused : ByteArray := prog_7_method_20_code
def yX5_loadsRefused : MethodName := ⟨RX5, "loadsRefused", "(JI)I"⟩
abbrev cX5_mostLikeness : ByteArray := prog_7_method_21_code
def yX5_mostLikeness : MethodName := ⟨RX5, "mostLikeness", "(JI)I"⟩
abbrev cX5_pull : ByteArray := prog_7_method_22_code
def yX5_pull : MethodName := ⟨RX5, "pull", "(JII)I"⟩
abbrev cX5_takesOf : ByteArray := prog_7_method_23_code
def yX5_takesOf : MethodName := ⟨RX5, "takesOf", "(JII)I"⟩
abbrev cX5_choiceOf : ByteArray := prog_7_method_24_code
def yX5_choiceOf : MethodName := ⟨RX5, "choiceOf", "(JII)I"⟩
abbrev cX5_gone : ByteArray := prog_7_method_25_code
def yX5_gone : MethodName := ⟨RX5, "gone", "(JI)J"⟩
abbrev cX5_assInLine : ByteArray := prog_7_method_26_code
def yX5_assInLine : MethodName := ⟨RX5, "assInLine", "(II)I"⟩
abbrev cX5_loadTaken : ByteArray := prog_7_method_27_code
def yX5_loadTaken : MethodName := ⟨RX5, "loadTaken", "(II)I"⟩
abbrev cX5_takerOf : ByteArray := prog_7_method_28_code
def yX5_takerOf : MethodName := ⟨RX5, "takerOf", "(II)I"⟩
abbrev cX5_howManyTaken : ByteArray := prog_7_method_29_code
def yX5_howManyTaken : MethodName := ⟨RX5, "howManyTaken", "(I)I"⟩
def RX6 : String := "SmellBurdens$Reader"
def TX6 : u_T := fun k => match k with
  | 0 => ("SmellBurdens$Reader", "signs", "[I", true)
  | 1 => ("SmellBurdens$Reader", "draft", "LSmellBurdens$Plain;", true)
  | 2 => ("SmellBurdens$Reader", "state", "J", false)
  | 3 => ("SmellBurdens$Reader", "size", "I", false)
  | _ => ("SmellBurdens$Reader", "spot", "I", false)
def tyX6 : Nat → FieldType := fun k => match k with
  | 0 => .array .int
  | 1 => .object "SmellBurdens$Plain"
  | 2 => .long
  | 3 => .int
  | _ => .int
theorem nmX6 : ∀ a, a < 5 → ∀ b, b < 5 → a ≠ b → (TX6 a).2.1 ≠ (TX6 b).2.1 := by decide +kernel
theorem tyX6_ok : ∀ k, k < 5 → parseFieldDescriptor (TX6 k).2.2.1 = some (tyX6 k) := by decide +kernel
abbrev cX6_init : ByteArray := prog_8_method_1_code
def yX6_init : MethodName := ⟨RX6, "<init>", "()V"⟩
abbrev cX6_read : ByteArray := prog_8_method_2_code
def yX6_read : MethodName := ⟨RX6, "read", "(LSmellBurdens$Shelf;I)I"⟩
abbrev cX6_sign : ByteArray := prog_8_method_3_code
def yX6_sign : MethodName := ⟨RX6, "sign", "()I"⟩
abbrev cX6_skipBlanks : ByteArray := prog_8_method_4_code
def yX6_skipBlanks : MethodName := ⟨RX6, "skipBlanks", "()V"⟩
abbrev cX6_readRoads : ByteArray := prog_8_method_5_code
def yX6_readRoads : MethodName := ⟨RX6, "readRoads", "()Z"⟩
abbrev cX6_readItems : ByteArray := prog_8_method_6_code
def yX6_readItems : MethodName := ⟨RX6, "readItems", "()Z"⟩
abbrev cX6_readAss : ByteArray := prog_8_method_7_code
def yX6_readAss : MethodName := ⟨RX6, "readAss", "()Z"⟩
abbrev cX6_readLoad : ByteArray := prog_8_method_8_code
def yX6_readLoad : MethodName := ⟨RX6, "readLoad", "()Z"⟩
abbrev cX6_readFigure : ByteArray := prog_8_method_9_code
def yX6_readFigure : MethodName := ⟨RX6, "readFigure", "(I)I"⟩
abbrev cX6_readSet : ByteArray := prog_8_method_10_code
def yX6_readSet : MethodName := ⟨RX6, "readSet", "()I"⟩
def RX7 : String := "SmellBurdens$Scene"
def TX7 : u_T := fun k => match k with
  | _ => ("", "", "", false)
def tyX7 : Nat → FieldType := fun k => match k with
  | _ => .int
theorem nmX7 : ∀ a, a < 0 → ∀ b, b < 0 → a ≠ b → (TX7 a).2.1 ≠ (TX7 b).2.1 := by decide +kernel
theorem tyX7_ok : ∀ k, k < 0 → parseFieldDescriptor (TX7 k).2.2.1 = some (tyX7 k) := by decide +kernel
abbrev cX7_memoryOf : ByteArray := prog_9_method_2_code
def yX7_memoryOf : MethodName := ⟨RX7, "memoryOf", "(JI)I"⟩
abbrev cX7_innOf : ByteArray := prog_9_method_3_code
def yX7_innOf : MethodName := ⟨RX7, "innOf", "(JI)I"⟩
abbrev cX7_marksOf : ByteArray := prog_9_method_4_code
def yX7_marksOf : MethodName := ⟨RX7, "marksOf", "(JI)I"⟩
abbrev cX7_placeOf : ByteArray := prog_9_method_5_code
def yX7_placeOf : MethodName := ⟨RX7, "placeOf", "(JI)I"⟩
abbrev cX7_withMemory : ByteArray := prog_9_method_6_code
def yX7_withMemory : MethodName := ⟨RX7, "withMemory", "(JII)J"⟩
abbrev cX7_withInn : ByteArray := prog_9_method_7_code
def yX7_withInn : MethodName := ⟨RX7, "withInn", "(JII)J"⟩
abbrev cX7_withMarks : ByteArray := prog_9_method_8_code
def yX7_withMarks : MethodName := ⟨RX7, "withMarks", "(JII)J"⟩
abbrev cX7_withPlace : ByteArray := prog_9_method_9_code
def yX7_withPlace : MethodName := ⟨RX7, "withPlace", "(JII)J"⟩
abbrev cX7_part : ByteArray := prog_9_method_10_code
def yX7_part : MethodName := ⟨RX7, "part", "(JII)I"⟩
abbrev cX7_withPart : ByteArray := prog_9_method_11_code
def yX7_withPart : MethodName := ⟨RX7, "withPart", "(JIII)J"⟩
def RX8 : String := "SmellBurdens$Shelf"
def TX8 : u_T := fun k => match k with
  | 0 => ("SmellBurdens$Shelf", "most", "I", true)
  | 1 => ("SmellBurdens$Shelf", "sizes", "[I", true)
  | _ => ("SmellBurdens$Shelf", "cells", "[I", true)
def tyX8 : Nat → FieldType := fun k => match k with
  | 0 => .int
  | 1 => .array .int
  | _ => .array .int
theorem nmX8 : ∀ a, a < 3 → ∀ b, b < 3 → a ≠ b → (TX8 a).2.1 ≠ (TX8 b).2.1 := by decide +kernel
theorem tyX8_ok : ∀ k, k < 3 → parseFieldDescriptor (TX8 k).2.2.1 = some (tyX8 k) := by decide +kernel
abbrev cX8_init : ByteArray := prog_10_method_1_code
def yX8_init : MethodName := ⟨RX8, "<init>", "(II)V"⟩
abbrev cX8_isNumber : ByteArray := prog_10_method_2_code
def yX8_isNumber : MethodName := ⟨RX8, "isNumber", "(I)Z"⟩
abbrev cX8_sizeOf : ByteArray := prog_10_method_3_code
def yX8_sizeOf : MethodName := ⟨RX8, "sizeOf", "(I)I"⟩
abbrev cX8_isThere : ByteArray := prog_10_method_4_code
def yX8_isThere : MethodName := ⟨RX8, "isThere", "(I)Z"⟩
abbrev cX8_holds : ByteArray := prog_10_method_5_code
def yX8_holds : MethodName := ⟨RX8, "holds", "(III)Z"⟩
abbrev cX8_wrongPlace : ByteArray := prog_10_method_6_code
def yX8_wrongPlace : MethodName := ⟨RX8, "wrongPlace", "(II)I"⟩
abbrev cX8_renew : ByteArray := prog_10_method_7_code
def yX8_renew : MethodName := ⟨RX8, "renew", "(III)V"⟩
abbrev cX8_drop : ByteArray := prog_10_method_8_code
def yX8_drop : MethodName := ⟨RX8, "drop", "(I)V"⟩
abbrev cX8_get : ByteArray := prog_10_method_9_code
def yX8_get : MethodName := ⟨RX8, "get", "(II)I"⟩
abbrev cX8_swap : ByteArray := prog_10_method_10_code
def yX8_swap : MethodName := ⟨RX8, "swap", "(III)I"⟩
abbrev cX8_move : ByteArray := prog_10_method_11_code
def yX8_move : MethodName := ⟨RX8, "move", "(IIIII)V"⟩
abbrev cX8_sumOf : ByteArray := prog_10_method_12_code
def yX8_sumOf : MethodName := ⟨RX8, "sumOf", "(I)J"⟩
abbrev cX8_howManyThere : ByteArray := prog_10_method_13_code
def yX8_howManyThere : MethodName := ⟨RX8, "howManyThere", "()I"⟩
abbrev cX8_mixedInto : ByteArray := prog_10_method_14_code
def yX8_mixedInto : MethodName := ⟨RX8, "mixedInto", "(J)J"⟩
def RX9 : String := "SmellBurdens$Wall"
def TX9 : u_T := fun k => match k with
  | _ => ("SmellBurdens$Wall", "best", "[I", true)
def tyX9 : Nat → FieldType := fun k => match k with
  | _ => .array .int
theorem nmX9 : ∀ a, a < 1 → ∀ b, b < 1 → a ≠ b → (TX9 a).2.1 ≠ (TX9 b).2.1 := by decide +kernel
theorem tyX9_ok : ∀ k, k < 1 → parseFieldDescriptor (TX9 k).2.2.1 = some (tyX9 k) := by decide +kernel
abbrev cX9_init : ByteArray := prog_11_method_1_code
def yX9_init : MethodName := ⟨RX9, "<init>", "()V"⟩
abbrev cX9_bestFrom : ByteArray := prog_11_method_2_code
def yX9_bestFrom : MethodName := ⟨RX9, "bestFrom", "(II)I"⟩
abbrev cX9_setBest : ByteArray := prog_11_method_3_code
def yX9_setBest : MethodName := ⟨RX9, "setBest", "(III)V"⟩
abbrev cX9_most : ByteArray := prog_11_method_4_code
def yX9_most : MethodName := ⟨RX9, "most", "()I"⟩
abbrev cX9_weigh : ByteArray := prog_11_method_5_code
def yX9_weigh : MethodName := ⟨RX9, "weigh", "(LSmellBurdens$Plain;J)V"⟩
abbrev cX9_mostOf : ByteArray := prog_11_method_6_code
def yX9_mostOf : MethodName := ⟨RX9, "mostOf", "(LSmellBurdens$Plain;JII)I"⟩
abbrev cX9_mostWith : ByteArray := prog_11_method_7_code
def yX9_mostWith : MethodName := ⟨RX9, "mostWith", "(LSmellBurdens$Plain;JIII)I"⟩
abbrev cX9_giveOut : ByteArray := prog_11_method_8_code
def yX9_giveOut : MethodName := ⟨RX9, "giveOut", "(LSmellBurdens$Plain;JLSmellBurdens$Shelf;I)V"⟩
abbrev cX9_firstWith : ByteArray := prog_11_method_9_code
def yX9_firstWith : MethodName := ⟨RX9, "firstWith", "(LSmellBurdens$Plain;JII)I"⟩
abbrev cX9_firstOrder : ByteArray := prog_11_method_10_code
def yX9_firstOrder : MethodName := ⟨RX9, "firstOrder", "(LSmellBurdens$Plain;JII)I"⟩
abbrev cX9_howManyOrders : ByteArray := prog_11_method_11_code
def yX9_howManyOrders : MethodName := ⟨RX9, "howManyOrders", "(LSmellBurdens$Plain;JII)I"⟩
abbrev cX9_codes : ByteArray := prog_11_method_12_code
def yX9_codes : MethodName := ⟨RX9, "codes", "(LSmellBurdens$Plain;)I"⟩
abbrev cX9_orderOf : ByteArray := prog_11_method_13_code
def yX9_orderOf : MethodName := ⟨RX9, "orderOf", "(LSmellBurdens$Plain;I)I"⟩
abbrev cX9_takesBy : ByteArray := prog_11_method_14_code
def yX9_takesBy : MethodName := ⟨RX9, "takesBy", "(LSmellBurdens$Plain;JIII)Z"⟩
abbrev cX9_isOrder : ByteArray := prog_11_method_15_code
def yX9_isOrder : MethodName := ⟨RX9, "isOrder", "(LSmellBurdens$Plain;I)Z"⟩
abbrev cX9_fewestForAll : ByteArray := prog_11_method_16_code
def yX9_fewestForAll : MethodName := ⟨RX9, "fewestForAll", "(LSmellBurdens$Plain;J)I"⟩
abbrev cX9_takeAll : ByteArray := prog_11_method_17_code
def yX9_takeAll : MethodName := ⟨RX9, "takeAll", "(LSmellBurdens$Plain;JI)Z"⟩
abbrev cX9_takersByTurns : ByteArray := prog_11_method_18_code
def yX9_takersByTurns : MethodName := ⟨RX9, "takersByTurns", "(LSmellBurdens$Plain;JII)I"⟩
abbrev cX9_valueOf : ByteArray := prog_11_method_19_code
def yX9_valueOf : MethodName := ⟨RX9, "valueOf", "(JI)I"⟩
abbrev cX9_aheadOfTurn : ByteArray := prog_11_method_20_code
def yX9_aheadOfTurn : MethodName := ⟨RX9, "aheadOfTurn", "(JZ)J"⟩
def RX10 : String := "SmellBurdens"
def TX10 : u_T := fun k => match k with
  | 0 => ("SmellBurdens", "rows", "LSmellBurdens$Shelf;", true)
  | 1 => ("SmellBurdens", "texts", "LSmellBurdens$Shelf;", true)
  | 2 => ("SmellBurdens", "reader", "LSmellBurdens$Reader;", true)
  | 3 => ("SmellBurdens", "plain", "LSmellBurdens$Plain;", true)
  | 4 => ("SmellBurdens", "deeds", "LSmellBurdens$Deeds;", true)
  | 5 => ("SmellBurdens", "kept", "[LSmellBurdens$Deeds;", true)
  | 6 => ("SmellBurdens", "foresight", "LSmellBurdens$Foresight;", true)
  | 7 => ("SmellBurdens", "wall", "LSmellBurdens$Wall;", true)
  | 8 => ("SmellBurdens", "chances", "LSmellBurdens$Chances;", true)
  | 9 => ("SmellBurdens", "findingCounts", "[I", true)
  | 10 => ("SmellBurdens", "latestFinding", "I", false)
  | _ => ("SmellBurdens", "told", "I", false)
def tyX10 : Nat → FieldType := fun k => match k with
  | 0 => .object "SmellBurdens$Shelf"
  | 1 => .object "SmellBurdens$Shelf"
  | 2 => .object "SmellBurdens$Reader"
  | 3 => .object "SmellBurdens$Plain"
  | 4 => .object "SmellBurdens$Deeds"
  | 5 => .array (.object "SmellBurdens$Deeds")
  | 6 => .object "SmellBurdens$Foresight"
  | 7 => .object "SmellBurdens$Wall"
  | 8 => .object "SmellBurdens$Chances"
  | 9 => .array .int
  | 10 => .int
  | _ => .int
theorem nmX10 : ∀ a, a < 12 → ∀ b, b < 12 → a ≠ b → (TX10 a).2.1 ≠ (TX10 b).2.1 := by decide +kernel
theorem tyX10_ok : ∀ k, k < 12 → parseFieldDescriptor (TX10 k).2.2.1 = some (tyX10 k) := by decide +kernel
abbrev cX10_init : ByteArray := prog_1_method_1_code
def yX10_init : MethodName := ⟨RX10, "<init>", "()V"⟩
abbrev cX10_row : ByteArray := prog_1_method_2_code
def yX10_row : MethodName := ⟨RX10, "row", "(II)I"⟩
abbrev cX10_lay : ByteArray := prog_1_method_3_code
def yX10_lay : MethodName := ⟨RX10, "lay", "(III)I"⟩
abbrev cX10_at : ByteArray := prog_1_method_4_code
def yX10_at : MethodName := ⟨RX10, "at", "(II)I"⟩
abbrev cX10_tear : ByteArray := prog_1_method_5_code
def yX10_tear : MethodName := ⟨RX10, "tear", "(I)I"⟩
abbrev cX10_copy : ByteArray := prog_1_method_6_code
def yX10_copy : MethodName := ⟨RX10, "copy", "(IIIII)I"⟩
abbrev cX10_mean : ByteArray := prog_1_method_7_code
def yX10_mean : MethodName := ⟨RX10, "mean", "(I)I"⟩
abbrev cX10_text : ByteArray := prog_1_method_8_code
def yX10_text : MethodName := ⟨RX10, "text", "(II)I"⟩
abbrev cX10_put : ByteArray := prog_1_method_9_code
def yX10_put : MethodName := ⟨RX10, "put", "(III)I"⟩
abbrev cX10_fault : ByteArray := prog_1_method_10_code
def yX10_fault : MethodName := ⟨RX10, "fault", "(I)I"⟩
abbrev cX10_plain : ByteArray := prog_1_method_11_code
def yX10_plain : MethodName := ⟨RX10, "plain", "(I)I"⟩
abbrev cX10_ass : ByteArray := prog_1_method_12_code
def yX10_ass : MethodName := ⟨RX10, "ass", "(II)I"⟩
abbrev cX10_load : ByteArray := prog_1_method_13_code
def yX10_load : MethodName := ⟨RX10, "load", "(II)I"⟩
abbrev cX10_mark : ByteArray := prog_1_method_14_code
def yX10_mark : MethodName := ⟨RX10, "mark", "(II)I"⟩
abbrev cX10_day : ByteArray := prog_1_method_15_code
def yX10_day : MethodName := ⟨RX10, "day", "()I"⟩
abbrev cX10_smear : ByteArray := prog_1_method_16_code
def yX10_smear : MethodName := ⟨RX10, "smear", "(II)I"⟩
abbrev cX10_lead : ByteArray := prog_1_method_17_code
def yX10_lead : MethodName := ⟨RX10, "lead", "(II)I"⟩
abbrev cX10_undo : ByteArray := prog_1_method_18_code
def yX10_undo : MethodName := ⟨RX10, "undo", "(I)I"⟩
abbrev cX10_keep : ByteArray := prog_1_method_19_code
def yX10_keep : MethodName := ⟨RX10, "keep", "(I)I"⟩
abbrev cX10_on : ByteArray := prog_1_method_20_code
def yX10_on : MethodName := ⟨RX10, "on", "(I)I"⟩
abbrev cX10_like : ByteArray := prog_1_method_21_code
def yX10_like : MethodName := ⟨RX10, "like", "(II)I"⟩
abbrev cX10_who : ByteArray := prog_1_method_22_code
def yX10_who : MethodName := ⟨RX10, "who", "(I)I"⟩
abbrev cX10_where : ByteArray := prog_1_method_23_code
def yX10_where : MethodName := ⟨RX10, "where", "(II)I"⟩
abbrev cX10_home : ByteArray := prog_1_method_24_code
def yX10_home : MethodName := ⟨RX10, "home", "()I"⟩
abbrev cX10_round : ByteArray := prog_1_method_25_code
def yX10_round : MethodName := ⟨RX10, "round", "()I"⟩
abbrev cX10_marks : ByteArray := prog_1_method_26_code
def yX10_marks : MethodName := ⟨RX10, "marks", "(II)I"⟩
abbrev cX10_match : ByteArray := prog_1_method_27_code
def yX10_match : MethodName := ⟨RX10, "match", "(I)I"⟩
abbrev cX10_line : ByteArray := prog_1_method_28_code
def yX10_line : MethodName := ⟨RX10, "line", "(III)I"⟩
abbrev cX10_cover : ByteArray := prog_1_method_29_code
def yX10_cover : MethodName := ⟨RX10, "cover", "()I"⟩
abbrev cX10_memories : ByteArray := prog_1_method_30_code
def yX10_memories : MethodName := ⟨RX10, "memories", "(II)I"⟩
abbrev cX10_kinds : ByteArray := prog_1_method_31_code
def yX10_kinds : MethodName := ⟨RX10, "kinds", "(II)I"⟩
abbrev cX10_next : ByteArray := prog_1_method_32_code
def yX10_next : MethodName := ⟨RX10, "next", "(II)I"⟩
abbrev cX10_duel : ByteArray := prog_1_method_33_code
def yX10_duel : MethodName := ⟨RX10, "duel", "(II)I"⟩
abbrev cX10_odds : ByteArray := prog_1_method_34_code
def yX10_odds : MethodName := ⟨RX10, "odds", "(II)I"⟩
abbrev cX10_mid : ByteArray := prog_1_method_35_code
def yX10_mid : MethodName := ⟨RX10, "mid", "(I)I"⟩
abbrev cX10_lots : ByteArray := prog_1_method_36_code
def yX10_lots : MethodName := ⟨RX10, "lots", "(II)I"⟩
abbrev cX10_asked : ByteArray := prog_1_method_37_code
def yX10_asked : MethodName := ⟨RX10, "asked", "()I"⟩
abbrev cX10_upper : ByteArray := prog_1_method_38_code
def yX10_upper : MethodName := ⟨RX10, "upper", "()J"⟩
abbrev cX10_lower : ByteArray := prog_1_method_39_code
def yX10_lower : MethodName := ⟨RX10, "lower", "()J"⟩
abbrev cX10_count : ByteArray := prog_1_method_40_code
def yX10_count : MethodName := ⟨RX10, "count", "(I)I"⟩
abbrev cX10_finding : ByteArray := prog_1_method_41_code
def yX10_finding : MethodName := ⟨RX10, "finding", "()I"⟩
abbrev cX10_findings : ByteArray := prog_1_method_42_code
def yX10_findings : MethodName := ⟨RX10, "findings", "(I)I"⟩
abbrev cX10_digest : ByteArray := prog_1_method_43_code
def yX10_digest : MethodName := ⟨RX10, "digest", "()J"⟩
abbrev cX10_refuse : ByteArray := prog_1_method_44_code
def yX10_refuse : MethodName := ⟨RX10, "refuse", "(I)I"⟩
abbrev cX10_tell : ByteArray := prog_1_method_45_code
def yX10_tell : MethodName := ⟨RX10, "tell", "(I)I"⟩
abbrev cX10_isSet : ByteArray := prog_1_method_46_code
def yX10_isSet : MethodName := ⟨RX10, "isSet", "(I)Z"⟩
abbrev cX10_keptAt : ByteArray := prog_1_method_47_code
def yX10_keptAt : MethodName := ⟨RX10, "keptAt", "(I)LSmellBurdens$Deeds;"⟩
abbrev cX10_keptSize : ByteArray := prog_1_method_48_code
def yX10_keptSize : MethodName := ⟨RX10, "keptSize", "(I)I"⟩
abbrev cX10_howManyKept : ByteArray := prog_1_method_49_code
def yX10_howManyKept : MethodName := ⟨RX10, "howManyKept", "()I"⟩
abbrev cX10_ofAss : ByteArray := prog_1_method_50_code
def yX10_ofAss : MethodName := ⟨RX10, "ofAss", "(II)I"⟩
abbrev cX10_ofLoad : ByteArray := prog_1_method_51_code
def yX10_ofLoad : MethodName := ⟨RX10, "ofLoad", "(II)I"⟩
abbrev cX10_doDay : ByteArray := prog_1_method_52_code
def yX10_doDay : MethodName := ⟨RX10, "doDay", "()I"⟩
abbrev cX10_doSmear : ByteArray := prog_1_method_53_code
def yX10_doSmear : MethodName := ⟨RX10, "doSmear", "(II)V"⟩
abbrev cX10_doLead : ByteArray := prog_1_method_54_code
def yX10_doLead : MethodName := ⟨RX10, "doLead", "(II)V"⟩
abbrev cX10_doByLot : ByteArray := prog_1_method_55_code
def yX10_doByLot : MethodName := ⟨RX10, "doByLot", "(J)V"⟩
def RX11 : String := "SmellBurdensModel"
def TX11 : u_T := fun k => match k with
  | 0 => ("SmellBurdensModel", "told", "I", false)
  | 1 => ("SmellBurdensModel", "over", "J", false)
  | 2 => ("SmellBurdensModel", "under", "J", false)
  | 3 => ("SmellBurdensModel", "latest", "I", false)
  | 4 => ("SmellBurdensModel", "found", "[I", true)
  | 5 => ("SmellBurdensModel", "rowSizes", "[I", true)
  | 6 => ("SmellBurdensModel", "rows", "[I", true)
  | 7 => ("SmellBurdensModel", "textSizes", "[I", true)
  | 8 => ("SmellBurdensModel", "texts", "[I", true)
  | 9 => ("SmellBurdensModel", "moved", "[I", true)
  | 10 => ("SmellBurdensModel", "asses", "I", false)
  | 11 => ("SmellBurdensModel", "loads", "I", false)
  | 12 => ("SmellBurdensModel", "roads", "[I", true)
  | 13 => ("SmellBurdensModel", "sorts", "[I", true)
  | 14 => ("SmellBurdensModel", "homes", "[I", true)
  | 15 => ("SmellBurdensModel", "now", "[I", true)
  | 16 => ("SmellBurdensModel", "takes", "[I", true)
  | 17 => ("SmellBurdensModel", "size", "I", false)
  | 18 => ("SmellBurdensModel", "from", "I", false)
  | 19 => ("SmellBurdensModel", "place", "I", false)
  | 20 => ("SmellBurdensModel", "wrong", "I", false)
  | 21 => ("SmellBurdensModel", "read", "[I", true)
  | 22 => ("SmellBurdensModel", "deeds", "I", false)
  | 23 => ("SmellBurdensModel", "history", "[I", true)
  | 24 => ("SmellBurdensModel", "keptDeeds", "[I", true)
  | 25 => ("SmellBurdensModel", "kept", "[I", true)
  | 26 => ("SmellBurdensModel", "aside", "[I", true)
  | 27 => ("SmellBurdensModel", "met", "[J", true)
  | 28 => ("SmellBurdensModel", "given", "[I", true)
  | 29 => ("SmellBurdensModel", "order", "[I", true)
  | 30 => ("SmellBurdensModel", "worths", "[I", true)
  | _ => ("SmellBurdensModel", "then", "[I", true)
def tyX11 : Nat → FieldType := fun k => match k with
  | 0 => .int
  | 1 => .long
  | 2 => .long
  | 3 => .int
  | 4 => .array .int
  | 5 => .array .int
  | 6 => .array .int
  | 7 => .array .int
  | 8 => .array .int
  | 9 => .array .int
  | 10 => .int
  | 11 => .int
  | 12 => .array .int
  | 13 => .array .int
  | 14 => .array .int
  | 15 => .array .int
  | 16 => .array .int
  | 17 => .int
  | 18 => .int
  | 19 => .int
  | 20 => .int
  | 21 => .array .int
  | 22 => .int
  | 23 => .array .int
  | 24 => .array .int
  | 25 => .array .int
  | 26 => .array .int
  | 27 => .array .long
  | 28 => .array .int
  | 29 => .array .int
  | 30 => .array .int
  | _ => .array .int
theorem nmX11 : ∀ a, a < 32 → ∀ b, b < 32 → a ≠ b → (TX11 a).2.1 ≠ (TX11 b).2.1 := by decide +kernel
theorem tyX11_ok : ∀ k, k < 32 → parseFieldDescriptor (TX11 k).2.2.1 = some (tyX11 k) := by decide +kernel
abbrev cX11_in : ByteArray := prog_13_method_2_code
def yX11_in : MethodName := ⟨RX11, "in", "(JJJ)Z"⟩
abbrev cX11_init : ByteArray := prog_13_method_3_code
def yX11_init : MethodName := ⟨RX11, "<init>", "()V"⟩
abbrev cX11_finds : ByteArray := prog_13_method_4_code
def yX11_finds : MethodName := ⟨RX11, "finds", "(I)I"⟩
abbrev cX11_tells : ByteArray := prog_13_method_5_code
def yX11_tells : MethodName := ⟨RX11, "tells", "(I)I"⟩
abbrev cX11_asked : ByteArray := prog_13_method_6_code
def yX11_asked : MethodName := ⟨RX11, "asked", "()I"⟩
abbrev cX11_upper : ByteArray := prog_13_method_7_code
def yX11_upper : MethodName := ⟨RX11, "upper", "()J"⟩
abbrev cX11_lower : ByteArray := prog_13_method_8_code
def yX11_lower : MethodName := ⟨RX11, "lower", "()J"⟩
abbrev cX11_finding : ByteArray := prog_13_method_9_code
def yX11_finding : MethodName := ⟨RX11, "finding", "()I"⟩
abbrev cX11_findings : ByteArray := prog_13_method_10_code
def yX11_findings : MethodName := ⟨RX11, "findings", "(I)I"⟩
abbrev cX11_isRow : ByteArray := prog_13_method_11_code
def yX11_isRow : MethodName := ⟨RX11, "isRow", "(I)Z"⟩
abbrev cX11_isText : ByteArray := prog_13_method_12_code
def yX11_isText : MethodName := ⟨RX11, "isText", "(I)Z"⟩
abbrev cX11_fresh : ByteArray := prog_13_method_13_code
def yX11_fresh : MethodName := ⟨RX11, "fresh", "(II)V"⟩
abbrev cX11_row : ByteArray := prog_13_method_14_code
def yX11_row : MethodName := ⟨RX11, "row", "(II)I"⟩
abbrev cX11_whyPlace : ByteArray := prog_13_method_15_code
def yX11_whyPlace : MethodName := ⟨RX11, "whyPlace", "(II)I"⟩
abbrev cX11_lay : ByteArray := prog_13_method_16_code
def yX11_lay : MethodName := ⟨RX11, "lay", "(III)I"⟩
abbrev cX11_at : ByteArray := prog_13_method_17_code
def yX11_at : MethodName := ⟨RX11, "at", "(II)I"⟩
abbrev cX11_tear : ByteArray := prog_13_method_18_code
def yX11_tear : MethodName := ⟨RX11, "tear", "(I)I"⟩
abbrev cX11_copy : ByteArray := prog_13_method_19_code
def yX11_copy : MethodName := ⟨RX11, "copy", "(IIIII)I"⟩
abbrev cX11_mean : ByteArray := prog_13_method_20_code
def yX11_mean : MethodName := ⟨RX11, "mean", "(I)I"⟩
abbrev cX11_text : ByteArray := prog_13_method_21_code
def yX11_text : MethodName := ⟨RX11, "text", "(II)I"⟩
abbrev cX11_put : ByteArray := prog_13_method_22_code
def yX11_put : MethodName := ⟨RX11, "put", "(III)I"⟩
abbrev cX11_isAss : ByteArray := prog_13_method_23_code
def yX11_isAss : MethodName := ⟨RX11, "isAss", "(I)Z"⟩
abbrev cX11_isLoad : ByteArray := prog_13_method_24_code
def yX11_isLoad : MethodName := ⟨RX11, "isLoad", "(I)Z"⟩
abbrev cX11_isMarks : ByteArray := prog_13_method_25_code
def yX11_isMarks : MethodName := ⟨RX11, "isMarks", "(I)Z"⟩
abbrev cX11_many : ByteArray := prog_13_method_26_code
def yX11_many : MethodName := ⟨RX11, "many", "(I)I"⟩
abbrev cX11_likeBy : ByteArray := prog_13_method_27_code
def yX11_likeBy : MethodName := ⟨RX11, "likeBy", "(III)I"⟩
abbrev cX11_least : ByteArray := prog_13_method_28_code
def yX11_least : MethodName := ⟨RX11, "least", "(I)I"⟩
abbrev cX11_isTaken : ByteArray := prog_13_method_29_code
def yX11_isTaken : MethodName := ⟨RX11, "isTaken", "(III)Z"⟩
abbrev cX11_likeTo : ByteArray := prog_13_method_30_code
def yX11_likeTo : MethodName := ⟨RX11, "likeTo", "(II)I"⟩
abbrev cX11_refuses : ByteArray := prog_13_method_31_code
def yX11_refuses : MethodName := ⟨RX11, "refuses", "(II)Z"⟩
abbrev cX11_isHome : ByteArray := prog_13_method_32_code
def yX11_isHome : MethodName := ⟨RX11, "isHome", "(I)Z"⟩
abbrev cX11_atHome : ByteArray := prog_13_method_33_code
def yX11_atHome : MethodName := ⟨RX11, "atHome", "()I"⟩
abbrev cX11_takesOne : ByteArray := prog_13_method_34_code
def yX11_takesOne : MethodName := ⟨RX11, "takesOne", "(II)I"⟩
abbrev cX11_takesAll : ByteArray := prog_13_method_35_code
def yX11_takesAll : MethodName := ⟨RX11, "takesAll", "(I)I"⟩
abbrev cX11_allGo : ByteArray := prog_13_method_36_code
def yX11_allGo : MethodName := ⟨RX11, "allGo", "()V"⟩
abbrev cX11_goesBy : ByteArray := prog_13_method_37_code
def yX11_goesBy : MethodName := ⟨RX11, "goesBy", "()I"⟩
abbrev cX11_byteAt : ByteArray := prog_13_method_38_code
def yX11_byteAt : MethodName := ⟨RX11, "byteAt", "(I)I"⟩
abbrev cX11_skips : ByteArray := prog_13_method_39_code
def yX11_skips : MethodName := ⟨RX11, "skips", "()V"⟩
abbrev cX11_faults : ByteArray := prog_13_method_40_code
def yX11_faults : MethodName := ⟨RX11, "faults", "(I)V"⟩
abbrev cX11_figure : ByteArray := prog_13_method_41_code
def yX11_figure : MethodName := ⟨RX11, "figure", "(I)I"⟩
abbrev cX11_twoFigures : ByteArray := prog_13_method_42_code
def yX11_twoFigures : MethodName := ⟨RX11, "twoFigures", "()I"⟩
abbrev cX11_sortOf : ByteArray := prog_13_method_43_code
def yX11_sortOf : MethodName := ⟨RX11, "sortOf", "(I)I"⟩
abbrev cX11_readAss : ByteArray := prog_13_method_44_code
def yX11_readAss : MethodName := ⟨RX11, "readAss", "(I)V"⟩
abbrev cX11_readLoad : ByteArray := prog_13_method_45_code
def yX11_readLoad : MethodName := ⟨RX11, "readLoad", "()V"⟩
abbrev cX11_readItem : ByteArray := prog_13_method_46_code
def yX11_readItem : MethodName := ⟨RX11, "readItem", "()V"⟩
abbrev cX11_reads : ByteArray := prog_13_method_47_code
def yX11_reads : MethodName := ⟨RX11, "reads", "(I)I"⟩
abbrev cX11_fault : ByteArray := prog_13_method_48_code
def yX11_fault : MethodName := ⟨RX11, "fault", "(I)I"⟩
abbrev cX11_plain : ByteArray := prog_13_method_49_code
def yX11_plain : MethodName := ⟨RX11, "plain", "(I)I"⟩
abbrev cX11_ofAss : ByteArray := prog_13_method_50_code
def yX11_ofAss : MethodName := ⟨RX11, "ofAss", "(II)I"⟩
abbrev cX11_takerOf : ByteArray := prog_13_method_51_code
def yX11_takerOf : MethodName := ⟨RX11, "takerOf", "(I)I"⟩
abbrev cX11_ofLoad : ByteArray := prog_13_method_52_code
def yX11_ofLoad : MethodName := ⟨RX11, "ofLoad", "(II)I"⟩
abbrev cX11_ass : ByteArray := prog_13_method_53_code
def yX11_ass : MethodName := ⟨RX11, "ass", "(II)I"⟩
abbrev cX11_load : ByteArray := prog_13_method_54_code
def yX11_load : MethodName := ⟨RX11, "load", "(II)I"⟩
abbrev cX11_isA : ByteArray := prog_13_method_55_code
def yX11_isA : MethodName := ⟨RX11, "isA", "(II)Z"⟩
abbrev cX11_marksOf : ByteArray := prog_13_method_56_code
def yX11_marksOf : MethodName := ⟨RX11, "marksOf", "(II)I"⟩
abbrev cX11_mark : ByteArray := prog_13_method_57_code
def yX11_mark : MethodName := ⟨RX11, "mark", "(II)I"⟩
abbrev cX11_notes : ByteArray := prog_13_method_58_code
def yX11_notes : MethodName := ⟨RX11, "notes", "()V"⟩
abbrev cX11_day : ByteArray := prog_13_method_59_code
def yX11_day : MethodName := ⟨RX11, "day", "()I"⟩
abbrev cX11_smear : ByteArray := prog_13_method_60_code
def yX11_smear : MethodName := ⟨RX11, "smear", "(II)I"⟩
abbrev cX11_lead : ByteArray := prog_13_method_61_code
def yX11_lead : MethodName := ⟨RX11, "lead", "(II)I"⟩
abbrev cX11_undo : ByteArray := prog_13_method_62_code
def yX11_undo : MethodName := ⟨RX11, "undo", "(I)I"⟩
abbrev cX11_keep : ByteArray := prog_13_method_63_code
def yX11_keep : MethodName := ⟨RX11, "keep", "(I)I"⟩
abbrev cX11_on : ByteArray := prog_13_method_64_code
def yX11_on : MethodName := ⟨RX11, "on", "(I)I"⟩
abbrev cX11_like : ByteArray := prog_13_method_65_code
def yX11_like : MethodName := ⟨RX11, "like", "(II)I"⟩
abbrev cX11_takers : ByteArray := prog_13_method_66_code
def yX11_takers : MethodName := ⟨RX11, "takers", "(I)I"⟩
abbrev cX11_who : ByteArray := prog_13_method_67_code
def yX11_who : MethodName := ⟨RX11, "who", "(I)I"⟩
abbrev cX11_asides : ByteArray := prog_13_method_68_code
def yX11_asides : MethodName := ⟨RX11, "asides", "()V"⟩
abbrev cX11_backs : ByteArray := prog_13_method_69_code
def yX11_backs : MethodName := ⟨RX11, "backs", "()V"⟩
abbrev cX11_where : ByteArray := prog_13_method_70_code
def yX11_where : MethodName := ⟨RX11, "where", "(II)I"⟩
abbrev cX11_home : ByteArray := prog_13_method_71_code
def yX11_home : MethodName := ⟨RX11, "home", "()I"⟩
abbrev cX11_state : ByteArray := prog_13_method_72_code
def yX11_state : MethodName := ⟨RX11, "state", "()J"⟩
abbrev cX11_round : ByteArray := prog_13_method_73_code
def yX11_round : MethodName := ⟨RX11, "round", "()I"⟩
abbrev cX11_comesHome : ByteArray := prog_13_method_74_code
def yX11_comesHome : MethodName := ⟨RX11, "comesHome", "(II)Z"⟩
abbrev cX11_marks : ByteArray := prog_13_method_75_code
def yX11_marks : MethodName := ⟨RX11, "marks", "(II)I"⟩
abbrev cX11_worth : ByteArray := prog_13_method_76_code
def yX11_worth : MethodName := ⟨RX11, "worth", "(I)I"⟩
abbrev cX11_match : ByteArray := prog_13_method_77_code
def yX11_match : MethodName := ⟨RX11, "match", "(I)I"⟩
abbrev cX11_isOrder : ByteArray := prog_13_method_78_code
def yX11_isOrder : MethodName := ⟨RX11, "isOrder", "(I)Z"⟩
abbrev cX11_line : ByteArray := prog_13_method_79_code
def yX11_line : MethodName := ⟨RX11, "line", "(III)I"⟩
abbrev cX11_cover : ByteArray := prog_13_method_80_code
def yX11_cover : MethodName := ⟨RX11, "cover", "()I"⟩
abbrev cX11_whyPairs : ByteArray := prog_13_method_81_code
def yX11_whyPairs : MethodName := ⟨RX11, "whyPairs", "(I)I"⟩
abbrev cX11_isSo : ByteArray := prog_13_method_82_code
def yX11_isSo : MethodName := ⟨RX11, "isSo", "(III)Z"⟩
abbrev cX11_memoriesBy : ByteArray := prog_13_method_83_code
def yX11_memoriesBy : MethodName := ⟨RX11, "memoriesBy", "(II)I"⟩
abbrev cX11_memories : ByteArray := prog_13_method_84_code
def yX11_memories : MethodName := ⟨RX11, "memories", "(II)I"⟩
abbrev cX11_kinds : ByteArray := prog_13_method_85_code
def yX11_kinds : MethodName := ⟨RX11, "kinds", "(II)I"⟩
abbrev cX11_next : ByteArray := prog_13_method_86_code
def yX11_next : MethodName := ⟨RX11, "next", "(II)I"⟩
abbrev cX11_turns : ByteArray := prog_13_method_87_code
def yX11_turns : MethodName := ⟨RX11, "turns", "(Z)V"⟩
abbrev cX11_duel : ByteArray := prog_13_method_88_code
def yX11_duel : MethodName := ⟨RX11, "duel", "(II)I"⟩
abbrev cX11_fraction : ByteArray := prog_13_method_89_code
def yX11_fraction : MethodName := ⟨RX11, "fraction", "(JJ)V"⟩
abbrev cX11_part : ByteArray := prog_13_method_90_code
def yX11_part : MethodName := ⟨RX11, "part", "(II)J"⟩
abbrev cX11_allParts : ByteArray := prog_13_method_91_code
def yX11_allParts : MethodName := ⟨RX11, "allParts", "()J"⟩
abbrev cX11_odds : ByteArray := prog_13_method_92_code
def yX11_odds : MethodName := ⟨RX11, "odds", "(II)I"⟩
abbrev cX11_mid : ByteArray := prog_13_method_93_code
def yX11_mid : MethodName := ⟨RX11, "mid", "(I)I"⟩
abbrev cX11_lots : ByteArray := prog_13_method_94_code
def yX11_lots : MethodName := ⟨RX11, "lots", "(II)I"⟩
abbrev cX11_sortsLike : ByteArray := prog_13_method_95_code
def yX11_sortsLike : MethodName := ⟨RX11, "sortsLike", "(I)I"⟩
abbrev cX11_roadsNow : ByteArray := prog_13_method_96_code
def yX11_roadsNow : MethodName := ⟨RX11, "roadsNow", "()I"⟩
abbrev cX11_there : ByteArray := prog_13_method_97_code
def yX11_there : MethodName := ⟨RX11, "there", "(I)I"⟩
abbrev cX11_count : ByteArray := prog_13_method_98_code
def yX11_count : MethodName := ⟨RX11, "count", "(I)I"⟩
abbrev cX11_digest : ByteArray := prog_13_method_99_code
def yX11_digest : MethodName := ⟨RX11, "digest", "()J"⟩
def RJ6 : String := "java/lang/Integer"
abbrev cJ6_bitCount_0f7a4 : ByteArray := prog_14_method_49_code
def yJ6_bitCount_0f7a4 : MethodName := ⟨RJ6, "bitCount", "(I)I"⟩
def RJ13 : String := "java/lang/Long"
abbrev cJ13_bitCount_95d88 : ByteArray := prog_15_method_50_code
def yJ13_bitCount_95d88 : MethodName := ⟨RJ13, "bitCount", "(J)I"⟩
def RJ9 : String := "java/lang/Math"
abbrev cJ9_max_7cf53 : ByteArray := prog_16_method_65_code
def yJ9_max_7cf53 : MethodName := ⟨RJ9, "max", "(II)I"⟩
abbrev cJ9_min_7cf53 : ByteArray := prog_16_method_69_code
def yJ9_min_7cf53 : MethodName := ⟨RJ9, "min", "(II)I"⟩
def RJ10 : String := "java/lang/System"
def RL : String := "SmellBurdensLaw"
abbrev cL_law : ByteArray := code
def yL_law : MethodName := ⟨RL, "law", "([I)Z"⟩
abbrev vwCl : List vw_C := [(RX0, TX0, 2), (RX1, TX1, 4), (RX2, TX2, 1), (RX5, TX5, 5), (RX6, TX6, 5), (RX8, TX8, 3), (RX9, TX9, 1), (RX10, TX10, 12), (RX11, TX11, 32)]
end
section
/-! which cells a run makes, in their order (0: the script): 0 an object of a class of vwCl, 1 ints, 2 longs, 3 references; how many -/
def xShL : List (Nat × Nat) := [(9, 0), (0, 7), (0, 5), (1, 6), (1, 240), (0, 5), (1, 4), (1, 240), (0, 4), (1, 60), (0, 3), (0, 3), (0, 1), (2, 40), (3, 3), (0, 2), (2, 61), (0, 6), (1, 160), (0, 0), (1, 6), (0, 1), (2, 40), (0, 1), (2, 40), (0, 1), (2, 40), (0, 8), (1, 6), (1, 6), (1, 240), (1, 4), (1, 240), (1, 40), (1, 5), (1, 4), (1, 5), (1, 19), (1, 4), (1, 34), (1, 760), (1, 3), (1, 2337), (1, 19), (2, 61), (1, 4), (1, 4), (1, 16), (1, 16)]
def xSh (k : Nat) : Nat × Nat := xShL.getD k (9, 0)
def xKdL : List (List Nat) := [[1, 1], [2, 1, 1, 0], [2], [0, 0, 0, 0, 0], [2, 2, 1, 0, 0], [0, 2, 2], [2], [2, 2, 2, 2, 2, 2, 2, 2, 2, 2, 0, 0], [0, 1, 1, 0, 2, 2, 2, 2, 2, 2, 0, 0, 2, 2, 2, 2, 2, 0, 0, 0, 0, 2, 0, 2, 2, 2, 2, 2, 2, 2, 2, 2]]
def xKd (ci j : Nat) : Nat := (xKdL.getD ci []).getD j 9
def xNf (ci : Nat) : Nat := (xKdL.getD ci []).length
def xN : Nat := 48
-- class 0: 0 over, 1 under
-- class 1: 0 before, 1 now, 2 dayBits, 3 size
-- class 2: 0 seen
-- class 3: 0 asses, 1 loads, 2 kinds, 3 roads, 4 homes
-- class 4: 0 signs, 1 draft, 2 state, 3 size, 4 spot
-- class 5: 0 most, 1 sizes, 2 cells
-- class 6: 0 best
-- class 7: 0 rows, 1 texts, 2 reader, 3 plain, 4 deeds, 5 kept, 6 foresight, 7 wall, 8 chances, 9 findingCounts, 10 latestFinding, 11 told
-- class 8: 0 told, 1 over, 2 under, 3 latest, 4 found, 5 rowSizes, 6 rows, 7 textSizes, 8 texts, 9 moved, 10 asses, 11 loads, 12 roads, 13 sorts, 14 homes, 15 now, 16 takes, 17 size, 18 from, 19 place, 20 wrong, 21 read, 22 deeds, 23 history, 24 keptDeeds, 25 kept, 26 aside, 27 met, 28 given, 29 order, 30 worths, 31 then
theorem xt1 {w : Cond} (h : w ∈ tables_1_1) : w ∈ lw_tbl := List.mem_append_right _ (show w ∈ tables_1 from List.mem_append_left _ h)
theorem xt2 {w : Cond} (h : w ∈ tables_1_2) : w ∈ lw_tbl := List.mem_append_right _ (show w ∈ tables_1 from List.mem_append_right _ (List.mem_append_left _ h))
theorem xt3 {w : Cond} (h : w ∈ tables_1_3) : w ∈ lw_tbl := List.mem_append_right _ (show w ∈ tables_1 from List.mem_append_right _ (List.mem_append_right _ (List.mem_append_left _ h)))
theorem xt4 {w : Cond} (h : w ∈ tables_1_4) : w ∈ lw_tbl := List.mem_append_right _ (show w ∈ tables_1 from List.mem_append_right _ (List.mem_append_right _ (List.mem_append_right _ (List.mem_append_left _ h))))
theorem xt5 {w : Cond} (h : w ∈ tables_1_5) : w ∈ lw_tbl := List.mem_append_right _ (show w ∈ tables_1 from List.mem_append_right _ (List.mem_append_right _ (List.mem_append_right _ (List.mem_append_right _ (List.mem_append_left _ h)))))
theorem xt6 {w : Cond} (h : w ∈ tables_1_6) : w ∈ lw_tbl := List.mem_append_right _ (show w ∈ tables_1 from List.mem_append_right _ (List.mem_append_right _ (List.mem_append_right _ (List.mem_append_right _ (List.mem_append_right _ (h))))))
theorem xsl {w : Cond} (h : w ∈ k2_sels lw_privs) : w ∈ lw_tbl := List.mem_append_left _ h
def xNest : List Cond := [(Jvm.Cond.methodLinkNest "SmellBurdens" (23 : Nat) ({ cls := "SmellBurdens$Reader", name := "<init>", desc := "()V" } : Jvm.MethodName) "SmellBurdens"), (Jvm.Cond.methodLinkNest "SmellBurdens$Reader" (17 : Nat) ({ cls := "SmellBurdens$Plain", name := "<init>", desc := "()V" } : Jvm.MethodName) "SmellBurdens"), (Jvm.Cond.fieldLinkNest "SmellBurdens$Chances" (18 : Nat) "SmellBurdens$Plain" "asses" "I" "SmellBurdens"), (Jvm.Cond.fieldLinkNest "SmellBurdens$Wall" (19 : Nat) "SmellBurdens$Plain" "asses" "I" "SmellBurdens"), (Jvm.Cond.fieldLinkNest "SmellBurdens$Reader" (81 : Nat) "SmellBurdens$Plain" "asses" "I" "SmellBurdens"), (Jvm.Cond.fieldLinkNest "SmellBurdens" (195 : Nat) "SmellBurdens$Plain" "asses" "I" "SmellBurdens"), (Jvm.Cond.fieldLinkNest "SmellBurdens$Foresight" (29 : Nat) "SmellBurdens$Plain" "loads" "I" "SmellBurdens"), (Jvm.Cond.fieldLinkNest "SmellBurdens$Wall" (33 : Nat) "SmellBurdens$Plain" "loads" "I" "SmellBurdens"), (Jvm.Cond.fieldLinkNest "SmellBurdens$Reader" (67 : Nat) "SmellBurdens$Plain" "loads" "I" "SmellBurdens"), (Jvm.Cond.fieldLinkNest "SmellBurdens" (144 : Nat) "SmellBurdens$Plain" "loads" "I" "SmellBurdens"), (Jvm.Cond.fieldLinkNest "SmellBurdens" (127 : Nat) "SmellBurdens$Reader" "draft" "LSmellBurdens$Plain;" "SmellBurdens"), (Jvm.Cond.fieldLinkNest "SmellBurdens" (134 : Nat) "SmellBurdens$Reader" "state" "J" "SmellBurdens"), (Jvm.Cond.methodLinkNest "SmellBurdens" (30 : Nat) ({ cls := "SmellBurdens$Plain", name := "<init>", desc := "()V" } : Jvm.MethodName) "SmellBurdens"), (Jvm.Cond.methodLinkNest "SmellBurdens" (37 : Nat) ({ cls := "SmellBurdens$Deeds", name := "<init>", desc := "()V" } : Jvm.MethodName) "SmellBurdens"), (Jvm.Cond.fieldLinkNest "SmellBurdens" (169 : Nat) "SmellBurdens$Deeds" "now" "J" "SmellBurdens"), (Jvm.Cond.fieldLinkNest "SmellBurdens" (217 : Nat) "SmellBurdens$Deeds" "size" "I" "SmellBurdens"), (Jvm.Cond.methodLinkNest "SmellBurdens" (48 : Nat) ({ cls := "SmellBurdens$Foresight", name := "<init>", desc := "()V" } : Jvm.MethodName) "SmellBurdens"), (Jvm.Cond.methodLinkNest "SmellBurdens" (55 : Nat) ({ cls := "SmellBurdens$Wall", name := "<init>", desc := "()V" } : Jvm.MethodName) "SmellBurdens"), (Jvm.Cond.methodLinkNest "SmellBurdens" (62 : Nat) ({ cls := "SmellBurdens$Chances", name := "<init>", desc := "()V" } : Jvm.MethodName) "SmellBurdens"), (Jvm.Cond.fieldLinkNest "SmellBurdens" (327 : Nat) "SmellBurdens$Chances" "over" "J" "SmellBurdens"), (Jvm.Cond.fieldLinkNest "SmellBurdens" (330 : Nat) "SmellBurdens$Chances" "under" "J" "SmellBurdens"), (Jvm.Cond.methodLinkNest "SmellBurdens$Guess" (23 : Nat) ({ cls := "SmellBurdens", name := "isSet", desc := "(I)Z" } : Jvm.MethodName) "SmellBurdens")]
theorem xNest_in : ∀ w ∈ xNest, w ∈ lw_tbl := List.forall_mem_cons.mpr ⟨xt1 (List.mem_of_getElem? (i := 47) (by decide +kernel)), List.forall_mem_cons.mpr ⟨xt1 (List.mem_of_getElem? (i := 53) (by decide +kernel)), List.forall_mem_cons.mpr ⟨xt1 (List.mem_of_getElem? (i := 58) (by decide +kernel)), List.forall_mem_cons.mpr ⟨xt1 (List.mem_of_getElem? (i := 59) (by decide +kernel)), List.forall_mem_cons.mpr ⟨xt1 (List.mem_of_getElem? (i := 60) (by decide +kernel)), List.forall_mem_cons.mpr ⟨xt1 (List.mem_of_getElem? (i := 61) (by decide +kernel)), List.forall_mem_cons.mpr ⟨xt1 (List.mem_of_getElem? (i := 63) (by decide +kernel)), List.forall_mem_cons.mpr ⟨xt1 (List.mem_of_getElem? (i := 64) (by decide +kernel)), List.forall_mem_cons.mpr ⟨xt1 (List.mem_of_getElem? (i := 65) (by decide +kernel)), List.forall_mem_cons.mpr ⟨xt1 (List.mem_of_getElem? (i := 66) (by decide +kernel)), List.forall_mem_cons.mpr ⟨xt1 (List.mem_of_getElem? (i := 83) (by decide +kernel)), List.forall_mem_cons.mpr ⟨xt1 (List.mem_of_getElem? (i := 85) (by decide +kernel)), List.forall_mem_cons.mpr ⟨xt1 (List.mem_of_getElem? (i := 100) (by decide +kernel)), List.forall_mem_cons.mpr ⟨xt1 (List.mem_of_getElem? (i := 103) (by decide +kernel)), List.forall_mem_cons.mpr ⟨xt1 (List.mem_of_getElem? (i := 109) (by decide +kernel)), List.forall_mem_cons.mpr ⟨xt1 (List.mem_of_getElem? (i := 112) (by decide +kernel)), List.forall_mem_cons.mpr ⟨xt1 (List.mem_of_getElem? (i := 126) (by decide +kernel)), List.forall_mem_cons.mpr ⟨xt1 (List.mem_of_getElem? (i := 136) (by decide +kernel)), List.forall_mem_cons.mpr ⟨xt1 (List.mem_of_getElem? (i := 146) (by decide +kernel)), List.forall_mem_cons.mpr ⟨xt1 (List.mem_of_getElem? (i := 151) (by decide +kernel)), List.forall_mem_cons.mpr ⟨xt1 (List.mem_of_getElem? (i := 153) (by decide +kernel)), List.forall_mem_cons.mpr ⟨xt4 (List.mem_of_getElem? (i := 17) (by decide +kernel)), fun _ h => absurd h List.not_mem_nil⟩⟩⟩⟩⟩⟩⟩⟩⟩⟩⟩⟩⟩⟩⟩⟩⟩⟩⟩⟩⟩⟩
/-- the words that every method has beside its own code -/
def xG : List Cond := lw_tbl.filter goodWord
theorem xg {w : Cond} (h : w ∈ lw_tbl) (hg : goodWord w = true) : w ∈ xG := List.mem_filter.mpr ⟨h, hg⟩
theorem xin0 : ∀ w ∈ u_ws RX0 TX0 2, w ∈ xG := by
  intro w h
  obtain ⟨k, hk, rfl⟩ := List.mem_map.mp h
  have hk := List.mem_range.mp hk
  match k, hk with
  | 0, _ => exact xg (w := (Jvm.Cond.lays "SmellBurdens$Chances" "SmellBurdens$Chances" "over" "J")) (xt1 (List.mem_of_getElem? (i := 154) (by decide +kernel))) rfl
  | 1, _ => exact xg (w := (Jvm.Cond.lays "SmellBurdens$Chances" "SmellBurdens$Chances" "under" "J")) (xt1 (List.mem_of_getElem? (i := 156) (by decide +kernel))) rfl
  | k + 2, hk => exact absurd hk (by omega)
theorem xin1 : ∀ w ∈ u_ws RX1 TX1 4, w ∈ xG := by
  intro w h
  obtain ⟨k, hk, rfl⟩ := List.mem_map.mp h
  have hk := List.mem_range.mp hk
  match k, hk with
  | 0, _ => exact xg (w := (Jvm.Cond.laysFinal "SmellBurdens$Deeds" "SmellBurdens$Deeds" "before" "[J")) (xt1 (List.mem_of_getElem? (i := 113) (by decide +kernel))) rfl
  | 1, _ => exact xg (w := (Jvm.Cond.lays "SmellBurdens$Deeds" "SmellBurdens$Deeds" "now" "J")) (xt1 (List.mem_of_getElem? (i := 115) (by decide +kernel))) rfl
  | 2, _ => exact xg (w := (Jvm.Cond.lays "SmellBurdens$Deeds" "SmellBurdens$Deeds" "dayBits" "J")) (xt1 (List.mem_of_getElem? (i := 117) (by decide +kernel))) rfl
  | 3, _ => exact xg (w := (Jvm.Cond.lays "SmellBurdens$Deeds" "SmellBurdens$Deeds" "size" "I")) (xt1 (List.mem_of_getElem? (i := 119) (by decide +kernel))) rfl
  | k + 4, hk => exact absurd hk (by omega)
theorem xin2 : ∀ w ∈ u_ws RX2 TX2 1, w ∈ xG := by
  intro w h
  obtain ⟨k, hk, rfl⟩ := List.mem_map.mp h
  have hk := List.mem_range.mp hk
  match k, hk with
  | 0, _ => exact xg (w := (Jvm.Cond.laysFinal "SmellBurdens$Foresight" "SmellBurdens$Foresight" "seen" "[J")) (xt1 (List.mem_of_getElem? (i := 131) (by decide +kernel))) rfl
  | k + 1, hk => exact absurd hk (by omega)
theorem xin3 : ∀ w ∈ u_ws RX5 TX5 5, w ∈ xG := by
  intro w h
  obtain ⟨k, hk, rfl⟩ := List.mem_map.mp h
  have hk := List.mem_range.mp hk
  match k, hk with
  | 0, _ => exact xg (w := (Jvm.Cond.lays "SmellBurdens$Plain" "SmellBurdens$Plain" "asses" "I")) (xt1 (List.mem_of_getElem? (i := 70) (by decide +kernel))) rfl
  | 1, _ => exact xg (w := (Jvm.Cond.lays "SmellBurdens$Plain" "SmellBurdens$Plain" "loads" "I")) (xt1 (List.mem_of_getElem? (i := 72) (by decide +kernel))) rfl
  | 2, _ => exact xg (w := (Jvm.Cond.lays "SmellBurdens$Plain" "SmellBurdens$Plain" "kinds" "I")) (xt1 (List.mem_of_getElem? (i := 74) (by decide +kernel))) rfl
  | 3, _ => exact xg (w := (Jvm.Cond.lays "SmellBurdens$Plain" "SmellBurdens$Plain" "roads" "I")) (xt1 (List.mem_of_getElem? (i := 76) (by decide +kernel))) rfl
  | 4, _ => exact xg (w := (Jvm.Cond.lays "SmellBurdens$Plain" "SmellBurdens$Plain" "homes" "I")) (xt1 (List.mem_of_getElem? (i := 78) (by decide +kernel))) rfl
  | k + 5, hk => exact absurd hk (by omega)
theorem xin4 : ∀ w ∈ u_ws RX6 TX6 5, w ∈ xG := by
  intro w h
  obtain ⟨k, hk, rfl⟩ := List.mem_map.mp h
  have hk := List.mem_range.mp hk
  match k, hk with
  | 0, _ => exact xg (w := (Jvm.Cond.laysFinal "SmellBurdens$Reader" "SmellBurdens$Reader" "signs" "[I")) (xt1 (List.mem_of_getElem? (i := 88) (by decide +kernel))) rfl
  | 1, _ => exact xg (w := (Jvm.Cond.laysFinal "SmellBurdens$Reader" "SmellBurdens$Reader" "draft" "LSmellBurdens$Plain;")) (xt1 (List.mem_of_getElem? (i := 90) (by decide +kernel))) rfl
  | 2, _ => exact xg (w := (Jvm.Cond.lays "SmellBurdens$Reader" "SmellBurdens$Reader" "state" "J")) (xt1 (List.mem_of_getElem? (i := 92) (by decide +kernel))) rfl
  | 3, _ => exact xg (w := (Jvm.Cond.lays "SmellBurdens$Reader" "SmellBurdens$Reader" "size" "I")) (xt1 (List.mem_of_getElem? (i := 94) (by decide +kernel))) rfl
  | 4, _ => exact xg (w := (Jvm.Cond.lays "SmellBurdens$Reader" "SmellBurdens$Reader" "spot" "I")) (xt1 (List.mem_of_getElem? (i := 96) (by decide +kernel))) rfl
  | k + 5, hk => exact absurd hk (by omega)
theorem xin5 : ∀ w ∈ u_ws RX8 TX8 3, w ∈ xG := by
  intro w h
  obtain ⟨k, hk, rfl⟩ := List.mem_map.mp h
  have hk := List.mem_range.mp hk
  match k, hk with
  | 0, _ => exact xg (w := (Jvm.Cond.laysFinal "SmellBurdens$Shelf" "SmellBurdens$Shelf" "most" "I")) (xt1 (List.mem_of_getElem? (i := 37) (by decide +kernel))) rfl
  | 1, _ => exact xg (w := (Jvm.Cond.laysFinal "SmellBurdens$Shelf" "SmellBurdens$Shelf" "sizes" "[I")) (xt1 (List.mem_of_getElem? (i := 39) (by decide +kernel))) rfl
  | 2, _ => exact xg (w := (Jvm.Cond.laysFinal "SmellBurdens$Shelf" "SmellBurdens$Shelf" "cells" "[I")) (xt1 (List.mem_of_getElem? (i := 41) (by decide +kernel))) rfl
  | k + 3, hk => exact absurd hk (by omega)
theorem xin6 : ∀ w ∈ u_ws RX9 TX9 1, w ∈ xG := by
  intro w h
  obtain ⟨k, hk, rfl⟩ := List.mem_map.mp h
  have hk := List.mem_range.mp hk
  match k, hk with
  | 0, _ => exact xg (w := (Jvm.Cond.laysFinal "SmellBurdens$Wall" "SmellBurdens$Wall" "best" "[I")) (xt1 (List.mem_of_getElem? (i := 141) (by decide +kernel))) rfl
  | k + 1, hk => exact absurd hk (by omega)
theorem xin7 : ∀ w ∈ u_ws RX10 TX10 12, w ∈ xG := by
  intro w h
  obtain ⟨k, hk, rfl⟩ := List.mem_map.mp h
  have hk := List.mem_range.mp hk
  match k, hk with
  | 0, _ => exact xg (w := (Jvm.Cond.laysFinal "SmellBurdens" "SmellBurdens" "rows" "LSmellBurdens$Shelf;")) (xt1 (List.mem_of_getElem? (i := 175) (by decide +kernel))) rfl
  | 1, _ => exact xg (w := (Jvm.Cond.laysFinal "SmellBurdens" "SmellBurdens" "texts" "LSmellBurdens$Shelf;")) (xt1 (List.mem_of_getElem? (i := 177) (by decide +kernel))) rfl
  | 2, _ => exact xg (w := (Jvm.Cond.laysFinal "SmellBurdens" "SmellBurdens" "reader" "LSmellBurdens$Reader;")) (xt1 (List.mem_of_getElem? (i := 179) (by decide +kernel))) rfl
  | 3, _ => exact xg (w := (Jvm.Cond.laysFinal "SmellBurdens" "SmellBurdens" "plain" "LSmellBurdens$Plain;")) (xt1 (List.mem_of_getElem? (i := 181) (by decide +kernel))) rfl
  | 4, _ => exact xg (w := (Jvm.Cond.laysFinal "SmellBurdens" "SmellBurdens" "deeds" "LSmellBurdens$Deeds;")) (xt1 (List.mem_of_getElem? (i := 183) (by decide +kernel))) rfl
  | 5, _ => exact xg (w := (Jvm.Cond.laysFinal "SmellBurdens" "SmellBurdens" "kept" "[LSmellBurdens$Deeds;")) (xt1 (List.mem_of_getElem? (i := 185) (by decide +kernel))) rfl
  | 6, _ => exact xg (w := (Jvm.Cond.laysFinal "SmellBurdens" "SmellBurdens" "foresight" "LSmellBurdens$Foresight;")) (xt1 (List.mem_of_getElem? (i := 187) (by decide +kernel))) rfl
  | 7, _ => exact xg (w := (Jvm.Cond.laysFinal "SmellBurdens" "SmellBurdens" "wall" "LSmellBurdens$Wall;")) (xt1 (List.mem_of_getElem? (i := 189) (by decide +kernel))) rfl
  | 8, _ => exact xg (w := (Jvm.Cond.laysFinal "SmellBurdens" "SmellBurdens" "chances" "LSmellBurdens$Chances;")) (xt1 (List.mem_of_getElem? (i := 191) (by decide +kernel))) rfl
  | 9, _ => exact xg (w := (Jvm.Cond.laysFinal "SmellBurdens" "SmellBurdens" "findingCounts" "[I")) (xt1 (List.mem_of_getElem? (i := 193) (by decide +kernel))) rfl
  | 10, _ => exact xg (w := (Jvm.Cond.lays "SmellBurdens" "SmellBurdens" "latestFinding" "I")) (xt1 (List.mem_of_getElem? (i := 195) (by decide +kernel))) rfl
  | 11, _ => exact xg (w := (Jvm.Cond.lays "SmellBurdens" "SmellBurdens" "told" "I")) (xt1 (List.mem_of_getElem? (i := 197) (by decide +kernel))) rfl
  | k + 12, hk => exact absurd hk (by omega)
theorem xin8 : ∀ w ∈ u_ws RX11 TX11 32, w ∈ xG := by
  intro w h
  obtain ⟨k, hk, rfl⟩ := List.mem_map.mp h
  have hk := List.mem_range.mp hk
  match k, hk with
  | 0, _ => exact xg (w := (Jvm.Cond.lays "SmellBurdensModel" "SmellBurdensModel" "told" "I")) (xt4 (List.mem_of_getElem? (i := 215) (by decide +kernel))) rfl
  | 1, _ => exact xg (w := (Jvm.Cond.lays "SmellBurdensModel" "SmellBurdensModel" "over" "J")) (xt4 (List.mem_of_getElem? (i := 217) (by decide +kernel))) rfl
  | 2, _ => exact xg (w := (Jvm.Cond.lays "SmellBurdensModel" "SmellBurdensModel" "under" "J")) (xt4 (List.mem_of_getElem? (i := 219) (by decide +kernel))) rfl
  | 3, _ => exact xg (w := (Jvm.Cond.lays "SmellBurdensModel" "SmellBurdensModel" "latest" "I")) (xt4 (List.mem_of_getElem? (i := 221) (by decide +kernel))) rfl
  | 4, _ => exact xg (w := (Jvm.Cond.laysFinal "SmellBurdensModel" "SmellBurdensModel" "found" "[I")) (xt4 (List.mem_of_getElem? (i := 223) (by decide +kernel))) rfl
  | 5, _ => exact xg (w := (Jvm.Cond.laysFinal "SmellBurdensModel" "SmellBurdensModel" "rowSizes" "[I")) (xt4 (List.mem_of_getElem? (i := 225) (by decide +kernel))) rfl
  | 6, _ => exact xg (w := (Jvm.Cond.laysFinal "SmellBurdensModel" "SmellBurdensModel" "rows" "[I")) (xt4 (List.mem_of_getElem? (i := 227) (by decide +kernel))) rfl
  | 7, _ => exact xg (w := (Jvm.Cond.laysFinal "SmellBurdensModel" "SmellBurdensModel" "textSizes" "[I")) (xt4 (List.mem_of_getElem? (i := 229) (by decide +kernel))) rfl
  | 8, _ => exact xg (w := (Jvm.Cond.laysFinal "SmellBurdensModel" "SmellBurdensModel" "texts" "[I")) (xt4 (List.mem_of_getElem? (i := 231) (by decide +kernel))) rfl
  | 9, _ => exact xg (w := (Jvm.Cond.laysFinal "SmellBurdensModel" "SmellBurdensModel" "moved" "[I")) (xt4 (List.mem_of_getElem? (i := 233) (by decide +kernel))) rfl
  | 10, _ => exact xg (w := (Jvm.Cond.lays "SmellBurdensModel" "SmellBurdensModel" "asses" "I")) (xt4 (List.mem_of_getElem? (i := 235) (by decide +kernel))) rfl
  | 11, _ => exact xg (w := (Jvm.Cond.lays "SmellBurdensModel" "SmellBurdensModel" "loads" "I")) (xt4 (List.mem_of_getElem? (i := 237) (by decide +kernel))) rfl
  | 12, _ => exact xg (w := (Jvm.Cond.laysFinal "SmellBurdensModel" "SmellBurdensModel" "roads" "[I")) (xt4 (List.mem_of_getElem? (i := 239) (by decide +kernel))) rfl
  | 13, _ => exact xg (w := (Jvm.Cond.laysFinal "SmellBurdensModel" "SmellBurdensModel" "sorts" "[I")) (xt5 (List.mem_of_getElem? (i := 1) (by decide +kernel))) rfl
  | 14, _ => exact xg (w := (Jvm.Cond.laysFinal "SmellBurdensModel" "SmellBurdensModel" "homes" "[I")) (xt5 (List.mem_of_getElem? (i := 3) (by decide +kernel))) rfl
  | 15, _ => exact xg (w := (Jvm.Cond.laysFinal "SmellBurdensModel" "SmellBurdensModel" "now" "[I")) (xt5 (List.mem_of_getElem? (i := 5) (by decide +kernel))) rfl
  | 16, _ => exact xg (w := (Jvm.Cond.laysFinal "SmellBurdensModel" "SmellBurdensModel" "takes" "[I")) (xt5 (List.mem_of_getElem? (i := 7) (by decide +kernel))) rfl
  | 17, _ => exact xg (w := (Jvm.Cond.lays "SmellBurdensModel" "SmellBurdensModel" "size" "I")) (xt5 (List.mem_of_getElem? (i := 9) (by decide +kernel))) rfl
  | 18, _ => exact xg (w := (Jvm.Cond.lays "SmellBurdensModel" "SmellBurdensModel" "from" "I")) (xt5 (List.mem_of_getElem? (i := 11) (by decide +kernel))) rfl
  | 19, _ => exact xg (w := (Jvm.Cond.lays "SmellBurdensModel" "SmellBurdensModel" "place" "I")) (xt5 (List.mem_of_getElem? (i := 13) (by decide +kernel))) rfl
  | 20, _ => exact xg (w := (Jvm.Cond.lays "SmellBurdensModel" "SmellBurdensModel" "wrong" "I")) (xt5 (List.mem_of_getElem? (i := 15) (by decide +kernel))) rfl
  | 21, _ => exact xg (w := (Jvm.Cond.laysFinal "SmellBurdensModel" "SmellBurdensModel" "read" "[I")) (xt5 (List.mem_of_getElem? (i := 17) (by decide +kernel))) rfl
  | 22, _ => exact xg (w := (Jvm.Cond.lays "SmellBurdensModel" "SmellBurdensModel" "deeds" "I")) (xt5 (List.mem_of_getElem? (i := 19) (by decide +kernel))) rfl
  | 23, _ => exact xg (w := (Jvm.Cond.laysFinal "SmellBurdensModel" "SmellBurdensModel" "history" "[I")) (xt5 (List.mem_of_getElem? (i := 21) (by decide +kernel))) rfl
  | 24, _ => exact xg (w := (Jvm.Cond.laysFinal "SmellBurdensModel" "SmellBurdensModel" "keptDeeds" "[I")) (xt5 (List.mem_of_getElem? (i := 23) (by decide +kernel))) rfl
  | 25, _ => exact xg (w := (Jvm.Cond.laysFinal "SmellBurdensModel" "SmellBurdensModel" "kept" "[I")) (xt5 (List.mem_of_getElem? (i := 25) (by decide +kernel))) rfl
  | 26, _ => exact xg (w := (Jvm.Cond.laysFinal "SmellBurdensModel" "SmellBurdensModel" "aside" "[I")) (xt5 (List.mem_of_getElem? (i := 27) (by decide +kernel))) rfl
  | 27, _ => exact xg (w := (Jvm.Cond.laysFinal "SmellBurdensModel" "SmellBurdensModel" "met" "[J")) (xt5 (List.mem_of_getElem? (i := 29) (by decide +kernel))) rfl
  | 28, _ => exact xg (w := (Jvm.Cond.laysFinal "SmellBurdensModel" "SmellBurdensModel" "given" "[I")) (xt5 (List.mem_of_getElem? (i := 31) (by decide +kernel))) rfl
  | 29, _ => exact xg (w := (Jvm.Cond.laysFinal "SmellBurdensModel" "SmellBurdensModel" "order" "[I")) (xt5 (List.mem_of_getElem? (i := 33) (by decide +kernel))) rfl
  | 30, _ => exact xg (w := (Jvm.Cond.laysFinal "SmellBurdensModel" "SmellBurdensModel" "worths" "[I")) (xt5 (List.mem_of_getElem? (i := 35) (by decide +kernel))) rfl
  | 31, _ => exact xg (w := (Jvm.Cond.laysFinal "SmellBurdensModel" "SmellBurdensModel" "then" "[I")) (xt5 (List.mem_of_getElem? (i := 37) (by decide +kernel))) rfl
  | k + 32, hk => exact absurd hk (by omega)
end
section
/-! A WALK BY COMPUTATION: worlds of numbered cells, what an instruction does to them (xstep), a method's walk (xwp), what a contract is (xCon) -/
abbrev xI : Type := Nat → Nat → Int32
abbrev xL : Type := Nat → Nat → Int64
abbrev xR : Type := Nat → Nat → Option Nat
abbrev xV : Type := List (Option Value)
abbrev xQ : Type := Option Value → Nat → xI → xL → xR → Prop
abbrev xSpec : Type := List Value → Nat → xI → xL → xR → xQ → Prop
/-- place, length, instruction, a, b, c, table -/
abbrev xE : Type := Nat × Nat × Instr × Nat × Nat × Nat × List (Nat × Nat)
/-- name, code, locals, return type, kind (0 virtual, 1 static, 2 <init>, 9 the law), arguments beside the receiver, receiver's class, frames, words of locals, cells made, program -/
abbrev xM : Type := MethodName × ByteArray × Nat × Option FieldType × Nat × Nat × Nat × Nat × Nat × Nat × List xE
def mY (M : xM) : MethodName := M.1
def mC (M : xM) : ByteArray := M.2.1
def mL (M : xM) : Nat := M.2.2.1
def mT (M : xM) : Option FieldType := M.2.2.2.1
def mK (M : xM) : Nat := M.2.2.2.2.1
def mA (M : xM) : Nat := M.2.2.2.2.2.1
def mO (M : xM) : Nat := M.2.2.2.2.2.2.1
def mF (M : xM) : Nat := M.2.2.2.2.2.2.2.1
def mW (M : xM) : Nat := M.2.2.2.2.2.2.2.2.1
def mN (M : xM) : Nat := M.2.2.2.2.2.2.2.2.2.1
def mP (M : xM) : List xE := M.2.2.2.2.2.2.2.2.2.2
abbrev xCs : Type := List (xM × xSpec)
def xad (b base : Nat) : Nat → Nat := fun k => match k with
  | 0 => b
  | k + 1 => base + k
def xv (b base : Nat) : Value → Value := fun v => match v with
  | .ref k => .ref (xad b base k)
  | v => v
def xrf (r : Option Nat) : Value := match r with
  | none => .null
  | some k => .ref k
def xro (b base : Nat) (r : Option Nat) : Option Nat := r.map (xad b base)
def xfv (ci k j : Nat) (I : xI) (L : xL) (P : xR) : Value := match xKd ci j with
  | 0 => .int (I k j)
  | 1 => .long (L k j)
  | _ => xrf (P k j)
def xfs (b base ci k : Nat) (I : xI) (L : xL) (P : xR) : List Value := (List.range (xNf ci)).map fun j => xv b base (xfv ci k j I L P)
def xent (b base : Nat) (cI cJ cD : ClassId) (k : Nat) (I : xI) (L : xL) (P : xR) : va_E := match (xSh k).1 with
  | 0 => .inr ((xSh k).2, xfs b base (xSh k).2 k I L P)
  | 1 => .inl (cI, (xSh k).2, .inl (I k))
  | 2 => .inl (cJ, (xSh k).2, .inr (.inl (L k)))
  | _ => .inl (cD, (xSh k).2, .inr (.inr (.inr (.inr (fun j => xro b base (P k j))))))
def xws (b base : Nat) (cI cJ cD : ClassId) (n : Nat) (I : xI) (L : xL) (P : xR) : va_W := (List.range n).map fun k => (base + k, xent b base cI cJ cD (k + 1) I L P)
def xSl (k : Nat) : Nat := match (xSh k).1 with
  | 0 => xNf (xSh k).2
  | _ => (xSh k).2
def xS : Nat → Nat
  | 0 => 0
  | n + 1 => xS n + xSl (n + 1)
def xup {α : Type} (I : Nat → Nat → α) (k j : Nat) (v : α) : Nat → Nat → α := fun k' => if k' = k then (fun j' => if j' = j then v else I k j') else I k'
def xrw {α : Type} (I : Nat → Nat → α) (k : Nat) (f : Nat → α) : Nat → Nat → α := fun k' => if k' = k then f else I k'
-- locals
def xgt : xV → Nat → (Value → Prop) → Prop
  | [], _, _ => False
  | x :: _, 0, k => match x with
    | some v => k v
    | none => False
  | _ :: r, i + 1, k => xgt r i k
def xs1 (v : Value) : xV → Nat → (xV → Prop) → Prop
  | [], _, _ => False
  | _ :: r, 0, k => k (some v :: r)
  | x :: r, 1, k => match x with
    | some (.long _) => xs1 v r 0 (fun r' => k (none :: r'))
    | some (.double _) => xs1 v r 0 (fun r' => k (none :: r'))
    | x => xs1 v r 0 (fun r' => k (x :: r'))
  | x :: r, i + 2, k => xs1 v r (i + 1) (fun r' => k (x :: r'))
def xs2 (v : Value) : xV → Nat → (xV → Prop) → Prop
  | [], _, _ => False
  | _ :: r, 0, k => match r with
    | [] => False
    | _ :: r => k (some v :: none :: r)
  | x :: r, 1, k => match x with
    | some (.long _) => xs2 v r 0 (fun r' => k (none :: r'))
    | some (.double _) => xs2 v r 0 (fun r' => k (none :: r'))
    | x => xs2 v r 0 (fun r' => k (x :: r'))
  | x :: r, i + 2, k => xs2 v r (i + 1) (fun r' => k (x :: r'))
def xmask : List Bool → xV → xV
  | true :: m, x :: r => x :: xmask m r
  | false :: m, _ :: r => none :: xmask m r
  | _, r => r.map fun _ => none
-- stacks
def xpI (st : List Value) (k : Int32 → List Value → Prop) : Prop := match st with
  | .int x :: r => k x r
  | _ => False
def xpL (st : List Value) (k : Int64 → List Value → Prop) : Prop := match st with
  | .long x :: r => k x r
  | _ => False
def xpR (st : List Value) (k : Nat → List Value → Prop) : Prop := match st with
  | .ref x :: r => k x r
  | _ => False
/-- one of category 1 -/
def xp1 (st : List Value) (k : Value → List Value → Prop) : Prop := match st with
  | .int x :: r => k (.int x) r
  | .ref x :: r => k (.ref x) r
  | .null :: r => k .null r
  | _ => False
/-- a reference or null -/
def xpN (st : List Value) (kn : List Value → Prop) (k : Nat → List Value → Prop) : Prop := match st with
  | .ref x :: r => k x r
  | .null :: r => kn r
  | _ => False
def xpop : Nat → List Value → List Value → (List Value → List Value → Prop) → Prop
  | 0, st, as, k => k as st
  | n + 1, st, as, k => match st with
    | v :: r => xpop n r (v :: as) k
    | [] => False
/-- at most so many words -/
def xle : Nat → List Value → Bool
  | _, [] => true
  | 0, _ :: _ => false
  | b + 1, v :: r => match v with
    | .long _ => (match b with
      | 0 => false
      | b + 1 => xle b r)
    | .double _ => (match b with
      | 0 => false
      | b + 1 => xle b r)
    | _ => xle b r
def xT (c : Bool) (A : Prop) : Prop := match c with
  | true => A
  | false => False
def xbr (c A B : Prop) : Prop := (c → A) ∧ (¬ c → B)
def xci (i : Int) (a : Nat) (k : Int32 → Prop) : Prop := match i with
  | .ofNat _ => k (nI a)
  | .negSucc _ => k (-(nI a))
def xcl (c a : Nat) (k : Int64 → Prop) : Prop := match c with
  | 0 => k (lN a)
  | _ => k (-(lN a))
def xcmp (cnd : ClassFile.Cond) (x y : Int32) (A B : Prop) : Prop := match cnd with
  | .eq => xbr (x = y) A B
  | .ne => xbr (x = y) B A
  | .lt => xbr (x < y) A B
  | .ge => xbr (y ≤ x) A B
  | .gt => xbr (y < x) A B
  | .le => xbr (x ≤ y) A B
def xsw (x : Int32) (t : List (Nat × Nat)) (J : Nat → Prop) (d : Nat) : Prop := match t with
  | [] => J d
  | q :: r => xbr (x = nI q.1) (J q.2) (xsw x r J d)
def xsel {α : Type} (c A B : α) (k : Nat) : α := match k with
  | 0 => c
  | 1 => A
  | _ => B
def xrcv (kd : Nat) (as : List Value) (n o : Nat) : Bool := match kd with
  | 0 => (match as with
    | .ref r :: _ => (match r with
      | 0 => false
      | r + 1 => Nat.blt r n && (Nat.beq (xSh (r + 1)).1 0 && Nat.beq (xSh (r + 1)).2 o))
    | _ => false)
  | 1 => true
  | _ => (match as with
    | .ref _ :: _ => true
    | _ => false)
def xcall (M : xM) (cs : xCs) (a : Nat) (kd : Nat) (k : Nat) (st : List Value) (n : Nat) (I : xI) (L : xL) (P : xR) (K : xM → List Value → xQ) : Prop := match cs[a]? with
  | none => False
  | some q => xT (Nat.beq (mK q.1) kd && Nat.ble (k + mN q.1) (mN M)) (xpop (xsel (mA q.1 + 1) (mA q.1) (mA q.1 + 1) kd) st [] fun as st' => xT (xle 8 st') (xT (xrcv kd as n (mO q.1)) (q.2 as n I L P (K q.1 st'))))
abbrev xK : Type := xQ → xV → List Value → Nat → Nat → xI → xL → xR → Prop
/-- a cell of the class of number a; an array of a kind -/
def xob (r n a : Nat) : Bool := match r with
  | 0 => false
  | r + 1 => Nat.blt r n && (Nat.beq (xSh (r + 1)).1 0 && Nat.beq (xSh (r + 1)).2 a)
def xar (r n t : Nat) (k : Nat → Prop) : Prop := match r with
  | 0 => False
  | r + 1 => match Nat.blt r n with
    | true => (match xSh (r + 1) with
      | (t', z) => (match Nat.beq t' t with
        | true => k z
        | false => False))
    | false => False
def xal (r n : Nat) (k : Nat → Prop) : Prop := match r with
  | 0 => False
  | r + 1 => match Nat.blt r n with
    | true => (match xSh (r + 1) with
      | (t', z) => (match Nat.blt 0 t' with
        | true => k z
        | false => False))
    | false => False
def xstep (M : xM) (cs : xCs) (Q : xQ) (e : xE) (K : xK) (J : Nat → xK) (ls : xV) (st : List Value) (k n : Nat) (I : xI) (L : xL) (P : xR) : Prop :=
  match e with
  | (_, _, ins, a, b, c, tb) => match ins with
    | .aconst_null => K Q ls (.null :: st) k n I L P
    | .iconst i => xci i a fun v => K Q ls (.int v :: st) k n I L P
    | .bipush i => xci i a fun v => K Q ls (.int v :: st) k n I L P
    | .sipush i => xci i a fun v => K Q ls (.int v :: st) k n I L P
    | .lconst _ => K Q ls (.long (lN a) :: st) k n I L P
    | .ldc _ => K Q ls (.int (nI a) :: st) k n I L P
    | .ldc_w _ => K Q ls (.int (nI a) :: st) k n I L P
    | .ldc2_w _ => xcl c a fun v => K Q ls (.long v :: st) k n I L P
    | .iload _ => xgt ls a fun v => xpI [v] fun x _ => K Q ls (.int x :: st) k n I L P
    | .iload_n _ => xgt ls a fun v => xpI [v] fun x _ => K Q ls (.int x :: st) k n I L P
    | .lload _ => xgt ls a fun v => xpL [v] fun x _ => K Q ls (.long x :: st) k n I L P
    | .lload_n _ => xgt ls a fun v => xpL [v] fun x _ => K Q ls (.long x :: st) k n I L P
    | .aload _ => xgt ls a fun v => xpN [v] (fun _ => K Q ls (.null :: st) k n I L P) fun x _ => K Q ls (.ref x :: st) k n I L P
    | .aload_n _ => xgt ls a fun v => xpN [v] (fun _ => K Q ls (.null :: st) k n I L P) fun x _ => K Q ls (.ref x :: st) k n I L P
    | .istore _ => xpI st fun x st => xs1 (.int x) ls a fun ls => K Q ls st k n I L P
    | .istore_n _ => xpI st fun x st => xs1 (.int x) ls a fun ls => K Q ls st k n I L P
    | .lstore _ => xpL st fun x st => xs2 (.long x) ls a fun ls => K Q ls st k n I L P
    | .lstore_n _ => xpL st fun x st => xs2 (.long x) ls a fun ls => K Q ls st k n I L P
    | .astore _ => xpN st (fun st => xs1 .null ls a fun ls => K Q ls st k n I L P) fun x st => xs1 (.ref x) ls a fun ls => K Q ls st k n I L P
    | .astore_n _ => xpN st (fun st => xs1 .null ls a fun ls => K Q ls st k n I L P) fun x st => xs1 (.ref x) ls a fun ls => K Q ls st k n I L P
    | .iinc _ i => xgt ls a fun v => xpI [v] fun x _ => (match i with
        | .ofNat _ => xs1 (.int (x + nI b)) ls a fun ls => K Q ls st k n I L P
        | .negSucc _ => xs1 (.int (x - nI b)) ls a fun ls => K Q ls st k n I L P)
    | .iadd => xpI st fun y st => xpI st fun x st => K Q ls (.int (x + y) :: st) k n I L P
    | .isub => xpI st fun y st => xpI st fun x st => K Q ls (.int (x - y) :: st) k n I L P
    | .imul => xpI st fun y st => xpI st fun x st => K Q ls (.int (x * y) :: st) k n I L P
    | .iand => xpI st fun y st => xpI st fun x st => K Q ls (.int (x &&& y) :: st) k n I L P
    | .ior => xpI st fun y st => xpI st fun x st => K Q ls (.int (x ||| y) :: st) k n I L P
    | .ixor => xpI st fun y st => xpI st fun x st => K Q ls (.int (x ^^^ y) :: st) k n I L P
    | .idiv => xpI st fun y st => xpI st fun x st => ¬ y = 0 ∧ K Q ls (.int (x / y) :: st) k n I L P
    | .irem => xpI st fun y st => xpI st fun x st => ¬ y = 0 ∧ K Q ls (.int (x - x / y * y) :: st) k n I L P
    | .ishl => xpI st fun y st => xpI st fun x st => K Q ls (.int (x <<< (y &&& 31)) :: st) k n I L P
    | .ishr => xpI st fun y st => xpI st fun x st => K Q ls (.int (x >>> (y &&& 31)) :: st) k n I L P
    | .iushr => xpI st fun y st => xpI st fun x st => K Q ls (.int (x.toUInt32 >>> (y.toUInt32 &&& Int32.toUInt32 31)).toInt32 :: st) k n I L P
    | .ladd => xpL st fun y st => xpL st fun x st => K Q ls (.long (x + y) :: st) k n I L P
    | .lsub => xpL st fun y st => xpL st fun x st => K Q ls (.long (x - y) :: st) k n I L P
    | .lmul => xpL st fun y st => xpL st fun x st => K Q ls (.long (x * y) :: st) k n I L P
    | .land => xpL st fun y st => xpL st fun x st => K Q ls (.long (x &&& y) :: st) k n I L P
    | .lor => xpL st fun y st => xpL st fun x st => K Q ls (.long (x ||| y) :: st) k n I L P
    | .lxor => xpL st fun y st => xpL st fun x st => K Q ls (.long (x ^^^ y) :: st) k n I L P
    | .ldiv => xpL st fun y st => xpL st fun x st => ¬ y = 0 ∧ K Q ls (.long (x / y) :: st) k n I L P
    | .lrem => xpL st fun y st => xpL st fun x st => ¬ y = 0 ∧ K Q ls (.long (x - x / y * y) :: st) k n I L P
    | .lshl => xpI st fun y st => xpL st fun x st => K Q ls (.long (x <<< (y.toInt64 &&& 63)) :: st) k n I L P
    | .lushr => xpI st fun y st => xpL st fun x st => K Q ls (.long (x.toUInt64 >>> (y.toInt64.toUInt64 &&& Int64.toUInt64 63)).toInt64 :: st) k n I L P
    | .lcmp => xpL st fun y st => xpL st fun x st => K Q ls (.int (lg_cmp x y) :: st) k n I L P
    | .i2l => xpI st fun x st => K Q ls (.long x.toInt64 :: st) k n I L P
    | .l2i => xpL st fun x st => K Q ls (.int x.toInt32 :: st) k n I L P
    | .i2b => xpI st fun x st => K Q ls (.int x.toInt8.toInt32 :: st) k n I L P
    | .pop => xp1 st fun _ st => K Q ls st k n I L P
    | .dup => xp1 st fun v st => K Q ls (v :: v :: st) k n I L P
    | .dup2 => xp1 st fun v st => xp1 st fun w st => K Q ls (v :: w :: v :: w :: st) k n I L P
    | .goto _ => J a Q ls st k n I L P
    | .if_icmp cnd _ => xpI st fun y st => xpI st fun x st => xcmp cnd x y (J a Q ls st k n I L P) (K Q ls st k n I L P)
    | .ifCond cnd _ => xpI st fun x st => xcmp cnd x 0 (J a Q ls st k n I L P) (K Q ls st k n I L P)
    | .ifnull _ => xpN st (fun st => J a Q ls st k n I L P) fun _ st => K Q ls st k n I L P
    | .ifnonnull _ => xpN st (fun st => K Q ls st k n I L P) fun _ st => J a Q ls st k n I L P
    | .tableswitch _ _ _ _ => xpI st fun x st => xsw x tb (fun t => J t Q ls st k n I L P) a
    | .lookupswitch _ _ => xpI st fun x st => xsw x tb (fun t => J t Q ls st k n I L P) a
    | .getfield _ => xpR st fun r st => xT (xob r n a) (match xKd a b with
        | 0 => K Q ls (.int (I r b) :: st) k n I L P
        | 1 => K Q ls (.long (L r b) :: st) k n I L P
        | _ => (match P r b with
          | none => K Q ls (.null :: st) k n I L P
          | some q => K Q ls (.ref q :: st) k n I L P))
    | .putfield _ => (match xKd a b with
        | 0 => xpI st fun x st => xpR st fun r st => xT (xob r n a) (K Q ls st k n (xup I r b x) L P)
        | 1 => xpL st fun x st => xpR st fun r st => xT (xob r n a) (K Q ls st k n I (xup L r b x) P)
        | _ => xpR st fun x st => xpR st fun r st => xT (xob r n a) (K Q ls st k n I L (xup P r b (some x))))
    | .arraylength => xpR st fun r st => (match r with
        | 0 => xT (Nat.beq (mK M) 9) (K Q ls (.int (I 0 0) :: st) k n I L P)
        | _ + 1 => xal r n fun z => K Q ls (.int (nI z) :: st) k n I L P)
    | .iaload => xpI st fun i st => xpR st fun r st => (match r with
        | 0 => xT (Nat.beq (mK M) 9) (vp_in i (I 0 0).toNatClampNeg ∧ K Q ls (.int (I 0 (i.toNatClampNeg + 1)) :: st) k n I L P)
        | _ + 1 => xar r n 1 fun z => vp_in i z ∧ K Q ls (.int (I r i.toNatClampNeg) :: st) k n I L P)
    | .laload => xpI st fun i st => xpR st fun r st => xar r n 2 fun z => vp_in i z ∧ K Q ls (.long (L r i.toNatClampNeg) :: st) k n I L P
    | .aaload => xpI st fun i st => xpR st fun r st => xar r n 3 fun z => vp_in i z ∧ (P r i.toNatClampNeg = none → K Q ls (.null :: st) k n I L P) ∧ ∀ q : Nat, P r i.toNatClampNeg = some q → K Q ls (.ref q :: st) k n I L P
    | .iastore => xpI st fun x st => xpI st fun i st => xpR st fun r st => xar r n 1 fun z => vp_in i z ∧ K Q ls st k n (xup I r i.toNatClampNeg x) L P
    | .lastore => xpL st fun x st => xpI st fun i st => xpR st fun r st => xar r n 2 fun z => vp_in i z ∧ K Q ls st k n I (xup L r i.toNatClampNeg x) P
    | .aastore => xpR st fun x st => xpI st fun i st => xpR st fun r st => (match r, x with
        | r + 1, x + 1 => xT ((Nat.blt r n && Nat.beq (xSh (r + 1)).1 3) && (Nat.blt x n && (Nat.beq (xSh (x + 1)).1 0 && Nat.beq (xSh (x + 1)).2 1))) (vp_in i (xSh (r + 1)).2 ∧ K Q ls st k n I L (xup P (r + 1) i.toNatClampNeg (some (x + 1))))
        | _, _ => False)
    | .new _ => xT (Nat.blt k (mN M) && (Nat.beq (xSh (n + 1)).1 0 && Nat.beq (xSh (n + 1)).2 a)) (K Q ls (.ref (n + 1) :: st) (k + 1) (n + 1) (xrw I (n + 1) fun _ => 0) (xrw L (n + 1) fun _ => 0) (xrw P (n + 1) fun _ => none))
    | .newarray _ => xpI st fun v st => xT (Nat.blt k (mN M) && (Nat.beq (xSh (n + 1)).1 c && Nat.blt (xSh (n + 1)).2 60000)) (v = nI (xSh (n + 1)).2 ∧ K Q ls (.ref (n + 1) :: st) (k + 1) (n + 1) (xrw I (n + 1) fun _ => 0) (xrw L (n + 1) fun _ => 0) P)
    | .anewarray _ => xpI st fun v st => xT (Nat.blt k (mN M) && (Nat.beq (xSh (n + 1)).1 3 && Nat.blt (xSh (n + 1)).2 60000)) (v = nI (xSh (n + 1)).2 ∧ K Q ls (.ref (n + 1) :: st) (k + 1) (n + 1) I L (xrw P (n + 1) fun _ => none))
    | .invokevirtual _ => xcall M cs a 0 k st n I L P fun m st' r n' I' L' P' => K Q ls (r.toList ++ st') (k + mN m) n' I' L' P'
    | .invokespecial _ => (match c with
        | 0 => xcall M cs a 2 k st n I L P fun m st' r n' I' L' P' => K Q ls (r.toList ++ st') (k + mN m) n' I' L' P'
        | _ => xpR st fun _ st => xT (xle 8 st) (K Q ls st k n I L P))
    | .invokestatic _ => (match c with
        | 0 => xcall M cs a 1 k st n I L P fun m st' r n' I' L' P' => K Q ls (r.toList ++ st') (k + mN m) n' I' L' P'
        | 1 => xpI st fun y st => xpI st fun x st => xT (xle 8 st) (K Q ls (.int (if x < y then y else x) :: st) k n I L P)
        | 2 => xpI st fun y st => xpI st fun x st => xT (xle 8 st) (K Q ls (.int (if y < x then y else x) :: st) k n I L P)
        | _ => xpI st fun m st => xpI st fun dp st => xpR st fun r1 st => xpI st fun sp st => xpR st fun r0 st => xT (xle 8 st) (match r1, r0 with
          | r1 + 1, r0 + 1 => xT (Nat.blt r1 n && Nat.blt r0 n) (¬ sp < 0 ∧ ¬ dp < 0 ∧ ¬ m < 0 ∧ sp.toNatClampNeg + m.toNatClampNeg ≤ (xSh (r0 + 1)).2 ∧ dp.toNatClampNeg + m.toNatClampNeg ≤ (xSh (r1 + 1)).2 ∧
              (match (xSh (r0 + 1)).1, (xSh (r1 + 1)).1 with
              | 1, 1 => K Q ls st k n (xrw I (r1 + 1) (va_cpy (I (r0 + 1)) (I (r1 + 1)) sp.toNatClampNeg dp.toNatClampNeg m.toNatClampNeg)) L P
              | 2, 2 => K Q ls st k n I (xrw L (r1 + 1) (va_cpy (L (r0 + 1)) (L (r1 + 1)) sp.toNatClampNeg dp.toNatClampNeg m.toNatClampNeg)) P
              | _, _ => False))
          | _, _ => False))
    | .return_ => (match st with
        | [] => (match mT M with
          | none => xT (Nat.beq k (mN M)) (Q none n I L P)
          | _ => False)
        | _ => False)
    | .ireturn => (match st with
        | [.int x] => (match mT M with
          | some .int => xT (Nat.beq k (mN M)) (Q (some (.int x)) n I L P)
          | some .boolean => (x = nI 0 ∨ x = nI 1) ∧ xT (Nat.beq k (mN M)) (Q (some (.int x)) n I L P)
          | _ => False)
        | _ => False)
    | .lreturn => (match st with
        | [.long x] => (match mT M with
          | some .long => xT (Nat.beq k (mN M)) (Q (some (.long x)) n I L P)
          | _ => False)
        | _ => False)
    | .areturn => (match st with
        | [.ref x] => (match mT M with
          | some (.object _) => xT (Nat.beq k (mN M)) (Q (some (.ref x)) n I L P)
          | _ => False)
        | [.null] => (match mT M with
          | some (.object _) => xT (Nat.beq k (mN M)) (Q (some .null) n I L P)
          | _ => False)
        | _ => False)
    | _ => False
def xlk (t : Nat) : List (Nat × List Bool) → Option (List Bool)
  | [] => none
  | q :: r => match Nat.beq q.1 t with
    | true => some q.2
    | false => xlk t r
/-- the row at a place, and the place behind it -/
def xfe (t : Nat) : List xE → (xE → Option Nat → Prop) → Prop
  | [], _ => False
  | e :: r, k => match Nat.beq e.1 t with
    | true => (match r with
      | [] => k e none
      | e' :: _ => (match e' with
        | (q, _) => k e (some q)))
    | false => xfe t r k
def xnx (cut : List (Nat × List Bool)) (g : Nat → xK) (w : Nat → xK) (t : Nat) : xK := fun Q ls st k n I L P => match xlk t cut with
  | some m => g t Q (xmask m ls) st k n I L P
  | none => w t Q ls st k n I L P
def xkn (cut : List (Nat × List Bool)) (g : Nat → xK) (w : Nat → xK) (q : Option Nat) : xK := match q with
  | none => fun _ _ _ _ _ _ _ _ => False
  | some t => xnx cut g w t
def xwp (M : xM) (cs : xCs) (g : Nat → xK) (cut : List (Nat × List Bool)) : Nat → Nat → xK
  | 0, t => fun Q ls st k n I L P => g t Q ls st k n I L P
  | f + 1, t => fun Q ls st k n I L P => xfe t (mP M) fun e q => xstep M cs Q e (xkn cut g (xwp M cs g cut f) q) (xnx cut g (xwp M cs g cut f)) ls st k n I L P
end
section
/-! What a contract is over numbered cells; locals, worlds -/
def xA (base : Nat) : Nat → Prop := fun q => base ≤ q
def xtys (cI cJ cD : ClassId) : List (ClassId × FieldType) := [(cI, .int), (cJ, .long), (cD, .object "SmellBurdens$Deeds")]
def xKs (D : va_G) (cI cJ cD : ClassId) (U : State) : Prop := va_K D vwCl (xtys cI cJ cD) U ∧ (∀ w ∈ xNest, va_Nw w U) ∧ va_AO "SmellBurdens$Deeds" U
def mRoom (M : xM) (n : Nat) : Room := { frames := mF M, cells := mN M, slots := xS (n + mN M) - xS n, locals := mW M }
def mWs (M : xM) : List Cond := .code (mY M) (mC M) (mL M) (mT M) :: xG
def xCon (l : Launch) (M : xM) (sp : xSpec) : Prop := ∀ (D : va_G) (cI cJ cD : ClassId) (b base n : Nat) (args : List Value) (I : xI) (L : xL) (P : xR) (Q : xQ), sp args n I L P Q →
  Met l (mY M) (mWs M) (mRoom M n) (va_Pc (args.map (xv b base)) (fun U => U.heap.size = base + n ∧ va_P D vwCl (xws b base cI cJ cD n I L P) U.heap ∧ xKs D cI cJ cD U))
    (fun _ st oc t => (∃ (r : Option Value) (I' : xI) (L' : xL) (P' : xR), oc = .returned (r.map (xv b base)) ∧ Q r (n + mN M) I' L' P' ∧ I' 0 = I 0 ∧ va_P D vwCl (xws b base cI cJ cD (n + mN M) I' L' P') t.heap) ∧ va_F (xA base) st t)
    (mN M) (xS (n + mN M) - xS n) (xA base)
/-- what a method's name has in the tables -/
def xHd (M : xM) : Prop := Cond.code (mY M) (mC M) (mL M) (mT M) ∈ xG ∧ Cond.initialized (mY M).cls ∈ xG ∧ ((mY M).cls ≠ "java/lang/invoke/MethodHandle" ∧ (mY M).cls ≠ "java/lang/invoke/VarHandle" ∧ (parseMethodDescriptor (mY M).desc).map (fun d => d.parameters.length) = some (mA M)) ∧
  (match mK M with
  | 0 => Cond.instanceMethod (mY M) ∈ xG ∧ Cond.selects (mY M).cls (mY M) (mY M) ∈ xG ∧ (vwCl[mO M]?).map (fun q => q.1) = some (mY M).cls
  | 1 => Cond.static (mY M) ∈ xG
  | _ => Cond.instanceMethod (mY M) ∈ xG ∧ (mY M).name = "<init>" ∧ mT M = none)
def xLR (b base : Nat) (lsA : Array Slot) (ls : xV) : Prop := lsA.size = ls.length ∧ lv_wf lsA ∧ ∀ (i : Nat) (v : Value), ls[i]? = some (some v) → lsA[i]? = some (.val (xv b base v))
def xCtx (p : Program) (l : Launch) (e : Env) (s : State) (m : MethodId) (args : Array Value) (below : List Frame) (meth : Method) (c : Code) (D : va_G) (cI cJ cD : ClassId) (b base n0 : Nat) (scr : Nat → Int32) (M : xM) (cs : xCs) : Prop :=
  p.tables.exec = Jvm.exec ∧ c.code = mC M ∧ c.maxLocals = mL M ∧ s.vm.findClass (mY M).cls = some m.cls ∧ (∀ w ∈ xG, w.before args s = true) ∧ xKs D cI cJ cD s ∧ s.heap.size = base + n0 ∧ ((mY M).name = "<init>" → meth.name = "<init>") ∧ (∀ q ∈ cs, xCon l q.1 q.2) ∧
  (mK M = 9 → ∃ (len : Nat) (xs : Nat → Int32), va_X b len xs s s.heap ∧ b < s.heap.size ∧ b < base ∧ scr 0 = nI len ∧ len ≤ 3072 ∧ ∀ j, scr (j + 1) = xs j)
def xAt (p : Program) (l : Launch) (e : Env) (s : State) (m : MethodId) (args : Array Value) (below : List Frame) (meth : Method) (c : Code) (D : va_G) (cI cJ cD : ClassId) (b base n0 : Nat) (scr : Nat → Int32) (M : xM) (Z : State → Prop) (pc : Nat) : xV → List Value → Nat → Nat → xI → xL → xR → Prop := fun ls st k n I L P =>
  n = n0 + k → k ≤ mN M → I 0 = scr → ls.length = mL M → ∀ (H : Heap) (locs : List Loc) (lsA : Array Slot), va_P D vwCl (xws b base cI cJ cD n I L P) H → va_S (xA base) s.heap H locs → xLR b base lsA ls →
    W p l e (mRoom M n0) s m args below meth c H locs k (xS n - xS n0) Z (F0 m pc lsA (st.map (xv b base)))
def xRw (M : xM) (r : Option Value) (ins : Instr) : Prop := match r, ins with
    | none, .return_ => mT M = none
    | some (.int x), .ireturn => mT M = some .int ∨ (mT M = some .boolean ∧ (x = nI 0 ∨ x = nI 1))
    | some (.long _), .lreturn => mT M = some .long
    | some (.ref _), .areturn => ∃ C, mT M = some (.object C)
    | some .null, .areturn => ∃ C, mT M = some (.object C)
    | _, _ => False
/-- how a method ends -/
def xRt (p : Program) (l : Launch) (e : Env) (s : State) (m : MethodId) (args : Array Value) (below : List Frame) (meth : Method) (c : Code) (D : va_G) (cI cJ cD : ClassId) (b base n0 : Nat) (scr : Nat → Int32) (M : xM) (Q : xQ) (Z : State → Prop) : Prop :=
  ∀ (r : Option Value) (pc n : Nat) (ins : Instr) (I : xI) (L : xL) (P : xR), decode (mC M) pc = .ok (ins, 1) → xRw M r ins → Q r n I L P → n = n0 + mN M → I 0 = scr → ∀ (H : Heap) (locs : List Loc) (lsA : Array Slot), va_P D vwCl (xws b base cI cJ cD n I L P) H → va_S (xA base) s.heap H locs →
    W p l e (mRoom M n0) s m args below meth c H locs (mN M) (xS n - xS n0) Z (F0 m pc lsA (r.toList.map (xv b base)))
/-- from this state of the walk the method comes to its end, with Q -/
def xGo (M : xM) (cs : xCs) (pc : Nat) : xK := fun Q ls st k n I L P => ∀ (p : Program) (l : Launch) (e : Env) (s : State) (m : MethodId) (args : Array Value) (below : List Frame) (meth : Method) (c : Code) (D : va_G) (cI cJ cD : ClassId) (b base n0 : Nat) (scr : Nat → Int32) (Z : State → Prop),
  xCtx p l e s m args below meth c D cI cJ cD b base n0 scr M cs → xRt p l e s m args below meth c D cI cJ cD b base n0 scr M Q Z → xAt p l e s m args below meth c D cI cJ cD b base n0 scr M Z pc ls st k n I L P
-- small facts
theorem xT_e {c : Bool} {A : Prop} (h : xT c A) : c = true ∧ A := by
  cases c
  · exact absurd h (fun q => q)
  · exact ⟨rfl, h⟩
theorem xpI_e {st : List Value} {k : Int32 → List Value → Prop} (h : xpI st k) : ∃ x r, st = .int x :: r ∧ k x r := by
  unfold xpI at h
  split at h
  · exact ⟨_, _, rfl, h⟩
  · exact absurd h (fun q => q)
theorem xpL_e {st : List Value} {k : Int64 → List Value → Prop} (h : xpL st k) : ∃ x r, st = .long x :: r ∧ k x r := by
  unfold xpL at h
  split at h
  · exact ⟨_, _, rfl, h⟩
  · exact absurd h (fun q => q)
theorem xpR_e {st : List Value} {k : Nat → List Value → Prop} (h : xpR st k) : ∃ x r, st = .ref x :: r ∧ k x r := by
  unfold xpR at h
  split at h
  · exact ⟨_, _, rfl, h⟩
  · exact absurd h (fun q => q)
theorem xp1_e {st : List Value} {k : Value → List Value → Prop} (h : xp1 st k) : ∃ v r, st = v :: r ∧ v.category = 1 ∧ (∀ b base, (xv b base v).category = 1) ∧ k v r := by
  unfold xp1 at h
  split at h
  · exact ⟨_, _, rfl, rfl, fun _ _ => rfl, h⟩
  · exact ⟨_, _, rfl, rfl, fun _ _ => rfl, h⟩
  · exact ⟨_, _, rfl, rfl, fun _ _ => rfl, h⟩
  · exact absurd h (fun q => q)
theorem xpN_e {st : List Value} {kn : List Value → Prop} {k : Nat → List Value → Prop} (h : xpN st kn k) : (∃ r, st = .null :: r ∧ kn r) ∨ ∃ x r, st = .ref x :: r ∧ k x r := by
  unfold xpN at h
  split at h
  · exact Or.inr ⟨_, _, rfl, h⟩
  · exact Or.inl ⟨_, rfl, h⟩
  · exact absurd h (fun q => q)
theorem xgt_e {k : Value → Prop} : ∀ {ls : xV} {i : Nat}, xgt ls i k → ∃ v, ls[i]? = some (some v) ∧ k v
  | [], _, h => absurd h (fun q => q)
  | x :: r, 0, h => by
    cases x with
    | none => exact absurd h (fun q => q)
    | some v => exact ⟨v, rfl, h⟩
  | x :: r, i + 1, h => by
    obtain ⟨v, h1, h2⟩ := xgt_e (ls := r) (i := i) h
    exact ⟨v, by simpa using h1, h2⟩
theorem xpop_e {k : List Value → List Value → Prop} : ∀ {n : Nat} {st as : List Value}, xpop n st as k → ∃ a r, st = a.reverse ++ r ∧ a.length = n ∧ k (a ++ as) r
  | 0, st, as, h => ⟨[], st, rfl, rfl, h⟩
  | n + 1, [], as, h => absurd h (fun q => q)
  | n + 1, v :: r, as, h => by
    obtain ⟨a, r', h1, h2, h3⟩ := xpop_e (n := n) (st := r) (as := v :: as) h
    exact ⟨a ++ [v], r', by simp [h1], by simp [h2], by simpa using h3⟩
theorem xv_cat (b base : Nat) (v : Value) : (xv b base v).category = v.category := by cases v <;> rfl
theorem xle_e {b base : Nat} : ∀ {n : Nat} {st : List Value}, xle n st = true → ((st.map (xv b base)).map fun v => v.category).sum ≤ n
  | n, [], _ => by simp
  | 0, v :: r, h => by simp [xle] at h
  | n + 1, v :: r, h => by
    have one : v.category = 1 → xle n r = true → (((v :: r).map (xv b base)).map fun v => v.category).sum ≤ n + 1 := fun h1 h2 => by
      have := xle_e (b := b) (base := base) h2
      simp only [List.map_cons, List.sum_cons, xv_cat, h1]
      omega
    have two : v.category = 2 → ∀ n', n = n' + 1 → xle n' r = true → (((v :: r).map (xv b base)).map fun v => v.category).sum ≤ n + 1 := fun h1 n' hn h2 => by
      have := xle_e (b := b) (base := base) h2
      simp only [List.map_cons, List.sum_cons, xv_cat, h1]
      omega
    unfold xle at h
    cases v with
    | long x =>
      cases n with
      | zero => simp at h
      | succ n' => exact two rfl n' rfl h
    | double x =>
      cases n with
      | zero => simp at h
      | succ n' => exact two rfl n' rfl h
    | int x => exact one rfl h
    | float x => exact one rfl h
    | null => exact one rfl h
    | ref x => exact one rfl h
    | retAddr x => exact one rfl h
theorem xrf_v (b base : Nat) (r : Option Nat) : xv b base (xrf r) = va_rf (xro b base r) := by cases r <;> rfl
-- stores into locals
theorem xs1_e {v : Value} : ∀ {ls : xV} {i : Nat} {k : xV → Prop}, xs1 v ls i k → ∃ ls', k ls' ∧ ls'.length = ls.length ∧ i < ls.length ∧ ∀ (j : Nat) (w : Value), ls'[j]? = some (some w) → (j = i ∧ w = v) ∨ (j ≠ i ∧ ls[j]? = some (some w) ∧ ¬ (j + 1 = i ∧ w.category = 2))
  | [], i, k, h => absurd h (fun q => q)
  | x :: r, 0, k, h => ⟨some v :: r, h, rfl, by simp, fun j w hj => by
      cases j with
      | zero => left; simp at hj; exact ⟨rfl, hj.symm⟩
      | succ j => right; exact ⟨by omega, by simpa using hj, by omega⟩⟩
  | x :: r, 1, k, h => by
    have go : ∀ y : Option Value, (∀ w, y = some w → x = some w ∧ ¬ w.category = 2) → xs1 v r 0 (fun r' => k (y :: r')) → ∃ ls', k ls' ∧ ls'.length = (x :: r).length ∧ 1 < (x :: r).length ∧ ∀ (j : Nat) (w : Value), ls'[j]? = some (some w) → (j = 1 ∧ w = v) ∨ (j ≠ 1 ∧ (x :: r)[j]? = some (some w) ∧ ¬ (j + 1 = 1 ∧ w.category = 2)) := fun y hy h => by
      obtain ⟨ls', h1, h2, h3, h4⟩ := xs1_e (ls := r) (i := 0) h
      refine ⟨y :: ls', h1, by simp [h2], by simp; omega, fun j w hj => ?_⟩
      cases j with
      | zero =>
        right
        simp at hj
        obtain ⟨q1, q2⟩ := hy w hj
        exact ⟨by omega, by simp [q1], fun q => q2 q.2⟩
      | succ j =>
        rcases h4 j w (by simpa using hj) with ⟨q1, q2⟩ | ⟨q1, q2, q3⟩
        · left; exact ⟨by omega, q2⟩
        · right; exact ⟨by omega, by simpa using q2, by omega⟩
    unfold xs1 at h
    split at h
    · exact go none (fun w q => by cases q) h
    · exact go none (fun w q => by cases q) h
    · rename_i n1 n2
      exact go x (fun w q => ⟨q, fun hc => by
        subst q
        cases w with
        | long z => exact n1 _ rfl
        | double z => exact n2 _ rfl
        | _ => simp [Value.category] at hc⟩) h
  | x :: r, i + 2, k, h => by
    obtain ⟨ls', h1, h2, h3, h4⟩ := xs1_e (ls := r) (i := i + 1) (k := fun r' => k (x :: r')) h
    refine ⟨x :: ls', h1, by simp [h2], by simp; omega, fun j w hj => ?_⟩
    cases j with
    | zero => right; exact ⟨by omega, by simpa using hj, by omega⟩
    | succ j =>
      rcases h4 j w (by simpa using hj) with ⟨q1, q2⟩ | ⟨q1, q2, q3⟩
      · left; exact ⟨by omega, q2⟩
      · right; exact ⟨by omega, by simpa using q2, fun q => q3 ⟨by omega, q.2⟩⟩
theorem xs2_e {v : Value} : ∀ {ls : xV} {i : Nat} {k : xV → Prop}, xs2 v ls i k → ∃ ls', k ls' ∧ ls'.length = ls.length ∧ i + 1 < ls.length ∧ ∀ (j : Nat) (w : Value), ls'[j]? = some (some w) → (j = i ∧ w = v) ∨ (j ≠ i ∧ j ≠ i + 1 ∧ ls[j]? = some (some w) ∧ ¬ (j + 1 = i ∧ w.category = 2))
  | [], i, k, h => absurd h (fun q => q)
  | [x], 0, k, h => absurd h (fun q => q)
  | x :: y :: r, 0, k, h => ⟨some v :: none :: r, h, rfl, by simp, fun j w hj => by
      match j, hj with
      | 0, hj => left; simp at hj; exact ⟨rfl, hj.symm⟩
      | 1, hj => simp at hj
      | j + 2, hj => right; exact ⟨by omega, by omega, by simpa using hj, by omega⟩⟩
  | x :: r, 1, k, h => by
    have go : ∀ y : Option Value, (∀ w, y = some w → x = some w ∧ ¬ w.category = 2) → xs2 v r 0 (fun r' => k (y :: r')) → ∃ ls', k ls' ∧ ls'.length = (x :: r).length ∧ 1 + 1 < (x :: r).length ∧ ∀ (j : Nat) (w : Value), ls'[j]? = some (some w) → (j = 1 ∧ w = v) ∨ (j ≠ 1 ∧ j ≠ 1 + 1 ∧ (x :: r)[j]? = some (some w) ∧ ¬ (j + 1 = 1 ∧ w.category = 2)) := fun y hy h => by
      obtain ⟨ls', h1, h2, h3, h4⟩ := xs2_e (ls := r) (i := 0) h
      refine ⟨y :: ls', h1, by simp [h2], by simp; omega, fun j w hj => ?_⟩
      cases j with
      | zero =>
        right
        simp at hj
        obtain ⟨q1, q2⟩ := hy w hj
        exact ⟨by omega, by omega, by simp [q1], fun q => q2 q.2⟩
      | succ j =>
        rcases h4 j w (by simpa using hj) with ⟨q1, q2⟩ | ⟨q1, q2, q3, q4⟩
        · left; exact ⟨by omega, q2⟩
        · right; exact ⟨by omega, by omega, by simpa using q3, by omega⟩
    unfold xs2 at h
    split at h
    · exact go none (fun w q => by cases q) h
    · exact go none (fun w q => by cases q) h
    · rename_i n1 n2
      exact go x (fun w q => ⟨q, fun hc => by
        subst q
        cases w with
        | long z => exact n1 _ rfl
        | double z => exact n2 _ rfl
        | _ => simp [Value.category] at hc⟩) h
  | x :: r, i + 2, k, h => by
    obtain ⟨ls', h1, h2, h3, h4⟩ := xs2_e (ls := r) (i := i + 1) (k := fun r' => k (x :: r')) h
    refine ⟨x :: ls', h1, by simp [h2], by simp; omega, fun j w hj => ?_⟩
    cases j with
    | zero => right; exact ⟨by omega, by omega, by simpa using hj, by omega⟩
    | succ j =>
      rcases h4 j w (by simpa using hj) with ⟨q1, q2⟩ | ⟨q1, q2, q3, q4⟩
      · left; exact ⟨by omega, q2⟩
      · right; exact ⟨by omega, by omega, by simpa using q3, fun q => q4 ⟨by omega, q.2⟩⟩
def xas (b base : Nat) (ls : xV) : List (Nat × Value) := (List.range ls.length).filterMap fun j => match ls[j]? with
  | some (some w) => some (j, xv b base w)
  | _ => none
theorem xas_mem {b base : Nat} {ls : xV} {j : Nat} {w : Value} (h : ls[j]? = some (some w)) : (j, xv b base w) ∈ xas b base ls := by
  refine List.mem_filterMap.mpr ⟨j, List.mem_range.mpr (List.getElem?_eq_some_iff.mp h).1, ?_⟩
  rw [h]
theorem xas_of {b base : Nat} {ls : xV} {q : Nat × Value} (h : q ∈ xas b base ls) : ∃ w, ls[q.1]? = some (some w) ∧ q.2 = xv b base w := by
  obtain ⟨j, -, h2⟩ := List.mem_filterMap.mp h
  split at h2
  · rename_i w hw
    cases h2
    exact ⟨w, hw, rfl⟩
  · cases h2
theorem xLR.has {b base : Nat} {lsA : Array Slot} {ls : xV} (h : xLR b base lsA ls) : lv_has lsA ls.length (xas b base ls) := ⟨h.1, h.2.1, fun q hq => by
  obtain ⟨w, h1, h2⟩ := xas_of hq
  rw [h2]
  exact h.2.2 q.1 w h1⟩
theorem xLR.st1 {b base : Nat} {lsA : Array Slot} {ls ls' : xV} {i : Nat} {v : Value} (hlen : ls'.length = ls.length) (h4 : ∀ (j : Nat) (w : Value), ls'[j]? = some (some w) → (j = i ∧ w = v) ∨ (j ≠ i ∧ ls[j]? = some (some w) ∧ ¬ (j + 1 = i ∧ w.category = 2)))
    (h : lv_has lsA ls.length ((i, xv b base v) :: (xas b base ls).filter (fun q => !(q.1 == i) && !(q.1 + 1 == i && q.2.category == 2)))) : xLR b base lsA ls' := by
  refine ⟨by rw [hlen]; exact h.1, h.2.1, fun j w hj => ?_⟩
  rcases h4 j w hj with ⟨rfl, rfl⟩ | ⟨q1, q2, q3⟩
  · exact h.2.2 _ List.mem_cons_self
  · refine h.2.2 (j, xv b base w) (List.mem_cons_of_mem _ (List.mem_filter.mpr ⟨xas_mem q2, ?_⟩))
    simp only [xv_cat, Bool.and_eq_true, Bool.not_eq_true', beq_eq_false_iff_ne, ne_eq, Bool.and_eq_false_imp, beq_iff_eq]
    exact ⟨q1, fun a b => q3 ⟨a, b⟩⟩
theorem xLR.st2 {b base : Nat} {lsA : Array Slot} {ls ls' : xV} {i : Nat} {v : Value} (hlen : ls'.length = ls.length) (h4 : ∀ (j : Nat) (w : Value), ls'[j]? = some (some w) → (j = i ∧ w = v) ∨ (j ≠ i ∧ j ≠ i + 1 ∧ ls[j]? = some (some w) ∧ ¬ (j + 1 = i ∧ w.category = 2)))
    (h : lv_has lsA ls.length ((i, xv b base v) :: (xas b base ls).filter (fun q => !(q.1 == i) && (!(q.1 == i + 1) && !(q.1 + 1 == i && q.2.category == 2))))) : xLR b base lsA ls' := by
  refine ⟨by rw [hlen]; exact h.1, h.2.1, fun j w hj => ?_⟩
  rcases h4 j w hj with ⟨rfl, rfl⟩ | ⟨q1, q2, q3, q4⟩
  · exact h.2.2 _ List.mem_cons_self
  · refine h.2.2 (j, xv b base w) (List.mem_cons_of_mem _ (List.mem_filter.mpr ⟨xas_mem q3, ?_⟩))
    simp only [xv_cat, Bool.and_eq_true, Bool.not_eq_true', beq_eq_false_iff_ne, ne_eq, Bool.and_eq_false_imp, beq_iff_eq]
    exact ⟨q1, q2, fun a b => q4 ⟨a, b⟩⟩
theorem xmask_e : ∀ {m : List Bool} {ls : xV} {j : Nat} {w : Value}, (xmask m ls)[j]? = some (some w) → ls[j]? = some (some w)
  | true :: m, x :: r, 0, w, h => h
  | true :: m, x :: r, j + 1, w, h => by simpa using xmask_e (m := m) (ls := r) (j := j) (by simpa [xmask] using h)
  | false :: m, x :: r, 0, w, h => by simp [xmask] at h
  | false :: m, x :: r, j + 1, w, h => by simpa using xmask_e (m := m) (ls := r) (j := j) (by simpa [xmask] using h)
  | [], ls, j, w, h => by simp [xmask] at h
  | true :: m, [], j, w, h => by simp [xmask] at h
  | false :: m, [], j, w, h => by simp [xmask] at h
theorem xmask_len : ∀ (m : List Bool) (ls : xV), (xmask m ls).length = ls.length
  | true :: m, x :: r => by simp [xmask, xmask_len m r]
  | false :: m, x :: r => by simp [xmask, xmask_len m r]
  | [], ls => by simp [xmask]
  | true :: m, [] => by simp [xmask]
  | false :: m, [] => by simp [xmask]
-- worlds
theorem xws_len (b base : Nat) (cI cJ cD : ClassId) (n : Nat) (I : xI) (L : xL) (P : xR) : (xws b base cI cJ cD n I L P).length = n := by simp [xws]
theorem xws_at {b base : Nat} {cI cJ cD : ClassId} {n k : Nat} (h : k < n) (I : xI) (L : xL) (P : xR) : (xws b base cI cJ cD n I L P)[k]? = some (base + k, xent b base cI cJ cD (k + 1) I L P) := by
  simp [xws, List.getElem?_map, List.getElem?_range h]
theorem xws_D (b base : Nat) (cI cJ cD : ClassId) (n : Nat) (I : xI) (L : xL) (P : xR) : va_D (xA base) (xws b base cI cJ cD n I L P) := by
  have key : ∀ (i : Nat) (p : Nat × va_E), (xws b base cI cJ cD n I L P)[i]? = some p → p.1 = base + i := fun i p hp => by
    have hi : i < n := by
      have := (List.getElem?_eq_some_iff.mp hp).1
      rwa [xws_len] at this
    rw [xws_at hi] at hp
    cases hp
    rfl
  refine ⟨fun i j p q hp hq he => ?_, fun k q hq => ?_⟩
  · rw [key i p hp, key j q hq] at he
    omega
  · rw [key k q hq]
    exact Nat.le_add_right _ _
theorem xws_succ (b base : Nat) (cI cJ cD : ClassId) (n : Nat) (I : xI) (L : xL) (P : xR) : xws b base cI cJ cD (n + 1) I L P = xws b base cI cJ cD n I L P ++ [(base + n, xent b base cI cJ cD (n + 1) I L P)] := by
  simp [xws, List.range_succ]
theorem xws_set {b base : Nat} {cI cJ cD : ClassId} {n k : Nat} (hk : k < n) {I I' : xI} {L L' : xL} {P P' : xR} {e : va_E} (he : xent b base cI cJ cD (k + 1) I' L' P' = e) (ho : ∀ j, j ≠ k + 1 → I' j = I j ∧ L' j = L j ∧ P' j = P j) :
    (xws b base cI cJ cD n I L P).set k (base + k, e) = xws b base cI cJ cD n I' L' P' := by
  apply List.ext_getElem?
  intro j
  by_cases hj : j < n
  · rw [xws_at hj]
    by_cases hjk : j = k
    · subst hjk
      rw [List.getElem?_set_self (by rw [xws_len]; exact hj), he]
    · rw [List.getElem?_set_ne (fun q => hjk q.symm), xws_at hj]
      obtain ⟨h1, h2, h3⟩ := ho (j + 1) (by omega)
      simp only [xent, xfs, xfv, h1, h2, h3]
  · rw [List.getElem?_eq_none (by rw [List.length_set, xws_len]; omega), List.getElem?_eq_none (by rw [xws_len]; omega)]
theorem xlt {D : va_G} {b base : Nat} {cI cJ cD : ClassId} {n : Nat} {I : xI} {L : xL} {P : xR} {H : Heap} (h : va_P D vwCl (xws b base cI cJ cD n I L P) H) {k : Nat} (hk : k < n) : base + k < H.size := (h k _ (xws_at hk I L P)).lt
theorem xKs.warm {D : va_G} {cI cJ cD : ClassId} {u U : State} (hW : u.WarmedH U.vm) (h : xKs D cI cJ cD u) : xKs D cI cJ cD U := by
  refine ⟨va_K.moved hW.alike h.1, fun w hw => ?_, va_AO.moved hW.alike h.2.2⟩
  have h1 := h.2.1 w hw
  simp only [xNest, List.mem_cons, List.not_mem_nil, or_false] at hw
  rcases hw with rfl | rfl | rfl | rfl | rfl | rfl | rfl | rfl | rfl | rfl | rfl | rfl | rfl | rfl | rfl | rfl | rfl | rfl | rfl | rfl | rfl | rfl <;> first | exact va_Nw.warmF hW h1 | exact va_Nw.warmM hW h1
theorem xNest_on : ∀ w ∈ xNest, w.onTables = true := by decide +kernel
theorem xKs.same {D : va_G} {cI cJ cD : ClassId} {u U : State} (hv : u.vm = U.vm) (h : xKs D cI cJ cD u) : xKs D cI cJ cD U := ⟨va_K.moved (by rw [← hv]; exact Vm.Alike.refl _) h.1, fun w hw => va_Nw.same (xNest_on w hw) hv (h.2.1 w hw), va_AO.moved (by rw [← hv]; exact Vm.Alike.refl _) h.2.2⟩
theorem xG_good {w : Cond} (h : w ∈ xG) : (w.onTables && w.keeps) = true ∨ ∃ ty, w = .arrayClass ty := good_of_word (List.mem_filter.mp h).2
theorem mWs_pay {M M' : xM} (h : Cond.code (mY M') (mC M') (mL M') (mT M') ∈ xG) : GoodIn xG (mWs M') := fun w hw => by
  rcases List.mem_cons.mp hw with rfl | hw
  · exact ⟨h, xG_good h⟩
  · exact ⟨hw, xG_good hw⟩
end
section
/-! what must hold of a program's rows, once: lengths, constants, targets (xChk), the tables' words (xWrd) -/
def xFw (own : String) (idx a b c : Nat) : Cond := match c with
  | 0 => .fieldLink own idx (((vwCl.getD a (RX0, TX0, 0)).2.1 b).1) (((vwCl.getD a (RX0, TX0, 0)).2.1 b).2.1) (((vwCl.getD a (RX0, TX0, 0)).2.1 b).2.2.1)
  | _ => .fieldLinkNest own idx (((vwCl.getD a (RX0, TX0, 0)).2.1 b).1) (((vwCl.getD a (RX0, TX0, 0)).2.1 b).2.1) (((vwCl.getD a (RX0, TX0, 0)).2.1 b).2.2.1) "SmellBurdens"
def xNt (t : ArrayType) (c9 : Nat) : Bool := match t, c9 with
  | .int, 1 => true
  | .long, 2 => true
  | _, _ => false
def xNw (c9 : Nat) : Prop := match c9 with
  | 1 => Cond.arrayClass .int ∈ xG
  | _ => Cond.arrayClass .long ∈ xG
def xRb (M : xM) (cs : xCs) (a : Nat) : Bool := match cs[a]? with
  | some q => Nat.ble (mF q.1 + 1) (mF M) && Nat.ble (8 + (mL q.1 + 11) + mW q.1) (mW M)
  | none => false
def xChk (M : xM) (cs : xCs) (e : xE) : Bool := match e with
  | (pc, len, ins, a, b, c, tb) => match ins with
    | .iconst i => Nat.beq len 1 && Nat.beq i.natAbs a
    | .bipush i => Nat.beq len 2 && (Nat.beq i.natAbs a && Nat.blt a 129 && decide (i < 128))
    | .sipush i => Nat.beq len 3 && (Nat.beq i.natAbs a && Nat.blt a 32769 && decide (i < 32768))
    | .lconst i => Nat.beq len 1 && Nat.beq i.val a
    | .ldc _ => Nat.beq len 2
    | .ldc_w _ => Nat.beq len 3
    | .ldc2_w _ => Nat.beq len 3
    | .iload i => Nat.beq len 2 && Nat.beq i a
    | .lload i => Nat.beq len 2 && Nat.beq i a
    | .aload i => Nat.beq len 2 && Nat.beq i a
    | .istore i => Nat.beq len 2 && Nat.beq i a
    | .lstore i => Nat.beq len 2 && Nat.beq i a
    | .astore i => Nat.beq len 2 && Nat.beq i a
    | .iload_n i => Nat.beq len 1 && Nat.beq i.val a
    | .lload_n i => Nat.beq len 1 && Nat.beq i.val a
    | .aload_n i => Nat.beq len 1 && Nat.beq i.val a
    | .istore_n i => Nat.beq len 1 && Nat.beq i.val a
    | .lstore_n i => Nat.beq len 1 && Nat.beq i.val a
    | .astore_n i => Nat.beq len 1 && Nat.beq i.val a
    | .iinc i d => Nat.beq len 3 && (Nat.beq i a && Nat.beq d.natAbs b)
    | .goto off => Nat.beq len 3 && decide ((pc : Int) + off = (a : Int))
    | .if_icmp _ off => Nat.beq len 3 && decide ((pc : Int) + off = (a : Int))
    | .ifCond _ off => Nat.beq len 3 && decide ((pc : Int) + off = (a : Int))
    | .ifnull off => Nat.beq len 3 && decide ((pc : Int) + off = (a : Int))
    | .ifnonnull off => Nat.beq len 3 && decide ((pc : Int) + off = (a : Int))
    | .tableswitch d lo hi offs => decide ((pc : Int) + d = (a : Int)) && (decide (hi = lo + (tb.length : Int) - 1) && (decide (0 ≤ lo) && decide (hi < 1000))) && (List.range tb.length).all fun j => (match tb[j]?, offs[j]? with
        | some q, some o => decide ((q.1 : Int) = lo + (j : Int)) && decide ((pc : Int) + o = (q.2 : Int))
        | _, _ => false)
    | .lookupswitch d ps => decide ((pc : Int) + d = (a : Int)) && ((ps.toList.zip (ps.toList.drop 1)).all (fun (a, next) => a.1 < next.1) && decide (ps.toList = tb.map fun q => ((q.1 : Int), (q.2 : Int) - (pc : Int)))) && tb.all fun q => Nat.blt q.1 1000
    | .getfield _ => Nat.beq len 3 && Nat.blt b (xNf a)
    | .putfield _ => Nat.beq len 3 && (Nat.blt b (xNf a) && Nat.beq c 0)
    | .new _ => Nat.beq len 3
    | .newarray t => Nat.beq len 2 && xNt t c
    | .anewarray _ => Nat.beq len 3
    | .invokevirtual _ => Nat.beq len 3 && xRb M cs a
    | .invokespecial _ => Nat.beq len 3 && (match c with
      | 0 => xRb M cs a
      | _ => Nat.ble 1 (mF M) && Nat.ble 20 (mW M))
    | .invokestatic _ => Nat.beq len 3 && (match c with
      | 0 => xRb M cs a
      | 1 => Nat.ble 1 (mF M) && Nat.ble 21 (mW M)
      | 2 => Nat.ble 1 (mF M) && Nat.ble 21 (mW M)
      | _ => Nat.ble 1 (mF M) && Nat.ble (8 + (nativeFrameWords "java/lang/System" "arraycopy" 5 + 11)) (mW M))
    | _ => Nat.beq len 1
def xcv (c a : Nat) : Int64 := match c with
  | 0 => lN a
  | _ => -(lN a)
def xcon (cs : xCs) (a : Nat) (A : xM → Prop) : Prop := match cs[a]? with
  | some q => A q.1
  | none => False
def xMw (M : xM) (cs : xCs) (i a b : Nat) : Prop := match b with
  | 0 => xcon cs a fun m => Cond.methodLink (mY M).cls i (mY m) ∈ xG
  | _ => xcon cs a fun m => Cond.methodLinkNest (mY M).cls i (mY m) "SmellBurdens" ∈ xNest
def xGw (own : String) (i a b c : Nat) : Prop := match c with
  | 0 => xFw own i a b 0 ∈ xG
  | _ => xFw own i a b 1 ∈ xNest
def xWrd (M : xM) (cs : xCs) (e : xE) : Prop := match e with
  | (_, _, ins, a, b, c, _) => match ins with
    | .ldc i => Cond.constant (mY M).cls i (nI a) ∈ xG
    | .ldc_w i => Cond.constant (mY M).cls i (nI a) ∈ xG
    | .ldc2_w i => Cond.constantLong (mY M).cls i (xcv c a) ∈ xG
    | .getfield i => xGw (mY M).cls i a b c
    | .putfield i => xFw (mY M).cls i a b 0 ∈ xG ∧ (((vwCl.getD a (RX0, TX0, 0)).2.1 b).2.2.2 = true → (mY M).name = "<init>" ∧ ((vwCl.getD a (RX0, TX0, 0)).2.1 b).1 = (mY M).cls)
    | .new i => Cond.classLink (mY M).cls i (vwCl.getD a (RX0, TX0, 0)).1 ∈ xG ∧ Cond.instantiable (vwCl.getD a (RX0, TX0, 0)).1 (vwCl.getD a (RX0, TX0, 0)).2.2 ∈ xG ∧ Cond.initialized (vwCl.getD a (RX0, TX0, 0)).1 ∈ xG ∧ a < 9
    | .newarray _ => xNw c
    | .anewarray i => Cond.classLink (mY M).cls i "SmellBurdens$Deeds" ∈ xG
    | .invokevirtual i => xcon cs a fun m => Cond.methodLink (mY M).cls i (mY m) ∈ xG
    | .invokespecial i => (match c with
      | 0 => xMw M cs i a b
      | _ => Cond.methodLink (mY M).cls i Lib.objectInit ∈ xG ∧ Cond.instanceMethod Lib.objectInit ∈ xG ∧ Cond.code Lib.objectInit ⟨#[0xb1]⟩ 1 none ∈ xG)
    | .invokestatic i => (match c with
      | 0 => xMw M cs i a b
      | 1 => Cond.methodLink (mY M).cls i Lib.Math.max.name ∈ xG ∧ Cond.static Lib.Math.max.name ∈ xG ∧ Cond.initialized "java/lang/Math" ∈ xG ∧ Cond.code Lib.Math.max.name Lib.Math.max.code 2 (some .int) ∈ xG
      | 2 => Cond.methodLink (mY M).cls i Lib.Math.min.name ∈ xG ∧ Cond.static Lib.Math.min.name ∈ xG ∧ Cond.initialized "java/lang/Math" ∈ xG ∧ Cond.code Lib.Math.min.name Lib.Math.min.code 2 (some .int) ∈ xG
      | _ => Cond.methodLink (mY M).cls i arraycopyName ∈ xG ∧ Cond.native arraycopyName ∈ xG ∧ Cond.static arraycopyName ∈ xG ∧ Cond.initialized "java/lang/System" ∈ xG)
    | _ => True
theorem xbeq {a b : Nat} (h : Nat.beq a b = true) : a = b := Nat.eq_of_beq_eq_true h
theorem xblt {a b : Nat} (h : Nat.blt a b = true) : a < b := Nat.le_of_ble_eq_true h
theorem xci_e {i : Int} {a : Nat} {k : Int32 → Prop} (h : xci i a k) (ha : i.natAbs = a) : k (Int32.ofInt i) := by
  subst ha
  cases i with
  | ofNat j => exact h
  | negSucc j =>
    have e : Int32.ofInt (Int.negSucc j) = -(nI (Int.negSucc j).natAbs) := by
      have e1 : nI (Int.negSucc j).natAbs = Int32.ofInt ((j : Int) + 1) := by
        show Int32.ofNat (j + 1) = _
        rw [← Int32.ofInt_eq_ofNat]
        rfl
      rw [e1, ← Int32.ofInt_neg]
      congr 1
    rw [e]
    exact h
theorem xcl_e {c a : Nat} {k : Int64 → Prop} (h : xcl c a k) : k (xcv c a) := by
  cases c with
  | zero => exact h
  | succ c => exact h
theorem xbr_e {c A B : Prop} (h : xbr c A B) : (c → A) ∧ (¬ c → B) := h
end
section
theorem xby {i : Int} (h1 : -128 ≤ i) (h2 : i < 128) : (Int8.ofInt i).toInt32 = Int32.ofInt i := by
  apply Int32.toInt_inj.mp
  rw [Int8.toInt_toInt32, Int8.toInt_ofInt, Int32.toInt_ofInt]
  have e8 : ((Int8.size : Nat) : Int) = 256 := rfl
  have e16 : ((Int16.size : Nat) : Int) = 65536 := rfl
  have e32 : ((Int32.size : Nat) : Int) = 4294967296 := rfl
  rw [Int.bmod_eq_of_le (by omega) (by omega), Int.bmod_eq_of_le (by omega) (by omega)]
theorem xsh {i : Int} (h1 : -32768 ≤ i) (h2 : i < 32768) : (Int16.ofInt i).toInt32 = Int32.ofInt i := by
  apply Int32.toInt_inj.mp
  rw [Int16.toInt_toInt32, Int16.toInt_ofInt, Int32.toInt_ofInt]
  have e8 : ((Int8.size : Nat) : Int) = 256 := rfl
  have e16 : ((Int16.size : Nat) : Int) = 65536 := rfl
  have e32 : ((Int32.size : Nat) : Int) = 4294967296 := rfl
  rw [Int.bmod_eq_of_le (by omega) (by omega), Int.bmod_eq_of_le (by omega) (by omega)]
/-! each instruction's step is sound -/
section STEPS
variable {p : Program} {l : Launch} {e : Env} {s : State} {m : MethodId} {args : Array Value} {below : List Frame} {meth : Method} {c : Code} {D : va_G} {cI cJ cD : ClassId} {b base n0 : Nat} {scr : Nat → Int32} {M : xM} {cs : xCs} {Q : xQ} {Z : State → Prop}
variable {pc : Nat} {K : xK} {J : Nat → xK} {ls : xV} {st : List Value} {k n : Nat} {I : xI} {L : xL} {P : xR}
theorem xs_iadd (X : xCtx p l e s m args below meth c D cI cJ cD b base n0 scr M cs) (hd : decode (mC M) pc = .ok (.iadd, 1)) (hK : ∀ ls st k n I L P, K Q ls st k n I L P → xAt p l e s m args below meth c D cI cJ cD b base n0 scr M Z (pc + 1) ls st k n I L P) (h : xpI st fun y st => xpI st fun x st => K Q ls (.int (x + y) :: st) k n I L P) : xAt p l e s m args below meth c D cI cJ cD b base n0 scr M Z pc ls st k n I L P := by
  obtain ⟨y, r1, e1, h1⟩ := xpI_e h
  subst e1
  obtain ⟨x, r2, e2, h2⟩ := xpI_e h1
  subst e2
  intro hn hk hI hl H locs lsA hP hS hL
  exact lv_iadd X.1 X.2.1 hd (hK _ _ _ _ _ _ _ h2 hn hk hI hl H locs lsA hP hS hL)
theorem xs_isub (X : xCtx p l e s m args below meth c D cI cJ cD b base n0 scr M cs) (hd : decode (mC M) pc = .ok (.isub, 1)) (hK : ∀ ls st k n I L P, K Q ls st k n I L P → xAt p l e s m args below meth c D cI cJ cD b base n0 scr M Z (pc + 1) ls st k n I L P) (h : xpI st fun y st => xpI st fun x st => K Q ls (.int (x - y) :: st) k n I L P) : xAt p l e s m args below meth c D cI cJ cD b base n0 scr M Z pc ls st k n I L P := by
  obtain ⟨y, r1, e1, h1⟩ := xpI_e h
  subst e1
  obtain ⟨x, r2, e2, h2⟩ := xpI_e h1
  subst e2
  intro hn hk hI hl H locs lsA hP hS hL
  exact lv_isub X.1 X.2.1 hd (hK _ _ _ _ _ _ _ h2 hn hk hI hl H locs lsA hP hS hL)
theorem xs_imul (X : xCtx p l e s m args below meth c D cI cJ cD b base n0 scr M cs) (hd : decode (mC M) pc = .ok (.imul, 1)) (hK : ∀ ls st k n I L P, K Q ls st k n I L P → xAt p l e s m args below meth c D cI cJ cD b base n0 scr M Z (pc + 1) ls st k n I L P) (h : xpI st fun y st => xpI st fun x st => K Q ls (.int (x * y) :: st) k n I L P) : xAt p l e s m args below meth c D cI cJ cD b base n0 scr M Z pc ls st k n I L P := by
  obtain ⟨y, r1, e1, h1⟩ := xpI_e h
  subst e1
  obtain ⟨x, r2, e2, h2⟩ := xpI_e h1
  subst e2
  intro hn hk hI hl H locs lsA hP hS hL
  exact lv_imul X.1 X.2.1 hd (hK _ _ _ _ _ _ _ h2 hn hk hI hl H locs lsA hP hS hL)
theorem xs_iand (X : xCtx p l e s m args below meth c D cI cJ cD b base n0 scr M cs) (hd : decode (mC M) pc = .ok (.iand, 1)) (hK : ∀ ls st k n I L P, K Q ls st k n I L P → xAt p l e s m args below meth c D cI cJ cD b base n0 scr M Z (pc + 1) ls st k n I L P) (h : xpI st fun y st => xpI st fun x st => K Q ls (.int (x &&& y) :: st) k n I L P) : xAt p l e s m args below meth c D cI cJ cD b base n0 scr M Z pc ls st k n I L P := by
  obtain ⟨y, r1, e1, h1⟩ := xpI_e h
  subst e1
  obtain ⟨x, r2, e2, h2⟩ := xpI_e h1
  subst e2
  intro hn hk hI hl H locs lsA hP hS hL
  exact lv_iand X.1 X.2.1 hd (hK _ _ _ _ _ _ _ h2 hn hk hI hl H locs lsA hP hS hL)
theorem xs_ior (X : xCtx p l e s m args below meth c D cI cJ cD b base n0 scr M cs) (hd : decode (mC M) pc = .ok (.ior, 1)) (hK : ∀ ls st k n I L P, K Q ls st k n I L P → xAt p l e s m args below meth c D cI cJ cD b base n0 scr M Z (pc + 1) ls st k n I L P) (h : xpI st fun y st => xpI st fun x st => K Q ls (.int (x ||| y) :: st) k n I L P) : xAt p l e s m args below meth c D cI cJ cD b base n0 scr M Z pc ls st k n I L P := by
  obtain ⟨y, r1, e1, h1⟩ := xpI_e h
  subst e1
  obtain ⟨x, r2, e2, h2⟩ := xpI_e h1
  subst e2
  intro hn hk hI hl H locs lsA hP hS hL
  exact lv_ior X.1 X.2.1 hd (hK _ _ _ _ _ _ _ h2 hn hk hI hl H locs lsA hP hS hL)
theorem xs_ixor (X : xCtx p l e s m args below meth c D cI cJ cD b base n0 scr M cs) (hd : decode (mC M) pc = .ok (.ixor, 1)) (hK : ∀ ls st k n I L P, K Q ls st k n I L P → xAt p l e s m args below meth c D cI cJ cD b base n0 scr M Z (pc + 1) ls st k n I L P) (h : xpI st fun y st => xpI st fun x st => K Q ls (.int (x ^^^ y) :: st) k n I L P) : xAt p l e s m args below meth c D cI cJ cD b base n0 scr M Z pc ls st k n I L P := by
  obtain ⟨y, r1, e1, h1⟩ := xpI_e h
  subst e1
  obtain ⟨x, r2, e2, h2⟩ := xpI_e h1
  subst e2
  intro hn hk hI hl H locs lsA hP hS hL
  exact lv_ixor X.1 X.2.1 hd (hK _ _ _ _ _ _ _ h2 hn hk hI hl H locs lsA hP hS hL)
theorem xs_ishl (X : xCtx p l e s m args below meth c D cI cJ cD b base n0 scr M cs) (hd : decode (mC M) pc = .ok (.ishl, 1)) (hK : ∀ ls st k n I L P, K Q ls st k n I L P → xAt p l e s m args below meth c D cI cJ cD b base n0 scr M Z (pc + 1) ls st k n I L P) (h : xpI st fun y st => xpI st fun x st => K Q ls (.int (x <<< (y &&& 31)) :: st) k n I L P) : xAt p l e s m args below meth c D cI cJ cD b base n0 scr M Z pc ls st k n I L P := by
  obtain ⟨y, r1, e1, h1⟩ := xpI_e h
  subst e1
  obtain ⟨x, r2, e2, h2⟩ := xpI_e h1
  subst e2
  intro hn hk hI hl H locs lsA hP hS hL
  exact lv_ishl X.1 X.2.1 hd (hK _ _ _ _ _ _ _ h2 hn hk hI hl H locs lsA hP hS hL)
theorem xs_ishr (X : xCtx p l e s m args below meth c D cI cJ cD b base n0 scr M cs) (hd : decode (mC M) pc = .ok (.ishr, 1)) (hK : ∀ ls st k n I L P, K Q ls st k n I L P → xAt p l e s m args below meth c D cI cJ cD b base n0 scr M Z (pc + 1) ls st k n I L P) (h : xpI st fun y st => xpI st fun x st => K Q ls (.int (x >>> (y &&& 31)) :: st) k n I L P) : xAt p l e s m args below meth c D cI cJ cD b base n0 scr M Z pc ls st k n I L P := by
  obtain ⟨y, r1, e1, h1⟩ := xpI_e h
  subst e1
  obtain ⟨x, r2, e2, h2⟩ := xpI_e h1
  subst e2
  intro hn hk hI hl H locs lsA hP hS hL
  exact lv_ishr X.1 X.2.1 hd (hK _ _ _ _ _ _ _ h2 hn hk hI hl H locs lsA hP hS hL)
theorem xs_ladd (X : xCtx p l e s m args below meth c D cI cJ cD b base n0 scr M cs) (hd : decode (mC M) pc = .ok (.ladd, 1)) (hK : ∀ ls st k n I L P, K Q ls st k n I L P → xAt p l e s m args below meth c D cI cJ cD b base n0 scr M Z (pc + 1) ls st k n I L P) (h : xpL st fun y st => xpL st fun x st => K Q ls (.long (x + y) :: st) k n I L P) : xAt p l e s m args below meth c D cI cJ cD b base n0 scr M Z pc ls st k n I L P := by
  obtain ⟨y, r1, e1, h1⟩ := xpL_e h
  subst e1
  obtain ⟨x, r2, e2, h2⟩ := xpL_e h1
  subst e2
  intro hn hk hI hl H locs lsA hP hS hL
  exact lv_ladd X.1 X.2.1 hd (hK _ _ _ _ _ _ _ h2 hn hk hI hl H locs lsA hP hS hL)
theorem xs_lsub (X : xCtx p l e s m args below meth c D cI cJ cD b base n0 scr M cs) (hd : decode (mC M) pc = .ok (.lsub, 1)) (hK : ∀ ls st k n I L P, K Q ls st k n I L P → xAt p l e s m args below meth c D cI cJ cD b base n0 scr M Z (pc + 1) ls st k n I L P) (h : xpL st fun y st => xpL st fun x st => K Q ls (.long (x - y) :: st) k n I L P) : xAt p l e s m args below meth c D cI cJ cD b base n0 scr M Z pc ls st k n I L P := by
  obtain ⟨y, r1, e1, h1⟩ := xpL_e h
  subst e1
  obtain ⟨x, r2, e2, h2⟩ := xpL_e h1
  subst e2
  intro hn hk hI hl H locs lsA hP hS hL
  exact lv_lsub X.1 X.2.1 hd (hK _ _ _ _ _ _ _ h2 hn hk hI hl H locs lsA hP hS hL)
theorem xs_lmul (X : xCtx p l e s m args below meth c D cI cJ cD b base n0 scr M cs) (hd : decode (mC M) pc = .ok (.lmul, 1)) (hK : ∀ ls st k n I L P, K Q ls st k n I L P → xAt p l e s m args below meth c D cI cJ cD b base n0 scr M Z (pc + 1) ls st k n I L P) (h : xpL st fun y st => xpL st fun x st => K Q ls (.long (x * y) :: st) k n I L P) : xAt p l e s m args below meth c D cI cJ cD b base n0 scr M Z pc ls st k n I L P := by
  obtain ⟨y, r1, e1, h1⟩ := xpL_e h
  subst e1
  obtain ⟨x, r2, e2, h2⟩ := xpL_e h1
  subst e2
  intro hn hk hI hl H locs lsA hP hS hL
  exact lv_lmul X.1 X.2.1 hd (hK _ _ _ _ _ _ _ h2 hn hk hI hl H locs lsA hP hS hL)
theorem xs_land (X : xCtx p l e s m args below meth c D cI cJ cD b base n0 scr M cs) (hd : decode (mC M) pc = .ok (.land, 1)) (hK : ∀ ls st k n I L P, K Q ls st k n I L P → xAt p l e s m args below meth c D cI cJ cD b base n0 scr M Z (pc + 1) ls st k n I L P) (h : xpL st fun y st => xpL st fun x st => K Q ls (.long (x &&& y) :: st) k n I L P) : xAt p l e s m args below meth c D cI cJ cD b base n0 scr M Z pc ls st k n I L P := by
  obtain ⟨y, r1, e1, h1⟩ := xpL_e h
  subst e1
  obtain ⟨x, r2, e2, h2⟩ := xpL_e h1
  subst e2
  intro hn hk hI hl H locs lsA hP hS hL
  exact lv_land X.1 X.2.1 hd (hK _ _ _ _ _ _ _ h2 hn hk hI hl H locs lsA hP hS hL)
theorem xs_lor (X : xCtx p l e s m args below meth c D cI cJ cD b base n0 scr M cs) (hd : decode (mC M) pc = .ok (.lor, 1)) (hK : ∀ ls st k n I L P, K Q ls st k n I L P → xAt p l e s m args below meth c D cI cJ cD b base n0 scr M Z (pc + 1) ls st k n I L P) (h : xpL st fun y st => xpL st fun x st => K Q ls (.long (x ||| y) :: st) k n I L P) : xAt p l e s m args below meth c D cI cJ cD b base n0 scr M Z pc ls st k n I L P := by
  obtain ⟨y, r1, e1, h1⟩ := xpL_e h
  subst e1
  obtain ⟨x, r2, e2, h2⟩ := xpL_e h1
  subst e2
  intro hn hk hI hl H locs lsA hP hS hL
  exact lv_lor X.1 X.2.1 hd (hK _ _ _ _ _ _ _ h2 hn hk hI hl H locs lsA hP hS hL)
theorem xs_lxor (X : xCtx p l e s m args below meth c D cI cJ cD b base n0 scr M cs) (hd : decode (mC M) pc = .ok (.lxor, 1)) (hK : ∀ ls st k n I L P, K Q ls st k n I L P → xAt p l e s m args below meth c D cI cJ cD b base n0 scr M Z (pc + 1) ls st k n I L P) (h : xpL st fun y st => xpL st fun x st => K Q ls (.long (x ^^^ y) :: st) k n I L P) : xAt p l e s m args below meth c D cI cJ cD b base n0 scr M Z pc ls st k n I L P := by
  obtain ⟨y, r1, e1, h1⟩ := xpL_e h
  subst e1
  obtain ⟨x, r2, e2, h2⟩ := xpL_e h1
  subst e2
  intro hn hk hI hl H locs lsA hP hS hL
  exact lv_lxor X.1 X.2.1 hd (hK _ _ _ _ _ _ _ h2 hn hk hI hl H locs lsA hP hS hL)
theorem xs_lcmp (X : xCtx p l e s m args below meth c D cI cJ cD b base n0 scr M cs) (hd : decode (mC M) pc = .ok (.lcmp, 1)) (hK : ∀ ls st k n I L P, K Q ls st k n I L P → xAt p l e s m args below meth c D cI cJ cD b base n0 scr M Z (pc + 1) ls st k n I L P) (h : xpL st fun y st => xpL st fun x st => K Q ls (.int (lg_cmp x y) :: st) k n I L P) : xAt p l e s m args below meth c D cI cJ cD b base n0 scr M Z pc ls st k n I L P := by
  obtain ⟨y, r1, e1, h1⟩ := xpL_e h
  subst e1
  obtain ⟨x, r2, e2, h2⟩ := xpL_e h1
  subst e2
  intro hn hk hI hl H locs lsA hP hS hL
  exact W.lcmp X.1 X.2.1 hd (hK _ _ _ _ _ _ _ h2 hn hk hI hl H locs lsA hP hS hL)
theorem xs_iushr (X : xCtx p l e s m args below meth c D cI cJ cD b base n0 scr M cs) (hd : decode (mC M) pc = .ok (.iushr, 1)) (hK : ∀ ls st k n I L P, K Q ls st k n I L P → xAt p l e s m args below meth c D cI cJ cD b base n0 scr M Z (pc + 1) ls st k n I L P) (h : xpI st fun y st => xpI st fun x st => K Q ls (.int (x.toUInt32 >>> (y.toUInt32 &&& Int32.toUInt32 31)).toInt32 :: st) k n I L P) : xAt p l e s m args below meth c D cI cJ cD b base n0 scr M Z pc ls st k n I L P := by
  obtain ⟨y, r1, e1, h1⟩ := xpI_e h
  subst e1
  obtain ⟨x, r2, e2, h2⟩ := xpI_e h1
  subst e2
  intro hn hk hI hl H locs lsA hP hS hL
  exact lv_iushr X.1 X.2.1 hd rfl (hK _ _ _ _ _ _ _ h2 hn hk hI hl H locs lsA hP hS hL)
theorem xs_lushr (X : xCtx p l e s m args below meth c D cI cJ cD b base n0 scr M cs) (hd : decode (mC M) pc = .ok (.lushr, 1)) (hK : ∀ ls st k n I L P, K Q ls st k n I L P → xAt p l e s m args below meth c D cI cJ cD b base n0 scr M Z (pc + 1) ls st k n I L P) (h : xpI st fun y st => xpL st fun x st => K Q ls (.long (x.toUInt64 >>> (y.toInt64.toUInt64 &&& Int64.toUInt64 63)).toInt64 :: st) k n I L P) : xAt p l e s m args below meth c D cI cJ cD b base n0 scr M Z pc ls st k n I L P := by
  obtain ⟨y, r1, e1, h1⟩ := xpI_e h
  subst e1
  obtain ⟨x, r2, e2, h2⟩ := xpL_e h1
  subst e2
  intro hn hk hI hl H locs lsA hP hS hL
  exact lv_lushr X.1 X.2.1 hd rfl (hK _ _ _ _ _ _ _ h2 hn hk hI hl H locs lsA hP hS hL)
theorem xs_lshl (X : xCtx p l e s m args below meth c D cI cJ cD b base n0 scr M cs) (hd : decode (mC M) pc = .ok (.lshl, 1)) (hK : ∀ ls st k n I L P, K Q ls st k n I L P → xAt p l e s m args below meth c D cI cJ cD b base n0 scr M Z (pc + 1) ls st k n I L P) (h : xpI st fun y st => xpL st fun x st => K Q ls (.long (x <<< (y.toInt64 &&& 63)) :: st) k n I L P) : xAt p l e s m args below meth c D cI cJ cD b base n0 scr M Z pc ls st k n I L P := by
  obtain ⟨y, r1, e1, h1⟩ := xpI_e h
  subst e1
  obtain ⟨x, r2, e2, h2⟩ := xpL_e h1
  subst e2
  intro hn hk hI hl H locs lsA hP hS hL
  exact lv_lshl X.1 X.2.1 hd rfl (hK _ _ _ _ _ _ _ h2 hn hk hI hl H locs lsA hP hS hL)
theorem xs_idiv (X : xCtx p l e s m args below meth c D cI cJ cD b base n0 scr M cs) (hd : decode (mC M) pc = .ok (.idiv, 1)) (hK : ∀ ls st k n I L P, K Q ls st k n I L P → xAt p l e s m args below meth c D cI cJ cD b base n0 scr M Z (pc + 1) ls st k n I L P) (h : xpI st fun y st => xpI st fun x st => ¬ y = 0 ∧ K Q ls (.int (x / y) :: st) k n I L P) : xAt p l e s m args below meth c D cI cJ cD b base n0 scr M Z pc ls st k n I L P := by
  obtain ⟨y, r1, e1, h1⟩ := xpI_e h
  subst e1
  obtain ⟨x, r2, e2, h0, h2⟩ := xpI_e h1
  subst e2
  intro hn hk hI hl H locs lsA hP hS hL
  exact lv_idiv X.1 X.2.1 hd h0 (hK _ _ _ _ _ _ _ h2 hn hk hI hl H locs lsA hP hS hL)
theorem xs_irem (X : xCtx p l e s m args below meth c D cI cJ cD b base n0 scr M cs) (hd : decode (mC M) pc = .ok (.irem, 1)) (hK : ∀ ls st k n I L P, K Q ls st k n I L P → xAt p l e s m args below meth c D cI cJ cD b base n0 scr M Z (pc + 1) ls st k n I L P) (h : xpI st fun y st => xpI st fun x st => ¬ y = 0 ∧ K Q ls (.int (x - x / y * y) :: st) k n I L P) : xAt p l e s m args below meth c D cI cJ cD b base n0 scr M Z pc ls st k n I L P := by
  obtain ⟨y, r1, e1, h1⟩ := xpI_e h
  subst e1
  obtain ⟨x, r2, e2, h0, h2⟩ := xpI_e h1
  subst e2
  intro hn hk hI hl H locs lsA hP hS hL
  exact lv_irem X.1 X.2.1 hd h0 (hK _ _ _ _ _ _ _ h2 hn hk hI hl H locs lsA hP hS hL)
theorem xs_ldiv (X : xCtx p l e s m args below meth c D cI cJ cD b base n0 scr M cs) (hd : decode (mC M) pc = .ok (.ldiv, 1)) (hK : ∀ ls st k n I L P, K Q ls st k n I L P → xAt p l e s m args below meth c D cI cJ cD b base n0 scr M Z (pc + 1) ls st k n I L P) (h : xpL st fun y st => xpL st fun x st => ¬ y = 0 ∧ K Q ls (.long (x / y) :: st) k n I L P) : xAt p l e s m args below meth c D cI cJ cD b base n0 scr M Z pc ls st k n I L P := by
  obtain ⟨y, r1, e1, h1⟩ := xpL_e h
  subst e1
  obtain ⟨x, r2, e2, h0, h2⟩ := xpL_e h1
  subst e2
  intro hn hk hI hl H locs lsA hP hS hL
  exact lv_ldiv X.1 X.2.1 hd h0 (hK _ _ _ _ _ _ _ h2 hn hk hI hl H locs lsA hP hS hL)
theorem xs_lrem (X : xCtx p l e s m args below meth c D cI cJ cD b base n0 scr M cs) (hd : decode (mC M) pc = .ok (.lrem, 1)) (hK : ∀ ls st k n I L P, K Q ls st k n I L P → xAt p l e s m args below meth c D cI cJ cD b base n0 scr M Z (pc + 1) ls st k n I L P) (h : xpL st fun y st => xpL st fun x st => ¬ y = 0 ∧ K Q ls (.long (x - x / y * y) :: st) k n I L P) : xAt p l e s m args below meth c D cI cJ cD b base n0 scr M Z pc ls st k n I L P := by
  obtain ⟨y, r1, e1, h1⟩ := xpL_e h
  subst e1
  obtain ⟨x, r2, e2, h0, h2⟩ := xpL_e h1
  subst e2
  intro hn hk hI hl H locs lsA hP hS hL
  exact lv_lrem X.1 X.2.1 hd h0 (hK _ _ _ _ _ _ _ h2 hn hk hI hl H locs lsA hP hS hL)
theorem xs_i2l (X : xCtx p l e s m args below meth c D cI cJ cD b base n0 scr M cs) (hd : decode (mC M) pc = .ok (.i2l, 1)) (hK : ∀ ls st k n I L P, K Q ls st k n I L P → xAt p l e s m args below meth c D cI cJ cD b base n0 scr M Z (pc + 1) ls st k n I L P) (h : xpI st fun x st => K Q ls (.long x.toInt64 :: st) k n I L P) : xAt p l e s m args below meth c D cI cJ cD b base n0 scr M Z pc ls st k n I L P := by
  obtain ⟨x, r, rfl, h⟩ := xpI_e h
  intro hn hk hI hl H locs lsA hP hS hL
  exact lv_i2l X.1 X.2.1 hd rfl (hK _ _ _ _ _ _ _ h hn hk hI hl H locs lsA hP hS hL)
theorem xs_l2i (X : xCtx p l e s m args below meth c D cI cJ cD b base n0 scr M cs) (hd : decode (mC M) pc = .ok (.l2i, 1)) (hK : ∀ ls st k n I L P, K Q ls st k n I L P → xAt p l e s m args below meth c D cI cJ cD b base n0 scr M Z (pc + 1) ls st k n I L P) (h : xpL st fun x st => K Q ls (.int x.toInt32 :: st) k n I L P) : xAt p l e s m args below meth c D cI cJ cD b base n0 scr M Z pc ls st k n I L P := by
  obtain ⟨x, r, rfl, h⟩ := xpL_e h
  intro hn hk hI hl H locs lsA hP hS hL
  exact lv_l2i X.1 X.2.1 hd rfl (hK _ _ _ _ _ _ _ h hn hk hI hl H locs lsA hP hS hL)
theorem xs_i2b (X : xCtx p l e s m args below meth c D cI cJ cD b base n0 scr M cs) (hd : decode (mC M) pc = .ok (.i2b, 1)) (hK : ∀ ls st k n I L P, K Q ls st k n I L P → xAt p l e s m args below meth c D cI cJ cD b base n0 scr M Z (pc + 1) ls st k n I L P) (h : xpI st fun x st => K Q ls (.int x.toInt8.toInt32 :: st) k n I L P) : xAt p l e s m args below meth c D cI cJ cD b base n0 scr M Z pc ls st k n I L P := by
  obtain ⟨x, r, rfl, h⟩ := xpI_e h
  intro hn hk hI hl H locs lsA hP hS hL
  exact lv_i2b X.1 X.2.1 hd rfl (hK _ _ _ _ _ _ _ h hn hk hI hl H locs lsA hP hS hL)
theorem xs_pop (X : xCtx p l e s m args below meth c D cI cJ cD b base n0 scr M cs) (hd : decode (mC M) pc = .ok (.pop, 1)) (hK : ∀ ls st k n I L P, K Q ls st k n I L P → xAt p l e s m args below meth c D cI cJ cD b base n0 scr M Z (pc + 1) ls st k n I L P) (h : xp1 st fun _ st => K Q ls st k n I L P) : xAt p l e s m args below meth c D cI cJ cD b base n0 scr M Z pc ls st k n I L P := by
  obtain ⟨v, r, rfl, hv, hc, h⟩ := xp1_e h
  intro hn hk hI hl H locs lsA hP hS hL
  exact lv_pop X.1 X.2.1 hd (hc b base) (hK _ _ _ _ _ _ _ h hn hk hI hl H locs lsA hP hS hL)
theorem xs_dup (X : xCtx p l e s m args below meth c D cI cJ cD b base n0 scr M cs) (hd : decode (mC M) pc = .ok (.dup, 1)) (hK : ∀ ls st k n I L P, K Q ls st k n I L P → xAt p l e s m args below meth c D cI cJ cD b base n0 scr M Z (pc + 1) ls st k n I L P) (h : xp1 st fun v st => K Q ls (v :: v :: st) k n I L P) : xAt p l e s m args below meth c D cI cJ cD b base n0 scr M Z pc ls st k n I L P := by
  obtain ⟨v, r, rfl, hv, hc, h⟩ := xp1_e h
  intro hn hk hI hl H locs lsA hP hS hL
  exact lv_dup X.1 X.2.1 hd (hc b base) (hK _ _ _ _ _ _ _ h hn hk hI hl H locs lsA hP hS hL)
theorem xs_dup2 (X : xCtx p l e s m args below meth c D cI cJ cD b base n0 scr M cs) (hd : decode (mC M) pc = .ok (.dup2, 1)) (hK : ∀ ls st k n I L P, K Q ls st k n I L P → xAt p l e s m args below meth c D cI cJ cD b base n0 scr M Z (pc + 1) ls st k n I L P) (h : xp1 st fun v st => xp1 st fun w st => K Q ls (v :: w :: v :: w :: st) k n I L P) : xAt p l e s m args below meth c D cI cJ cD b base n0 scr M Z pc ls st k n I L P := by
  obtain ⟨v, r1, e1, hv, hc, h1⟩ := xp1_e h
  subst e1
  obtain ⟨w, r2, e2, hv2, hc2, h2⟩ := xp1_e h1
  subst e2
  intro hn hk hI hl H locs lsA hP hS hL
  exact lv_dup2_11 X.1 X.2.1 hd (hc b base) (hc2 b base) (hK _ _ _ _ _ _ _ h2 hn hk hI hl H locs lsA hP hS hL)
theorem xs_null (X : xCtx p l e s m args below meth c D cI cJ cD b base n0 scr M cs) (hd : decode (mC M) pc = .ok (.aconst_null, 1)) (hK : ∀ ls st k n I L P, K Q ls st k n I L P → xAt p l e s m args below meth c D cI cJ cD b base n0 scr M Z (pc + 1) ls st k n I L P) (h : K Q ls (.null :: st) k n I L P) : xAt p l e s m args below meth c D cI cJ cD b base n0 scr M Z pc ls st k n I L P := by
  intro hn hk hI hl H locs lsA hP hS hL
  exact lv_null X.1 X.2.1 hd (hK _ _ _ _ _ _ _ h hn hk hI hl H locs lsA hP hS hL)
theorem xs_iconst (X : xCtx p l e s m args below meth c D cI cJ cD b base n0 scr M cs) {i : Int} {a : Nat} (ha : i.natAbs = a) (hd : decode (mC M) pc = .ok (.iconst i, 1)) (hK : ∀ ls st k n I L P, K Q ls st k n I L P → xAt p l e s m args below meth c D cI cJ cD b base n0 scr M Z (pc + 1) ls st k n I L P) (h : xci i a fun v => K Q ls (.int v :: st) k n I L P) : xAt p l e s m args below meth c D cI cJ cD b base n0 scr M Z pc ls st k n I L P := by
  have h := xci_e h ha
  intro hn hk hI hl H locs lsA hP hS hL
  exact lv_iconst X.1 X.2.1 hd rfl (hK _ _ _ _ _ _ _ h hn hk hI hl H locs lsA hP hS hL)
theorem xs_bipush (X : xCtx p l e s m args below meth c D cI cJ cD b base n0 scr M cs) {i : Int} {a : Nat} (ha : i.natAbs = a) (hr : a < 129) (hr2 : i < 128) (hd : decode (mC M) pc = .ok (.bipush i, 2)) (hK : ∀ ls st k n I L P, K Q ls st k n I L P → xAt p l e s m args below meth c D cI cJ cD b base n0 scr M Z (pc + 2) ls st k n I L P) (h : xci i a fun v => K Q ls (.int v :: st) k n I L P) : xAt p l e s m args below meth c D cI cJ cD b base n0 scr M Z pc ls st k n I L P := by
  have h := xci_e h ha
  intro hn hk hI hl H locs lsA hP hS hL
  exact lv_bipush X.1 X.2.1 hd (xby (by omega) hr2) (hK _ _ _ _ _ _ _ h hn hk hI hl H locs lsA hP hS hL)
theorem xs_sipush (X : xCtx p l e s m args below meth c D cI cJ cD b base n0 scr M cs) {i : Int} {a : Nat} (ha : i.natAbs = a) (hr : a < 32769) (hr2 : i < 32768) (hd : decode (mC M) pc = .ok (.sipush i, 3)) (hK : ∀ ls st k n I L P, K Q ls st k n I L P → xAt p l e s m args below meth c D cI cJ cD b base n0 scr M Z (pc + 3) ls st k n I L P) (h : xci i a fun v => K Q ls (.int v :: st) k n I L P) : xAt p l e s m args below meth c D cI cJ cD b base n0 scr M Z pc ls st k n I L P := by
  have h := xci_e h ha
  intro hn hk hI hl H locs lsA hP hS hL
  exact lv_sipush X.1 X.2.1 hd (xsh (by omega) hr2) (hK _ _ _ _ _ _ _ h hn hk hI hl H locs lsA hP hS hL)
theorem xs_lconst (X : xCtx p l e s m args below meth c D cI cJ cD b base n0 scr M cs) {i : Fin 2} {a : Nat} (ha : i.val = a) (hd : decode (mC M) pc = .ok (.lconst i, 1)) (hK : ∀ ls st k n I L P, K Q ls st k n I L P → xAt p l e s m args below meth c D cI cJ cD b base n0 scr M Z (pc + 1) ls st k n I L P) (h : K Q ls (.long (lN a) :: st) k n I L P) : xAt p l e s m args below meth c D cI cJ cD b base n0 scr M Z pc ls st k n I L P := by
  subst ha
  intro hn hk hI hl H locs lsA hP hS hL
  exact lv_lconst X.1 X.2.1 hd rfl (hK _ _ _ _ _ _ _ h hn hk hI hl H locs lsA hP hS hL)
theorem xs_ldc (X : xCtx p l e s m args below meth c D cI cJ cD b base n0 scr M cs) {i a : Nat} (hw : Cond.constant (mY M).cls i (nI a) ∈ xG) (hd : decode (mC M) pc = .ok (.ldc i, 2)) (hK : ∀ ls st k n I L P, K Q ls st k n I L P → xAt p l e s m args below meth c D cI cJ cD b base n0 scr M Z (pc + 2) ls st k n I L P) (h : K Q ls (.int (nI a) :: st) k n I L P) : xAt p l e s m args below meth c D cI cJ cD b base n0 scr M Z pc ls st k n I L P := by
  intro hn hk hI hl H locs lsA hP hS hL
  exact lv_ldc X.1 X.2.1 X.2.2.2.1 (X.2.2.2.2.1 _ hw) hd (hK _ _ _ _ _ _ _ h hn hk hI hl H locs lsA hP hS hL)
theorem xs_ldcw (X : xCtx p l e s m args below meth c D cI cJ cD b base n0 scr M cs) {i a : Nat} (hw : Cond.constant (mY M).cls i (nI a) ∈ xG) (hd : decode (mC M) pc = .ok (.ldc_w i, 3)) (hK : ∀ ls st k n I L P, K Q ls st k n I L P → xAt p l e s m args below meth c D cI cJ cD b base n0 scr M Z (pc + 3) ls st k n I L P) (h : K Q ls (.int (nI a) :: st) k n I L P) : xAt p l e s m args below meth c D cI cJ cD b base n0 scr M Z pc ls st k n I L P := by
  intro hn hk hI hl H locs lsA hP hS hL
  exact lv_ldcw X.1 X.2.1 X.2.2.2.1 (X.2.2.2.2.1 _ hw) hd (hK _ _ _ _ _ _ _ h hn hk hI hl H locs lsA hP hS hL)
theorem xs_ldc2 (X : xCtx p l e s m args below meth c D cI cJ cD b base n0 scr M cs) {i a c9 : Nat} (hw : Cond.constantLong (mY M).cls i (xcv c9 a) ∈ xG) (hd : decode (mC M) pc = .ok (.ldc2_w i, 3)) (hK : ∀ ls st k n I L P, K Q ls st k n I L P → xAt p l e s m args below meth c D cI cJ cD b base n0 scr M Z (pc + 3) ls st k n I L P) (h : xcl c9 a fun v => K Q ls (.long v :: st) k n I L P) : xAt p l e s m args below meth c D cI cJ cD b base n0 scr M Z pc ls st k n I L P := by
  have h := xcl_e h
  intro hn hk hI hl H locs lsA hP hS hL
  exact lv_ldc2 X.1 X.2.1 X.2.2.2.1 (X.2.2.2.2.1 _ hw) hd (hK _ _ _ _ _ _ _ h hn hk hI hl H locs lsA hP hS hL)
theorem xs_iload (X : xCtx p l e s m args below meth c D cI cJ cD b base n0 scr M cs) {i a : Nat} (ha : i = a) (hd : decode (mC M) pc = .ok (.iload i, 2)) (hK : ∀ ls st k n I L P, K Q ls st k n I L P → xAt p l e s m args below meth c D cI cJ cD b base n0 scr M Z (pc + 2) ls st k n I L P) (h : xgt ls a fun v => xpI [v] fun x _ => K Q ls (.int x :: st) k n I L P) : xAt p l e s m args below meth c D cI cJ cD b base n0 scr M Z pc ls st k n I L P := by
  subst ha
  obtain ⟨v, hv, h⟩ := xgt_e h
  obtain ⟨x, r, hx, h⟩ := xpI_e h
  cases hx
  intro hn hk hI hl H locs lsA hP hS hL
  exact lv_iload X.1 X.2.1 hd (hL.2.2 _ _ hv) (hK _ _ _ _ _ _ _ h hn hk hI hl H locs lsA hP hS hL)
theorem xs_iload_n (X : xCtx p l e s m args below meth c D cI cJ cD b base n0 scr M cs) {i : Fin 4} {a : Nat} (ha : i.val = a) (hd : decode (mC M) pc = .ok (.iload_n i, 1)) (hK : ∀ ls st k n I L P, K Q ls st k n I L P → xAt p l e s m args below meth c D cI cJ cD b base n0 scr M Z (pc + 1) ls st k n I L P) (h : xgt ls a fun v => xpI [v] fun x _ => K Q ls (.int x :: st) k n I L P) : xAt p l e s m args below meth c D cI cJ cD b base n0 scr M Z pc ls st k n I L P := by
  obtain ⟨v, hv, h⟩ := xgt_e h
  obtain ⟨x, r, hx, h⟩ := xpI_e h
  cases hx
  intro hn hk hI hl H locs lsA hP hS hL
  exact lv_iload_n X.1 X.2.1 hd ha (hL.2.2 _ _ hv) (hK _ _ _ _ _ _ _ h hn hk hI hl H locs lsA hP hS hL)
theorem xs_lload (X : xCtx p l e s m args below meth c D cI cJ cD b base n0 scr M cs) {i a : Nat} (ha : i = a) (hd : decode (mC M) pc = .ok (.lload i, 2)) (hK : ∀ ls st k n I L P, K Q ls st k n I L P → xAt p l e s m args below meth c D cI cJ cD b base n0 scr M Z (pc + 2) ls st k n I L P) (h : xgt ls a fun v => xpL [v] fun x _ => K Q ls (.long x :: st) k n I L P) : xAt p l e s m args below meth c D cI cJ cD b base n0 scr M Z pc ls st k n I L P := by
  subst ha
  obtain ⟨v, hv, h⟩ := xgt_e h
  obtain ⟨x, r, hx, h⟩ := xpL_e h
  cases hx
  intro hn hk hI hl H locs lsA hP hS hL
  exact lv_lload X.1 X.2.1 hd (hL.2.2 _ _ hv) (hK _ _ _ _ _ _ _ h hn hk hI hl H locs lsA hP hS hL)
theorem xs_lload_n (X : xCtx p l e s m args below meth c D cI cJ cD b base n0 scr M cs) {i : Fin 4} {a : Nat} (ha : i.val = a) (hd : decode (mC M) pc = .ok (.lload_n i, 1)) (hK : ∀ ls st k n I L P, K Q ls st k n I L P → xAt p l e s m args below meth c D cI cJ cD b base n0 scr M Z (pc + 1) ls st k n I L P) (h : xgt ls a fun v => xpL [v] fun x _ => K Q ls (.long x :: st) k n I L P) : xAt p l e s m args below meth c D cI cJ cD b base n0 scr M Z pc ls st k n I L P := by
  obtain ⟨v, hv, h⟩ := xgt_e h
  obtain ⟨x, r, hx, h⟩ := xpL_e h
  cases hx
  intro hn hk hI hl H locs lsA hP hS hL
  exact lv_lload_n X.1 X.2.1 hd ha (hL.2.2 _ _ hv) (hK _ _ _ _ _ _ _ h hn hk hI hl H locs lsA hP hS hL)
theorem xs_aload (X : xCtx p l e s m args below meth c D cI cJ cD b base n0 scr M cs) {i a : Nat} (ha : i = a) (hd : decode (mC M) pc = .ok (.aload i, 2)) (hK : ∀ ls st k n I L P, K Q ls st k n I L P → xAt p l e s m args below meth c D cI cJ cD b base n0 scr M Z (pc + 2) ls st k n I L P) (h : xgt ls a fun v => xpN [v] (fun _ => K Q ls (.null :: st) k n I L P) fun x _ => K Q ls (.ref x :: st) k n I L P) : xAt p l e s m args below meth c D cI cJ cD b base n0 scr M Z pc ls st k n I L P := by
  subst ha
  obtain ⟨v, hv, h⟩ := xgt_e h
  rcases xpN_e h with ⟨r, hx, h⟩ | ⟨x, r, hx, h⟩
  · cases hx
    intro hn hk hI hl H locs lsA hP hS hL
    exact lv_aloadN X.1 X.2.1 hd (hL.2.2 _ _ hv) (hK _ _ _ _ _ _ _ h hn hk hI hl H locs lsA hP hS hL)
  · cases hx
    intro hn hk hI hl H locs lsA hP hS hL
    exact lv_aload X.1 X.2.1 hd (hL.2.2 _ _ hv) (hK _ _ _ _ _ _ _ h hn hk hI hl H locs lsA hP hS hL)
theorem xs_aload_n (X : xCtx p l e s m args below meth c D cI cJ cD b base n0 scr M cs) {i : Fin 4} {a : Nat} (ha : i.val = a) (hd : decode (mC M) pc = .ok (.aload_n i, 1)) (hK : ∀ ls st k n I L P, K Q ls st k n I L P → xAt p l e s m args below meth c D cI cJ cD b base n0 scr M Z (pc + 1) ls st k n I L P) (h : xgt ls a fun v => xpN [v] (fun _ => K Q ls (.null :: st) k n I L P) fun x _ => K Q ls (.ref x :: st) k n I L P) : xAt p l e s m args below meth c D cI cJ cD b base n0 scr M Z pc ls st k n I L P := by
  obtain ⟨v, hv, h⟩ := xgt_e h
  rcases xpN_e h with ⟨r, hx, h⟩ | ⟨x, r, hx, h⟩
  · cases hx
    intro hn hk hI hl H locs lsA hP hS hL
    exact lv_aload_nN X.1 X.2.1 hd ha (hL.2.2 _ _ hv) (hK _ _ _ _ _ _ _ h hn hk hI hl H locs lsA hP hS hL)
  · cases hx
    intro hn hk hI hl H locs lsA hP hS hL
    exact lv_aload_n X.1 X.2.1 hd ha (hL.2.2 _ _ hv) (hK _ _ _ _ _ _ _ h hn hk hI hl H locs lsA hP hS hL)
theorem xs_istore (X : xCtx p l e s m args below meth c D cI cJ cD b base n0 scr M cs) {i a : Nat} (ha : i = a) (hd : decode (mC M) pc = .ok (.istore i, 2)) (hK : ∀ ls st k n I L P, K Q ls st k n I L P → xAt p l e s m args below meth c D cI cJ cD b base n0 scr M Z (pc + 2) ls st k n I L P) (h : xpI st fun x st => xs1 (.int x) ls a fun ls => K Q ls st k n I L P) : xAt p l e s m args below meth c D cI cJ cD b base n0 scr M Z pc ls st k n I L P := by
  subst ha
  obtain ⟨x, r, rfl, h⟩ := xpI_e h
  obtain ⟨ls2, h, h1, h2, h4⟩ := xs1_e h
  intro hn hk hI hl H locs lsA hP hS hL
  exact lv_istore X.1 X.2.1 hd hL.has h2 rfl (fun lsB hB => hK _ _ _ _ _ _ _ h hn hk hI (h1.trans hl) H locs lsB hP hS (xLR.st1 h1 h4 hB))
theorem xs_istore_n (X : xCtx p l e s m args below meth c D cI cJ cD b base n0 scr M cs) {i : Fin 4} {a : Nat} (ha : i.val = a) (hd : decode (mC M) pc = .ok (.istore_n i, 1)) (hK : ∀ ls st k n I L P, K Q ls st k n I L P → xAt p l e s m args below meth c D cI cJ cD b base n0 scr M Z (pc + 1) ls st k n I L P) (h : xpI st fun x st => xs1 (.int x) ls a fun ls => K Q ls st k n I L P) : xAt p l e s m args below meth c D cI cJ cD b base n0 scr M Z pc ls st k n I L P := by
  obtain ⟨x, r, rfl, h⟩ := xpI_e h
  obtain ⟨ls2, h, h1, h2, h4⟩ := xs1_e h
  intro hn hk hI hl H locs lsA hP hS hL
  exact lv_istore_n X.1 X.2.1 hd ha hL.has h2 rfl (fun lsB hB => hK _ _ _ _ _ _ _ h hn hk hI (h1.trans hl) H locs lsB hP hS (xLR.st1 h1 h4 hB))
theorem xs_lstore (X : xCtx p l e s m args below meth c D cI cJ cD b base n0 scr M cs) {i a : Nat} (ha : i = a) (hd : decode (mC M) pc = .ok (.lstore i, 2)) (hK : ∀ ls st k n I L P, K Q ls st k n I L P → xAt p l e s m args below meth c D cI cJ cD b base n0 scr M Z (pc + 2) ls st k n I L P) (h : xpL st fun x st => xs2 (.long x) ls a fun ls => K Q ls st k n I L P) : xAt p l e s m args below meth c D cI cJ cD b base n0 scr M Z pc ls st k n I L P := by
  subst ha
  obtain ⟨x, r, rfl, h⟩ := xpL_e h
  obtain ⟨ls2, h, h1, h2, h4⟩ := xs2_e h
  intro hn hk hI hl H locs lsA hP hS hL
  exact lv_lstore X.1 X.2.1 hd hL.has h2 rfl (fun lsB hB => hK _ _ _ _ _ _ _ h hn hk hI (h1.trans hl) H locs lsB hP hS (xLR.st2 h1 h4 hB))
theorem xs_lstore_n (X : xCtx p l e s m args below meth c D cI cJ cD b base n0 scr M cs) {i : Fin 4} {a : Nat} (ha : i.val = a) (hd : decode (mC M) pc = .ok (.lstore_n i, 1)) (hK : ∀ ls st k n I L P, K Q ls st k n I L P → xAt p l e s m args below meth c D cI cJ cD b base n0 scr M Z (pc + 1) ls st k n I L P) (h : xpL st fun x st => xs2 (.long x) ls a fun ls => K Q ls st k n I L P) : xAt p l e s m args below meth c D cI cJ cD b base n0 scr M Z pc ls st k n I L P := by
  obtain ⟨x, r, rfl, h⟩ := xpL_e h
  obtain ⟨ls2, h, h1, h2, h4⟩ := xs2_e h
  intro hn hk hI hl H locs lsA hP hS hL
  exact lv_lstore_n X.1 X.2.1 hd ha hL.has h2 rfl (fun lsB hB => hK _ _ _ _ _ _ _ h hn hk hI (h1.trans hl) H locs lsB hP hS (xLR.st2 h1 h4 hB))
theorem xs_astore (X : xCtx p l e s m args below meth c D cI cJ cD b base n0 scr M cs) {i a : Nat} (ha : i = a) (hd : decode (mC M) pc = .ok (.astore i, 2)) (hK : ∀ ls st k n I L P, K Q ls st k n I L P → xAt p l e s m args below meth c D cI cJ cD b base n0 scr M Z (pc + 2) ls st k n I L P) (h : xpN st (fun st => xs1 .null ls a fun ls => K Q ls st k n I L P) fun x st => xs1 (.ref x) ls a fun ls => K Q ls st k n I L P) : xAt p l e s m args below meth c D cI cJ cD b base n0 scr M Z pc ls st k n I L P := by
  subst ha
  rcases xpN_e h with ⟨r, rfl, h⟩ | ⟨x, r, rfl, h⟩
  · obtain ⟨ls2, h, h1, h2, h4⟩ := xs1_e h
    intro hn hk hI hl H locs lsA hP hS hL
    exact lv_astoreN X.1 X.2.1 hd hL.has h2 rfl (fun lsB hB => hK _ _ _ _ _ _ _ h hn hk hI (h1.trans hl) H locs lsB hP hS (xLR.st1 h1 h4 hB))
  · obtain ⟨ls2, h, h1, h2, h4⟩ := xs1_e h
    intro hn hk hI hl H locs lsA hP hS hL
    exact lv_astore X.1 X.2.1 hd hL.has h2 rfl (fun lsB hB => hK _ _ _ _ _ _ _ h hn hk hI (h1.trans hl) H locs lsB hP hS (xLR.st1 h1 h4 hB))

theorem xs_astore_n (X : xCtx p l e s m args below meth c D cI cJ cD b base n0 scr M cs) {i : Fin 4} {a : Nat} (ha : i.val = a) (hd : decode (mC M) pc = .ok (.astore_n i, 1)) (hK : ∀ ls st k n I L P, K Q ls st k n I L P → xAt p l e s m args below meth c D cI cJ cD b base n0 scr M Z (pc + 1) ls st k n I L P) (h : xpN st (fun st => xs1 .null ls a fun ls => K Q ls st k n I L P) fun x st => xs1 (.ref x) ls a fun ls => K Q ls st k n I L P) : xAt p l e s m args below meth c D cI cJ cD b base n0 scr M Z pc ls st k n I L P := by
  rcases xpN_e h with ⟨r, rfl, h⟩ | ⟨x, r, rfl, h⟩
  · obtain ⟨ls2, h, h1, h2, h4⟩ := xs1_e h
    intro hn hk hI hl H locs lsA hP hS hL
    exact lv_astore_nN X.1 X.2.1 hd ha hL.has h2 rfl (fun lsB hB => hK _ _ _ _ _ _ _ h hn hk hI (h1.trans hl) H locs lsB hP hS (xLR.st1 h1 h4 hB))
  · obtain ⟨ls2, h, h1, h2, h4⟩ := xs1_e h
    intro hn hk hI hl H locs lsA hP hS hL
    exact lv_astore_n X.1 X.2.1 hd ha hL.has h2 rfl (fun lsB hB => hK _ _ _ _ _ _ _ h hn hk hI (h1.trans hl) H locs lsB hP hS (xLR.st1 h1 h4 hB))

theorem xs_iinc (X : xCtx p l e s m args below meth c D cI cJ cD b base n0 scr M cs) {i a b9 : Nat} {d : Int} (ha : i = a) (hb9 : d.natAbs = b9) (hd : decode (mC M) pc = .ok (.iinc i d, 3)) (hK : ∀ ls st k n I L P, K Q ls st k n I L P → xAt p l e s m args below meth c D cI cJ cD b base n0 scr M Z (pc + 3) ls st k n I L P) (h : xgt ls a fun v => xpI [v] fun x _ => (match d with
  | .ofNat _ => xs1 (.int (x + nI b9)) ls a fun ls => K Q ls st k n I L P
  | .negSucc _ => xs1 (.int (x - nI b9)) ls a fun ls => K Q ls st k n I L P)) : xAt p l e s m args below meth c D cI cJ cD b base n0 scr M Z pc ls st k n I L P := by
  subst ha
  obtain ⟨v, hv, h⟩ := xgt_e h
  obtain ⟨x, r, hx, h⟩ := xpI_e h
  cases hx
  have h : xs1 (.int (x + Int32.ofInt d)) ls i fun ls => K Q ls st k n I L P := by
    subst hb9
    cases d with
    | ofNat j =>
      rw [show Int32.ofInt (Int.ofNat j) = nI (Int.ofNat j).natAbs from Int32.ofInt_eq_ofNat]
      exact h
    | negSucc j =>
      have e1 : Int32.ofInt (Int.negSucc j) = -(nI (Int.negSucc j).natAbs) := xci_e (i := Int.negSucc j) (k := fun z => z = -(nI (Int.negSucc j).natAbs)) rfl rfl
      rw [e1, ← Int32.sub_eq_add_neg]
      exact h
  obtain ⟨ls2, h, h1, h2, h4⟩ := xs1_e h
  intro hn hk hI hl H locs lsA hP hS hL
  obtain ⟨q, hq⟩ := List.getElem?_of_mem (xas_mem (b := b) (base := base) hv)
  exact lv_iinc X.1 X.2.1 hd hL.has (k := q) hq rfl h2 rfl (fun lsB hB => hK _ _ _ _ _ _ _ h hn hk hI (h1.trans hl) H locs lsB hP hS (xLR.st1 h1 h4 hB))
theorem xs_goto (X : xCtx p l e s m args below meth c D cI cJ cD b base n0 scr M cs) {off : Int} {a : Nat} (ht : (pc : Int) + off = (a : Int)) (hd : decode (mC M) pc = .ok (.goto off, 3)) (hJ : ∀ ls st k n I L P, J a Q ls st k n I L P → xAt p l e s m args below meth c D cI cJ cD b base n0 scr M Z a ls st k n I L P) (h : J a Q ls st k n I L P) : xAt p l e s m args below meth c D cI cJ cD b base n0 scr M Z pc ls st k n I L P := by
  intro hn hk hI hl H locs lsA hP hS hL
  exact lv_goto X.1 X.2.1 hd ht (hJ _ _ _ _ _ _ _ h hn hk hI hl H locs lsA hP hS hL)
theorem xs_icmp (X : xCtx p l e s m args below meth c D cI cJ cD b base n0 scr M cs) {cnd : ClassFile.Cond} {off : Int} {a : Nat} (ht : (pc : Int) + off = (a : Int)) (hd : decode (mC M) pc = .ok (.if_icmp cnd off, 3)) (hK : ∀ ls st k n I L P, K Q ls st k n I L P → xAt p l e s m args below meth c D cI cJ cD b base n0 scr M Z (pc + 3) ls st k n I L P) (hJ : ∀ ls st k n I L P, J a Q ls st k n I L P → xAt p l e s m args below meth c D cI cJ cD b base n0 scr M Z a ls st k n I L P) (h : xpI st fun y st => xpI st fun x st => xcmp cnd x y (J a Q ls st k n I L P) (K Q ls st k n I L P)) : xAt p l e s m args below meth c D cI cJ cD b base n0 scr M Z pc ls st k n I L P := by
  obtain ⟨y, r1, e1, h1⟩ := xpI_e h
  subst e1
  obtain ⟨x, r2, e2, h2⟩ := xpI_e h1
  subst e2
  intro hn hk hI hl H locs lsA hP hS hL
  cases cnd
  case eq => exact lv_icmp_eq X.1 X.2.1 hd ht (fun q => hJ _ _ _ _ _ _ _ (h2.1 q) hn hk hI hl H locs lsA hP hS hL) (fun q => hK _ _ _ _ _ _ _ (h2.2 q) hn hk hI hl H locs lsA hP hS hL)
  case ne => exact lv_icmp_ne X.1 X.2.1 hd ht (fun q => hJ _ _ _ _ _ _ _ (h2.2 q) hn hk hI hl H locs lsA hP hS hL) (fun q => hK _ _ _ _ _ _ _ (h2.1 q) hn hk hI hl H locs lsA hP hS hL)
  case lt => exact lv_icmp_lt X.1 X.2.1 hd ht (fun q => hJ _ _ _ _ _ _ _ (h2.1 q) hn hk hI hl H locs lsA hP hS hL) (fun q => hK _ _ _ _ _ _ _ (h2.2 q) hn hk hI hl H locs lsA hP hS hL)
  case ge => exact lv_icmp_ge X.1 X.2.1 hd ht (fun q => hJ _ _ _ _ _ _ _ (h2.1 q) hn hk hI hl H locs lsA hP hS hL) (fun q => hK _ _ _ _ _ _ _ (h2.2 q) hn hk hI hl H locs lsA hP hS hL)
  case gt => exact lv_icmp_gt X.1 X.2.1 hd ht (fun q => hJ _ _ _ _ _ _ _ (h2.1 q) hn hk hI hl H locs lsA hP hS hL) (fun q => hK _ _ _ _ _ _ _ (h2.2 q) hn hk hI hl H locs lsA hP hS hL)
  case le => exact lv_icmp_le X.1 X.2.1 hd ht (fun q => hJ _ _ _ _ _ _ _ (h2.1 q) hn hk hI hl H locs lsA hP hS hL) (fun q => hK _ _ _ _ _ _ _ (h2.2 q) hn hk hI hl H locs lsA hP hS hL)

theorem xs_if (X : xCtx p l e s m args below meth c D cI cJ cD b base n0 scr M cs) {cnd : ClassFile.Cond} {off : Int} {a : Nat} (ht : (pc : Int) + off = (a : Int)) (hd : decode (mC M) pc = .ok (.ifCond cnd off, 3)) (hK : ∀ ls st k n I L P, K Q ls st k n I L P → xAt p l e s m args below meth c D cI cJ cD b base n0 scr M Z (pc + 3) ls st k n I L P) (hJ : ∀ ls st k n I L P, J a Q ls st k n I L P → xAt p l e s m args below meth c D cI cJ cD b base n0 scr M Z a ls st k n I L P) (h : xpI st fun x st => xcmp cnd x 0 (J a Q ls st k n I L P) (K Q ls st k n I L P)) : xAt p l e s m args below meth c D cI cJ cD b base n0 scr M Z pc ls st k n I L P := by
  obtain ⟨x, r, rfl, h⟩ := xpI_e h
  intro hn hk hI hl H locs lsA hP hS hL
  cases cnd
  case eq => exact lv_if_eq X.1 X.2.1 hd ht (fun q => hJ _ _ _ _ _ _ _ (h.1 q) hn hk hI hl H locs lsA hP hS hL) (fun q => hK _ _ _ _ _ _ _ (h.2 q) hn hk hI hl H locs lsA hP hS hL)
  case ne => exact lv_if_ne X.1 X.2.1 hd ht (fun q => hJ _ _ _ _ _ _ _ (h.2 q) hn hk hI hl H locs lsA hP hS hL) (fun q => hK _ _ _ _ _ _ _ (h.1 q) hn hk hI hl H locs lsA hP hS hL)
  case lt => exact lv_if_lt X.1 X.2.1 hd ht (fun q => hJ _ _ _ _ _ _ _ (h.1 q) hn hk hI hl H locs lsA hP hS hL) (fun q => hK _ _ _ _ _ _ _ (h.2 q) hn hk hI hl H locs lsA hP hS hL)
  case ge => exact lv_if_ge X.1 X.2.1 hd ht (fun q => hJ _ _ _ _ _ _ _ (h.1 q) hn hk hI hl H locs lsA hP hS hL) (fun q => hK _ _ _ _ _ _ _ (h.2 q) hn hk hI hl H locs lsA hP hS hL)
  case gt => exact lv_if_gt X.1 X.2.1 hd ht (fun q => hJ _ _ _ _ _ _ _ (h.1 q) hn hk hI hl H locs lsA hP hS hL) (fun q => hK _ _ _ _ _ _ _ (h.2 q) hn hk hI hl H locs lsA hP hS hL)
  case le => exact lv_if_le X.1 X.2.1 hd ht (fun q => hJ _ _ _ _ _ _ _ (h.1 q) hn hk hI hl H locs lsA hP hS hL) (fun q => hK _ _ _ _ _ _ _ (h.2 q) hn hk hI hl H locs lsA hP hS hL)

theorem xs_ifnull (X : xCtx p l e s m args below meth c D cI cJ cD b base n0 scr M cs) {off : Int} {a : Nat} (ht : (pc : Int) + off = (a : Int)) (hd : decode (mC M) pc = .ok (.ifnull off, 3)) (hK : ∀ ls st k n I L P, K Q ls st k n I L P → xAt p l e s m args below meth c D cI cJ cD b base n0 scr M Z (pc + 3) ls st k n I L P) (hJ : ∀ ls st k n I L P, J a Q ls st k n I L P → xAt p l e s m args below meth c D cI cJ cD b base n0 scr M Z a ls st k n I L P) (h : xpN st (fun st => J a Q ls st k n I L P) fun _ st => K Q ls st k n I L P) : xAt p l e s m args below meth c D cI cJ cD b base n0 scr M Z pc ls st k n I L P := by
  rcases xpN_e h with ⟨r, rfl, h⟩ | ⟨x, r, rfl, h⟩
  · intro hn hk hI hl H locs lsA hP hS hL
    exact lv_ifnullN X.1 X.2.1 hd ht (hJ _ _ _ _ _ _ _ h hn hk hI hl H locs lsA hP hS hL)
  · intro hn hk hI hl H locs lsA hP hS hL
    exact lv_ifnull X.1 X.2.1 hd (hK _ _ _ _ _ _ _ h hn hk hI hl H locs lsA hP hS hL)
theorem xs_ifnonnull (X : xCtx p l e s m args below meth c D cI cJ cD b base n0 scr M cs) {off : Int} {a : Nat} (ht : (pc : Int) + off = (a : Int)) (hd : decode (mC M) pc = .ok (.ifnonnull off, 3)) (hK : ∀ ls st k n I L P, K Q ls st k n I L P → xAt p l e s m args below meth c D cI cJ cD b base n0 scr M Z (pc + 3) ls st k n I L P) (hJ : ∀ ls st k n I L P, J a Q ls st k n I L P → xAt p l e s m args below meth c D cI cJ cD b base n0 scr M Z a ls st k n I L P) (h : xpN st (fun st => K Q ls st k n I L P) fun _ st => J a Q ls st k n I L P) : xAt p l e s m args below meth c D cI cJ cD b base n0 scr M Z pc ls st k n I L P := by
  rcases xpN_e h with ⟨r, rfl, h⟩ | ⟨x, r, rfl, h⟩
  · intro hn hk hI hl H locs lsA hP hS hL
    exact lv_ifnonnullN X.1 X.2.1 hd (hK _ _ _ _ _ _ _ h hn hk hI hl H locs lsA hP hS hL)
  · intro hn hk hI hl H locs lsA hP hS hL
    exact lv_ifnonnull X.1 X.2.1 hd ht (hJ _ _ _ _ _ _ _ h hn hk hI hl H locs lsA hP hS hL)
end STEPS
end
section
/-! the steps that read, write, make cells -/
section CELLS
variable {p : Program} {l : Launch} {e : Env} {s : State} {m : MethodId} {args : Array Value} {below : List Frame} {meth : Method} {c : Code} {D : va_G} {cI cJ cD : ClassId} {b base n0 : Nat} {scr : Nat → Int32} {M : xM} {cs : xCs} {Q : xQ} {Z : State → Prop}
variable {pc : Nat} {K : xK} {J : Nat → xK} {ls : xV} {st : List Value} {k n : Nat} {I : xI} {L : xL} {P : xR}
theorem xand {a b : Bool} (h : (a && b) = true) : a = true ∧ b = true := by simpa using h
theorem xar_e {r n t : Nat} {k : Nat → Prop} (h : xar (r + 1) n t k) : r < n ∧ Nat.beq (xSh (r + 1)).1 t = true ∧ k (xSh (r + 1)).2 := by
  unfold xar at h
  cases hr : Nat.blt r n with
  | true =>
    simp only [hr] at h
    split at h
    · rename_i heq
      exact ⟨xblt hr, heq, h⟩
    · exact absurd h (fun q => q)
  | false => simp only [hr] at h
theorem xal_e {r n : Nat} {k : Nat → Prop} (h : xal (r + 1) n k) : r < n ∧ 0 < (xSh (r + 1)).1 ∧ k (xSh (r + 1)).2 := by
  unfold xal at h
  cases hr : Nat.blt r n with
  | true =>
    simp only [hr] at h
    split at h
    · rename_i heq
      exact ⟨xblt hr, xblt heq, h⟩
    · exact absurd h (fun q => q)
  | false => simp only [hr] at h
theorem xmc {α : Type} {a : α} {b : α} {c : Prop} (h : xT true c) : c := h
/-- a class of vwCl: its words, its fields' types -/
theorem xcls {a : Nat} {q : vw_C} (h : vwCl[a]? = some q) : (∀ w ∈ u_ws q.1 q.2.1 q.2.2, w ∈ xG) ∧ q.2.2 = xNf a ∧ (∀ i, i < q.2.2 → ∀ j, j < q.2.2 → i ≠ j → (q.2.1 i).2.1 ≠ (q.2.1 j).2.1) ∧
    ∃ ty : Nat → FieldType, (∀ k, k < q.2.2 → parseFieldDescriptor (q.2.1 k).2.2.1 = some (ty k)) ∧ ∀ k, k < q.2.2 → (match xKd a k with
      | 0 => ty k = .int
      | 1 => ty k = .long
      | _ => (∃ C, ty k = .object C) ∨ ∃ t, ty k = .array t) := by
  match a, h with
  | 0, h => cases h; exact ⟨xin0, rfl, nmX0, tyX0, tyX0_ok, by intro k hk; match k, hk with | 0, _ => exact rfl | 1, _ => exact rfl⟩
  | 1, h => cases h; exact ⟨xin1, rfl, nmX1, tyX1, tyX1_ok, by intro k hk; match k, hk with | 0, _ => exact Or.inr ⟨_, rfl⟩ | 1, _ => exact rfl | 2, _ => exact rfl | 3, _ => exact rfl⟩
  | 2, h => cases h; exact ⟨xin2, rfl, nmX2, tyX2, tyX2_ok, by intro k hk; match k, hk with | 0, _ => exact Or.inr ⟨_, rfl⟩⟩
  | 3, h => cases h; exact ⟨xin3, rfl, nmX5, tyX5, tyX5_ok, by intro k hk; match k, hk with | 0, _ => exact rfl | 1, _ => exact rfl | 2, _ => exact rfl | 3, _ => exact rfl | 4, _ => exact rfl⟩
  | 4, h => cases h; exact ⟨xin4, rfl, nmX6, tyX6, tyX6_ok, by intro k hk; match k, hk with | 0, _ => exact Or.inr ⟨_, rfl⟩ | 1, _ => exact Or.inl ⟨_, rfl⟩ | 2, _ => exact rfl | 3, _ => exact rfl | 4, _ => exact rfl⟩
  | 5, h => cases h; exact ⟨xin5, rfl, nmX8, tyX8, tyX8_ok, by intro k hk; match k, hk with | 0, _ => exact rfl | 1, _ => exact Or.inr ⟨_, rfl⟩ | 2, _ => exact Or.inr ⟨_, rfl⟩⟩
  | 6, h => cases h; exact ⟨xin6, rfl, nmX9, tyX9, tyX9_ok, by intro k hk; match k, hk with | 0, _ => exact Or.inr ⟨_, rfl⟩⟩
  | 7, h => cases h; exact ⟨xin7, rfl, nmX10, tyX10, tyX10_ok, by
      intro k hk
      match k, hk with
      | 0, _ => exact Or.inl ⟨_, rfl⟩
      | 1, _ => exact Or.inl ⟨_, rfl⟩
      | 2, _ => exact Or.inl ⟨_, rfl⟩
      | 3, _ => exact Or.inl ⟨_, rfl⟩
      | 4, _ => exact Or.inl ⟨_, rfl⟩
      | 5, _ => exact Or.inr ⟨_, rfl⟩
      | 6, _ => exact Or.inl ⟨_, rfl⟩
      | 7, _ => exact Or.inl ⟨_, rfl⟩
      | 8, _ => exact Or.inl ⟨_, rfl⟩
      | 9, _ => exact Or.inr ⟨_, rfl⟩
      | 10, _ => exact rfl
      | 11, _ => exact rfl⟩
  | 8, h => cases h; exact ⟨xin8, rfl, nmX11, tyX11, tyX11_ok, by
      intro k hk
      have hk : k < 32 := hk
      have key : ∀ k, k < 32 → (xKd 8 k = 0 ∧ tyX11 k = .int) ∨ (xKd 8 k = 1 ∧ tyX11 k = .long) ∨ (xKd 8 k = 2 ∧ (tyX11 k = .array .int ∨ tyX11 k = .array .long)) := by decide +kernel
      rcases key k hk with ⟨h1, h2⟩ | ⟨h1, h2⟩ | ⟨h1, h2⟩
      · rw [h1]; exact h2
      · rw [h1]; exact h2
      · rw [h1]; exact Or.inr (h2.elim (fun q => ⟨_, q⟩) (fun q => ⟨_, q⟩))⟩
  | a + 9, h => simp [vwCl] at h
theorem xcl_some {a b9 : Nat} (h : b9 < xNf a) : vwCl[a]? = some (vwCl.getD a (RX0, TX0, 0)) := by
  match a, h with
  | 0, _ => rfl
  | 1, _ => rfl
  | 2, _ => rfl
  | 3, _ => rfl
  | 4, _ => rfl
  | 5, _ => rfl
  | 6, _ => rfl
  | 7, _ => rfl
  | 8, _ => rfl
  | a + 9, h => simp [xNf, xKdL] at h
theorem xent0 {r a : Nat} (h : (Nat.beq (xSh (r + 1)).1 0 && Nat.beq (xSh (r + 1)).2 a) = true) (b base : Nat) (cI cJ cD : ClassId) (I : xI) (L : xL) (P : xR) : xent b base cI cJ cD (r + 1) I L P = .inr (a, xfs b base a (r + 1) I L P) := by
  obtain ⟨h1, h2⟩ := xand h
  have h1 := xbeq h1
  have h2 := xbeq h2
  unfold xent
  rw [h1, h2]
  rfl
theorem xent1 {r : Nat} (h : Nat.beq (xSh (r + 1)).1 1 = true) (b base : Nat) (cI cJ cD : ClassId) (I : xI) (L : xL) (P : xR) : xent b base cI cJ cD (r + 1) I L P = .inl (cI, (xSh (r + 1)).2, .inl (I (r + 1))) := by
  unfold xent
  rw [xbeq h]
  rfl
theorem xent2 {r : Nat} (h : Nat.beq (xSh (r + 1)).1 2 = true) (b base : Nat) (cI cJ cD : ClassId) (I : xI) (L : xL) (P : xR) : xent b base cI cJ cD (r + 1) I L P = .inl (cJ, (xSh (r + 1)).2, .inr (.inl (L (r + 1)))) := by
  unfold xent
  rw [xbeq h]
  rfl
theorem xent3 {r : Nat} (h : Nat.beq (xSh (r + 1)).1 3 = true) (b base : Nat) (cI cJ cD : ClassId) (I : xI) (L : xL) (P : xR) : xent b base cI cJ cD (r + 1) I L P = .inl (cD, (xSh (r + 1)).2, .inr (.inr (.inr (.inr (fun j => xro b base (P (r + 1) j)))))) := by
  unfold xent
  rw [xbeq h]
  rfl
theorem xfs_at {b base a r j : Nat} (h : j < xNf a) (I : xI) (L : xL) (P : xR) : (xfs b base a r I L P)[j]? = some (xv b base (xfv a r j I L P)) := by
  simp [xfs, List.getElem?_map, List.getElem?_range h]
theorem xfs_len (b base a r : Nat) (I : xI) (L : xL) (P : xR) : (xfs b base a r I L P).length = xNf a := by simp [xfs]
theorem xfs_set {b base a r j : Nat} {v : Value} {I I' : xI} {L L' : xL} {P P' : xR} (hv : xv b base (xfv a r j I' L' P') = v) (ho : ∀ i, i ≠ j → i < xNf a → xfv a r i I' L' P' = xfv a r i I L P) : (xfs b base a r I L P).set j v = xfs b base a r I' L' P' := by
  apply List.ext_getElem?
  intro i
  by_cases hi : i < xNf a
  · rw [xfs_at hi]
    by_cases hij : i = j
    · subst hij
      rw [List.getElem?_set_self (by rw [xfs_len]; exact hi), hv]
    · rw [List.getElem?_set_ne (fun q => hij q.symm), xfs_at hi, ho i hij hi]
  · rw [List.getElem?_eq_none (by rw [List.length_set, xfs_len]; omega), List.getElem?_eq_none (by rw [xfs_len]; omega)]
theorem xup_s {α : Type} (I : Nat → Nat → α) (k j : Nat) (v : α) : xup I k j v k j = v := by simp [xup]
theorem xup_c {α : Type} (I : Nat → Nat → α) (k j : Nat) (v : α) {k' : Nat} (h : k' ≠ k) : xup I k j v k' = I k' := by simp [xup, h]
theorem xup_n {α : Type} (I : Nat → Nat → α) (k j : Nat) (v : α) {j' : Nat} (h : j' ≠ j) : xup I k j v k j' = I k j' := by simp [xup, h]
theorem xrw_s {α : Type} (I : Nat → Nat → α) (k : Nat) (f : Nat → α) : xrw I k f k = f := by simp [xrw]
theorem xrw_c {α : Type} (I : Nat → Nat → α) (k : Nat) (f : Nat → α) {k' : Nat} (h : k' ≠ k) : xrw I k f k' = I k' := by simp [xrw, h]
theorem xs_getfield (X : xCtx p l e s m args below meth c D cI cJ cD b base n0 scr M cs) {i a j c9 : Nat} (hj : j < xNf a) (hw : xGw (mY M).cls i a j c9) (hd : decode (mC M) pc = .ok (.getfield i, 3)) (hK : ∀ ls st k n I L P, K Q ls st k n I L P → xAt p l e s m args below meth c D cI cJ cD b base n0 scr M Z (pc + 3) ls st k n I L P)
    (h : xpR st fun r st => xT (xob r n a) (match xKd a j with
          | 0 => K Q ls (.int (I r j) :: st) k n I L P
          | 1 => K Q ls (.long (L r j) :: st) k n I L P
          | _ => (match P r j with
            | none => K Q ls (.null :: st) k n I L P
            | some q => K Q ls (.ref q :: st) k n I L P))) : xAt p l e s m args below meth c D cI cJ cD b base n0 scr M Z pc ls st k n I L P := by
  obtain ⟨r, st, e1, h⟩ := xpR_e h
  subst e1
  cases r with
  | zero => exact absurd h (fun q => q)
  | succ r =>
    obtain ⟨hc, h⟩ := xT_e h
    obtain ⟨hr, hc⟩ := xand hc
    have hr := xblt hr
    have h : K Q ls (xfv a (r + 1) j I L P :: st) k n I L P := by
      unfold xfv
      revert h
      generalize xKd a j = z
      intro h
      match z, h with
      | 0, h => exact h
      | 1, h => exact h
      | z + 2, h =>
        revert h
        show (match P (r + 1) j with
          | none => K Q ls (.null :: st) k n I L P
          | some q => K Q ls (.ref q :: st) k n I L P) → K Q ls (xrf (P (r + 1) j) :: st) k n I L P
        cases P (r + 1) j with
        | none => exact fun h => h
        | some q => exact fun h => h
    intro hn hk hI hl H locs lsA hP hS hL
    have hq := xcl_some hj
    obtain ⟨hu, hN, -, -⟩ := xcls hq
    have hat := xws_at (b := b) (base := base) (cI := cI) (cJ := cJ) (cD := cD) hr I L P
    rw [xent0 hc] at hat
    have go := hK _ _ _ _ _ _ _ h hn hk hI hl H locs lsA hP hS hL
    cases c9 with
    | zero => exact va_get X.1 X.2.1 X.2.2.2.2.1 hu X.2.2.2.1 X.2.2.2.2.2.1.1 hP r hat hq j (by rw [hN]; exact hj) (X.2.2.2.2.1 _ (show xFw (mY M).cls i a j 0 ∈ xG from hw)) (fun _ h9 => h9) (xfs_at hj I L P) hd go
    | succ c9 => exact va_getN X.1 X.2.1 X.2.2.2.2.1 hu X.2.2.2.1 X.2.2.2.2.2.1.1 hP r hat hq j (by rw [hN]; exact hj) (va_Nw.use (xNest_on _ (show xFw (mY M).cls i a j 1 ∈ xNest from hw)) (X.2.2.2.2.2.1.2.1 _ hw)) (fun _ h9 => h9) (xfs_at hj I L P) hd go
/-- a write into a field, once: the world behind it is that of the new maps -/
theorem xs_put (X : xCtx p l e s m args below meth c D cI cJ cD b base n0 scr M cs) {i a j r : Nat} {v : Value} {I' : xI} {L' : xL} {P' : xR} (hj : j < xNf a) (hw : xFw (mY M).cls i a j 0 ∈ xG ∧ (((vwCl.getD a (RX0, TX0, 0)).2.1 j).2.2.2 = true → (mY M).name = "<init>" ∧ ((vwCl.getD a (RX0, TX0, 0)).2.1 j).1 = (mY M).cls))
    (hd : decode (mC M) pc = .ok (.putfield i, 3)) (hK : ∀ ls st k n I L P, K Q ls st k n I L P → xAt p l e s m args below meth c D cI cJ cD b base n0 scr M Z (pc + 3) ls st k n I L P) (hr : r < n) (hc : (Nat.beq (xSh (r + 1)).1 0 && Nat.beq (xSh (r + 1)).2 a) = true) (hv : xv b base (xfv a (r + 1) j I' L' P') = xv b base v) (ho : ∀ q, q ≠ r + 1 → I' q = I q ∧ L' q = L q ∧ P' q = P q) (hf : ∀ i, i ≠ j → i < xNf a → xfv a (r + 1) i I' L' P' = xfv a (r + 1) i I L P)
    (hty : ∀ ty : FieldType, (match xKd a j with
      | 0 => ty = .int
      | 1 => ty = .long
      | _ => (∃ C, ty = .object C) ∨ ∃ t, ty = .array t) → narrow ty (xv b base v) = xv b base v ∧ fits ty (xv b base v) = true)
    (h : K Q ls st k n I' L' P') : xAt p l e s m args below meth c D cI cJ cD b base n0 scr M Z pc ls (v :: .ref (r + 1) :: st) k n I L P := by
  intro hn hk hI hl H locs lsA hP hS hL
  have hq := xcl_some hj
  obtain ⟨hu, hN, hnm, ty, hty1, hty2⟩ := xcls hq
  have hjN : j < (vwCl.getD a (RX0, TX0, 0)).2.2 := by rw [hN]; exact hj
  have hat := xws_at (b := b) (base := base) (cI := cI) (cJ := cJ) (cD := cD) hr I L P
  rw [xent0 hc] at hat
  obtain ⟨t1, t2⟩ := hty (ty j) (hty2 j hjN)
  have hset := xws_set (b := b) (base := base) (cI := cI) (cJ := cJ) (cD := cD) hr (I := I) (L := L) (P := P) (I' := I') (L' := L') (P' := P') (e := .inr (a, (xfs b base a (r + 1) I L P).set j (xv b base v))) (by rw [xent0 hc, xfs_set hv hf]) ho
  have hI' : I' 0 = scr := by rw [(ho 0 (by omega)).1]; exact hI
  by_cases hfin : ((vwCl.getD a (RX0, TX0, 0)).2.1 j).2.2.2 = true
  · obtain ⟨g1, g2⟩ := hw.2 hfin
    refine va_putF (A := xA base) (H0 := s.heap) X.1 X.2.1 X.2.2.2.2.1 hu ty hty1 hnm X.2.2.2.1 X.2.2.2.2.2.1.1 hP (xws_D b base cI cJ cD n I L P) hS r hat hq j hjN (X.2.2.2.2.1 _ hw.1) (fun _ h9 => h9) hfin (X.2.2.2.2.2.2.2.1 g1) g2 (hty1 j hjN) t1 t2 (by rw [xfs_len]; exact hj) hd (fun H1 locs1 hP1 hD1 hS1 => ?_)
    exact hK _ _ _ _ _ _ _ h hn hk hI' hl H1 locs1 lsA (hset ▸ hP1) hS1 hL
  · refine va_put (A := xA base) (H0 := s.heap) X.1 X.2.1 X.2.2.2.2.1 hu ty hty1 hnm X.2.2.2.1 X.2.2.2.2.2.1.1 hP (xws_D b base cI cJ cD n I L P) hS r hat hq j hjN (X.2.2.2.2.1 _ hw.1) (fun _ h9 => h9) (by simpa using hfin) (hty1 j hjN) t1 t2 (by rw [xfs_len]; exact hj) hd (fun H1 locs1 hP1 hD1 hS1 => ?_)
    exact hK _ _ _ _ _ _ _ h hn hk hI' hl H1 locs1 lsA (hset ▸ hP1) hS1 hL
theorem xs_putfield (X : xCtx p l e s m args below meth c D cI cJ cD b base n0 scr M cs) {i a j : Nat} (hj : j < xNf a) (hw : xFw (mY M).cls i a j 0 ∈ xG ∧ (((vwCl.getD a (RX0, TX0, 0)).2.1 j).2.2.2 = true → (mY M).name = "<init>" ∧ ((vwCl.getD a (RX0, TX0, 0)).2.1 j).1 = (mY M).cls))
    (hd : decode (mC M) pc = .ok (.putfield i, 3)) (hK : ∀ ls st k n I L P, K Q ls st k n I L P → xAt p l e s m args below meth c D cI cJ cD b base n0 scr M Z (pc + 3) ls st k n I L P) (h : match xKd a j with
        | 0 => xpI st fun x st => xpR st fun r st => xT (xob r n a) (K Q ls st k n (xup I r j x) L P)
        | 1 => xpL st fun x st => xpR st fun r st => xT (xob r n a) (K Q ls st k n I (xup L r j x) P)
        | _ => xpR st fun x st => xpR st fun r st => xT (xob r n a) (K Q ls st k n I L (xup P r j (some x)))) : xAt p l e s m args below meth c D cI cJ cD b base n0 scr M Z pc ls st k n I L P := by
  have hz : ∃ z, xKd a j = z := ⟨_, rfl⟩
  obtain ⟨z, hz⟩ := hz
  match z, hz with
  | 0, hz =>
    rw [hz] at h
    obtain ⟨x, r1, e1, h1⟩ := xpI_e h
    subst e1
    obtain ⟨r, r2, e2, h2⟩ := xpR_e h1
    subst e2
    cases r with
    | zero => exact absurd h2 (fun q => q)
    | succ r =>
      obtain ⟨hc, h2⟩ := xT_e h2
      obtain ⟨hr, hc⟩ := xand hc
      refine xs_put X hj hw hd hK (xblt hr) hc (v := .int x) (I' := xup I (r + 1) j x) (L' := L) (P' := P) ?_ (fun q hq => ⟨xup_c _ _ _ _ hq, rfl, rfl⟩) (fun q hq _ => ?_) (fun ty hty => ?_) h2
      · unfold xfv; rw [hz]; show Value.int _ = _; rw [xup_s]; rfl
      · unfold xfv; rw [xup_n _ _ _ _ hq]
      · rw [hz] at hty; subst hty; exact ⟨rfl, rfl⟩
  | 1, hz =>
    rw [hz] at h
    obtain ⟨x, r1, e1, h1⟩ := xpL_e h
    subst e1
    obtain ⟨r, r2, e2, h2⟩ := xpR_e h1
    subst e2
    cases r with
    | zero => exact absurd h2 (fun q => q)
    | succ r =>
      obtain ⟨hc, h2⟩ := xT_e h2
      obtain ⟨hr, hc⟩ := xand hc
      refine xs_put X hj hw hd hK (xblt hr) hc (v := .long x) (I' := I) (L' := xup L (r + 1) j x) (P' := P) ?_ (fun q hq => ⟨rfl, xup_c _ _ _ _ hq, rfl⟩) (fun q hq _ => ?_) (fun ty hty => ?_) h2
      · unfold xfv; rw [hz]; show Value.long _ = _; rw [xup_s]; rfl
      · unfold xfv; rw [xup_n _ _ _ _ hq]
      · rw [hz] at hty; subst hty; exact ⟨rfl, rfl⟩
  | z + 2, hz =>
    rw [hz] at h
    obtain ⟨x, r1, e1, h1⟩ := xpR_e h
    subst e1
    obtain ⟨r, r2, e2, h2⟩ := xpR_e h1
    subst e2
    cases r with
    | zero => exact absurd h2 (fun q => q)
    | succ r =>
      obtain ⟨hc, h2⟩ := xT_e h2
      obtain ⟨hr, hc⟩ := xand hc
      refine xs_put X hj hw hd hK (xblt hr) hc (v := .ref x) (I' := I) (L' := L) (P' := xup P (r + 1) j (some x)) ?_ (fun q hq => ⟨rfl, rfl, xup_c _ _ _ _ hq⟩) (fun q hq _ => ?_) (fun ty hty => ?_) h2
      · unfold xfv; rw [hz]; show xv b base (xrf _) = _; rw [xup_s]; rfl
      · unfold xfv; rw [xup_n _ _ _ _ hq]
      · rw [hz] at hty
        rcases hty with ⟨C, rfl⟩ | ⟨t, rfl⟩ <;> exact ⟨rfl, rfl⟩
theorem xs_alen (X : xCtx p l e s m args below meth c D cI cJ cD b base n0 scr M cs) (hd : decode (mC M) pc = .ok (.arraylength, 1)) (hK : ∀ ls st k n I L P, K Q ls st k n I L P → xAt p l e s m args below meth c D cI cJ cD b base n0 scr M Z (pc + 1) ls st k n I L P) (h : xpR st fun r st => (match r with
        | 0 => xT (Nat.beq (mK M) 9) (K Q ls (.int (I 0 0) :: st) k n I L P)
        | _ + 1 => xal r n fun z => K Q ls (.int (nI z) :: st) k n I L P)) : xAt p l e s m args below meth c D cI cJ cD b base n0 scr M Z pc ls st k n I L P := by
  obtain ⟨r, r1, e1, h2⟩ := xpR_e h
  subst e1
  cases r with
  | zero =>
    obtain ⟨hc, h3⟩ := xT_e h2
    intro hn hk hI hl H locs lsA hP hS hL
    obtain ⟨len, xs, g1, g2, g3, g4, g5, g6⟩ := X.2.2.2.2.2.2.2.2.2 (xbeq hc)
    have go := hK _ _ _ _ _ _ _ h3 hn hk hI hl H locs lsA hP hS hL
    rw [hI, g4] at go
    exact va_slen X.1 X.2.1 g1 g2 (Nat.not_le.mpr g3) hS hd go
  | succ r =>
    obtain ⟨hr, hc, h3⟩ := xal_e h2
    intro hn hk hI hl H locs lsA hP hS hL
    have go := hK _ _ _ _ _ _ _ h3 hn hk hI hl H locs lsA hP hS hL
    have hat := xws_at (b := b) (base := base) (cI := cI) (cJ := cJ) (cD := cD) hr I L P
    have hKs := X.2.2.2.2.2.1.1
    unfold xent at hat
    revert hat
    generalize hz : (xSh (r + 1)).1 = z at hc ⊢
    intro hat
    match z, hc, hat with
    | 1, _, hat => exact va_alen X.1 X.2.1 hKs hP r 0 hat rfl rfl hd go
    | 2, _, hat => exact va_alen X.1 X.2.1 hKs hP r 1 hat rfl rfl hd go
    | z + 3, _, hat => exact va_alen X.1 X.2.1 hKs hP r 2 hat rfl rfl hd go
theorem xs_iald (X : xCtx p l e s m args below meth c D cI cJ cD b base n0 scr M cs) (hd : decode (mC M) pc = .ok (.iaload, 1)) (hK : ∀ ls st k n I L P, K Q ls st k n I L P → xAt p l e s m args below meth c D cI cJ cD b base n0 scr M Z (pc + 1) ls st k n I L P) (h : xpI st fun i st => xpR st fun r st => (match r with
        | 0 => xT (Nat.beq (mK M) 9) (vp_in i (I 0 0).toNatClampNeg ∧ K Q ls (.int (I 0 (i.toNatClampNeg + 1)) :: st) k n I L P)
        | _ + 1 => xar r n 1 fun z => vp_in i z ∧ K Q ls (.int (I r i.toNatClampNeg) :: st) k n I L P)) : xAt p l e s m args below meth c D cI cJ cD b base n0 scr M Z pc ls st k n I L P := by
  obtain ⟨i, r1, e1, h1⟩ := xpI_e h
  subst e1
  obtain ⟨r, r2, e2, h2⟩ := xpR_e h1
  subst e2
  cases r with
  | zero =>
    obtain ⟨hc, hi, h2⟩ := xT_e h2
    intro hn hk hI hl H locs lsA hP hS hL
    obtain ⟨len, xs, g1, g2, g3, g4, g5, g6⟩ := X.2.2.2.2.2.2.2.2.2 (xbeq hc)
    have go := hK _ _ _ _ _ _ _ h2 hn hk hI hl H locs lsA hP hS hL
    rw [hI, g6] at go
    rw [hI, g4, nI_clamp (by omega)] at hi
    exact va_sld X.1 X.2.1 g1 g2 (Nat.not_le.mpr g3) hS hi hd go
  | succ r =>
    obtain ⟨hr, hc, hi, h2⟩ := xar_e h2
    intro hn hk hI hl H locs lsA hP hS hL
    have go := hK _ _ _ _ _ _ _ h2 hn hk hI hl H locs lsA hP hS hL
    have hat := xws_at (b := b) (base := base) (cI := cI) (cJ := cJ) (cD := cD) hr I L P
    rw [xent1 hc] at hat
    exact va_iald X.1 X.2.1 X.2.2.2.2.2.1.1 hP r 0 hat rfl hi hd go
theorem xs_lald (X : xCtx p l e s m args below meth c D cI cJ cD b base n0 scr M cs) (hd : decode (mC M) pc = .ok (.laload, 1)) (hK : ∀ ls st k n I L P, K Q ls st k n I L P → xAt p l e s m args below meth c D cI cJ cD b base n0 scr M Z (pc + 1) ls st k n I L P) (h : xpI st fun i st => xpR st fun r st => xar r n 2 fun z => vp_in i z ∧ K Q ls (.long (L r i.toNatClampNeg) :: st) k n I L P) : xAt p l e s m args below meth c D cI cJ cD b base n0 scr M Z pc ls st k n I L P := by
  obtain ⟨i, r1, e1, h1⟩ := xpI_e h
  subst e1
  obtain ⟨r, r2, e2, h2⟩ := xpR_e h1
  subst e2
  cases r with
  | zero => exact absurd h2 (fun q => q)
  | succ r =>
    obtain ⟨hr, hc, hi, h2⟩ := xar_e h2
    intro hn hk hI hl H locs lsA hP hS hL
    have go := hK _ _ _ _ _ _ _ h2 hn hk hI hl H locs lsA hP hS hL
    have hat := xws_at (b := b) (base := base) (cI := cI) (cJ := cJ) (cD := cD) hr I L P
    rw [xent2 hc] at hat
    exact va_lald X.1 X.2.1 X.2.2.2.2.2.1.1 hP r 1 hat rfl hi hd go
theorem xs_aald (X : xCtx p l e s m args below meth c D cI cJ cD b base n0 scr M cs) (hd : decode (mC M) pc = .ok (.aaload, 1)) (hK : ∀ ls st k n I L P, K Q ls st k n I L P → xAt p l e s m args below meth c D cI cJ cD b base n0 scr M Z (pc + 1) ls st k n I L P) (h : xpI st fun i st => xpR st fun r st => xar r n 3 fun z => vp_in i z ∧ (P r i.toNatClampNeg = none → K Q ls (.null :: st) k n I L P) ∧ ∀ q : Nat, P r i.toNatClampNeg = some q → K Q ls (.ref q :: st) k n I L P) : xAt p l e s m args below meth c D cI cJ cD b base n0 scr M Z pc ls st k n I L P := by
  obtain ⟨i, r1, e1, h1⟩ := xpI_e h
  subst e1
  obtain ⟨r, r2, e2, h2⟩ := xpR_e h1
  subst e2
  cases r with
  | zero => exact absurd h2 (fun q => q)
  | succ r =>
    obtain ⟨hr, hc, hi, h2, h3⟩ := xar_e h2
    intro hn hk hI hl H locs lsA hP hS hL
    have h4 : K Q ls (xrf (P (r + 1) i.toNatClampNeg) :: r2) k n I L P := by
      cases hq : P (r + 1) i.toNatClampNeg with
      | none => exact h2 hq
      | some q => exact h3 q hq
    have go := hK _ _ _ _ _ _ _ h4 hn hk hI hl H locs lsA hP hS hL
    have hat := xws_at (b := b) (base := base) (cI := cI) (cJ := cJ) (cD := cD) hr I L P
    rw [xent3 hc] at hat
    rw [List.map_cons, xrf_v] at go
    exact va_aldq X.1 X.2.1 X.2.2.2.2.2.1.1 hP r 2 hat rfl hi hd go
theorem xs_iast (X : xCtx p l e s m args below meth c D cI cJ cD b base n0 scr M cs) (hd : decode (mC M) pc = .ok (.iastore, 1)) (hK : ∀ ls st k n I L P, K Q ls st k n I L P → xAt p l e s m args below meth c D cI cJ cD b base n0 scr M Z (pc + 1) ls st k n I L P) (h : xpI st fun x st => xpI st fun i st => xpR st fun r st => xar r n 1 fun z => vp_in i z ∧ K Q ls st k n (xup I r i.toNatClampNeg x) L P) : xAt p l e s m args below meth c D cI cJ cD b base n0 scr M Z pc ls st k n I L P := by
  obtain ⟨x, r0, e0, h0⟩ := xpI_e h
  subst e0
  obtain ⟨i, r1, e1, h1⟩ := xpI_e h0
  subst e1
  obtain ⟨r, r2, e2, h2⟩ := xpR_e h1
  subst e2
  cases r with
  | zero => exact absurd h2 (fun q => q)
  | succ r =>
    obtain ⟨hr, hc, hi, h2⟩ := xar_e h2
    intro hn hk hI hl H locs lsA hP hS hL
    have hat := xws_at (b := b) (base := base) (cI := cI) (cJ := cJ) (cD := cD) hr I L P
    rw [xent1 hc] at hat
    have hset := xws_set (b := b) (base := base) (cI := cI) (cJ := cJ) (cD := cD) hr (I := I) (L := L) (P := P) (I' := xup I (r + 1) i.toNatClampNeg x) (L' := L) (P' := P) (e := .inl (cI, (xSh (r + 1)).2, .inl (upd (I (r + 1)) i.toNatClampNeg x))) (by rw [xent1 hc]; congr 4; funext j; by_cases hj : j = i.toNatClampNeg <;> simp [xup, upd, hj]) (fun q hq => ⟨xup_c _ _ _ _ hq, rfl, rfl⟩)
    refine va_iast (A := xA base) (H0 := s.heap) X.1 X.2.1 X.2.2.2.2.2.1.1 hP (xws_D b base cI cJ cD n I L P) hS r 0 hat rfl hi hd (fun H1 locs1 hP1 hD1 hS1 => ?_)
    exact hK _ _ _ _ _ _ _ h2 hn hk (by rw [xup_c _ _ _ _ (by omega)]; exact hI) hl H1 locs1 lsA (hset ▸ hP1) hS1 hL
theorem xs_last (X : xCtx p l e s m args below meth c D cI cJ cD b base n0 scr M cs) (hd : decode (mC M) pc = .ok (.lastore, 1)) (hK : ∀ ls st k n I L P, K Q ls st k n I L P → xAt p l e s m args below meth c D cI cJ cD b base n0 scr M Z (pc + 1) ls st k n I L P) (h : xpL st fun x st => xpI st fun i st => xpR st fun r st => xar r n 2 fun z => vp_in i z ∧ K Q ls st k n I (xup L r i.toNatClampNeg x) P) : xAt p l e s m args below meth c D cI cJ cD b base n0 scr M Z pc ls st k n I L P := by
  obtain ⟨x, r0, e0, h0⟩ := xpL_e h
  subst e0
  obtain ⟨i, r1, e1, h1⟩ := xpI_e h0
  subst e1
  obtain ⟨r, r2, e2, h2⟩ := xpR_e h1
  subst e2
  cases r with
  | zero => exact absurd h2 (fun q => q)
  | succ r =>
    obtain ⟨hr, hc, hi, h2⟩ := xar_e h2
    intro hn hk hI hl H locs lsA hP hS hL
    have hat := xws_at (b := b) (base := base) (cI := cI) (cJ := cJ) (cD := cD) hr I L P
    rw [xent2 hc] at hat
    have hset := xws_set (b := b) (base := base) (cI := cI) (cJ := cJ) (cD := cD) hr (I := I) (L := L) (P := P) (I' := I) (L' := xup L (r + 1) i.toNatClampNeg x) (P' := P) (e := .inl (cJ, (xSh (r + 1)).2, .inr (.inl (vp_updL (L (r + 1)) i.toNatClampNeg x)))) (by rw [xent2 hc]; congr 5; funext j; by_cases hj : j = i.toNatClampNeg <;> simp [xup, vp_updL, hj]) (fun q hq => ⟨rfl, xup_c _ _ _ _ hq, rfl⟩)
    refine va_last (A := xA base) (H0 := s.heap) X.1 X.2.1 X.2.2.2.2.2.1.1 hP (xws_D b base cI cJ cD n I L P) hS r 1 hat rfl hi hd (fun H1 locs1 hP1 hD1 hS1 => ?_)
    exact hK _ _ _ _ _ _ _ h2 hn hk hI hl H1 locs1 lsA (hset ▸ hP1) hS1 hL
theorem xs_aast (X : xCtx p l e s m args below meth c D cI cJ cD b base n0 scr M cs) (hd : decode (mC M) pc = .ok (.aastore, 1)) (hK : ∀ ls st k n I L P, K Q ls st k n I L P → xAt p l e s m args below meth c D cI cJ cD b base n0 scr M Z (pc + 1) ls st k n I L P) (h : xpR st fun x st => xpI st fun i st => xpR st fun r st => (match r, x with
        | r + 1, x + 1 => xT ((Nat.blt r n && Nat.beq (xSh (r + 1)).1 3) && (Nat.blt x n && (Nat.beq (xSh (x + 1)).1 0 && Nat.beq (xSh (x + 1)).2 1))) (vp_in i (xSh (r + 1)).2 ∧ K Q ls st k n I L (xup P (r + 1) i.toNatClampNeg (some (x + 1))))
        | _, _ => False)) : xAt p l e s m args below meth c D cI cJ cD b base n0 scr M Z pc ls st k n I L P := by
  obtain ⟨x, r0, e0, h0⟩ := xpR_e h
  subst e0
  obtain ⟨i, r1, e1, h1⟩ := xpI_e h0
  subst e1
  obtain ⟨r, r2, e2, h2⟩ := xpR_e h1
  subst e2
  cases r with
  | zero => exact absurd h2 (fun q => q)
  | succ r =>
    cases x with
    | zero => exact absurd h2 (fun q => q)
    | succ x =>
      obtain ⟨hc, hi, h2⟩ := xT_e h2
      obtain ⟨hc, hcx⟩ := xand hc
      obtain ⟨hr, hc⟩ := xand hc
      obtain ⟨hx, hcx⟩ := xand hcx
      intro hn hk hI hl H locs lsA hP hS hL
      have hat := xws_at (b := b) (base := base) (cI := cI) (cJ := cJ) (cD := cD) (xblt hr) I L P
      rw [xent3 hc] at hat
      have hatx := xws_at (b := b) (base := base) (cI := cI) (cJ := cJ) (cD := cD) (xblt hx) I L P
      rw [xent0 hcx] at hatx
      have hset := xws_set (b := b) (base := base) (cI := cI) (cJ := cJ) (cD := cD) (xblt hr) (I := I) (L := L) (P := P) (I' := I) (L' := L) (P' := xup P (r + 1) i.toNatClampNeg (some (x + 1))) (e := .inl (cD, (xSh (r + 1)).2, .inr (.inr (.inr (.inr (va_up (fun j => xro b base (P (r + 1) j)) i.toNatClampNeg (some (base + x)))))))) (by rw [xent3 hc]; congr 7; funext j; by_cases hj : j = i.toNatClampNeg <;> simp [xup, va_up, hj, xro, xad]) (fun q hq => ⟨rfl, rfl, xup_c _ _ _ _ hq⟩)
      refine va_astq (A := xA base) (H0 := s.heap) (r := (RX1, TX1, 4)) X.1 X.2.1 X.2.2.2.2.2.1.1 hP (xws_D b base cI cJ cD n I L P) hS r 2 x 1 hat rfl hatx rfl hi hd (fun H1 locs1 hP1 hD1 hS1 => ?_)
      exact hK _ _ _ _ _ _ _ h2 hn hk hI hl H1 locs1 lsA (hset ▸ hP1) hS1 hL
end CELLS
end
section
/-! cells made; calls; ends -/
section MAKE
variable {p : Program} {l : Launch} {e : Env} {s : State} {m : MethodId} {args : Array Value} {below : List Frame} {meth : Method} {c : Code} {D : va_G} {cI cJ cD : ClassId} {b base n0 : Nat} {scr : Nat → Int32} {M : xM} {cs : xCs} {Q : xQ} {Z : State → Prop}
variable {pc : Nat} {K : xK} {J : Nat → xK} {ls : xV} {st : List Value} {k n : Nat} {I : xI} {L : xL} {P : xR}
theorem xS_le : ∀ {a d : Nat}, a ≤ d → xS a ≤ xS d := by
  intro a d h
  induction d with
  | zero => rw [Nat.le_zero.mp h]; exact Nat.le_refl _
  | succ d ih =>
    by_cases q : a ≤ d
    · exact Nat.le_trans (ih q) (by show _ ≤ xS d + _; omega)
    · rw [show a = d + 1 by omega]; exact Nat.le_refl _
/-- how large the heap is, where the walk stands -/
theorem xsz {H : Heap} {locs : List Loc} {cells slots : Nat} {R : Room} {g : JFrame} (h : H.size ≤ s.heap.size + cells → W p l e R s m args below meth c H locs cells slots Z g) : W p l e R s m args below meth c H locs cells slots Z g := fun T hT Y => h (hT ▸ Y.heapSize) T hT Y
/-- the address of a cell that has just been made -/
theorem xaddr {H1 : Heap} {n q : Nat} {E E' : va_E} (hP1 : va_P D vwCl (xws b base cI cJ cD n I L P ++ [(q, E)]) H1) (hD1 : va_D (xA base) (xws b base cI cJ cD n I L P ++ [(q, E)])) (hz : H1.size ≤ base + n + 1) : q = base + n := by
  have h1 := (hP1 n (q, E) (by rw [List.getElem?_append_right (by rw [xws_len]; exact Nat.le_refl _), xws_len, Nat.sub_self]; rfl)).lt
  have h2 : base ≤ q := hD1.2 n (q, E) (by rw [List.getElem?_append_right (by rw [xws_len]; exact Nat.le_refl _), xws_len, Nat.sub_self]; rfl)
  have h1 : q < H1.size := h1
  by_cases h3 : q < base + n
  · have hk : q - base < n := by omega
    have e1 : (xws b base cI cJ cD n I L P ++ [(q, E)])[q - base]? = some (base + (q - base), xent b base cI cJ cD (q - base + 1) I L P) := by
      rw [List.getElem?_append_left (by rw [xws_len]; exact hk), xws_at hk]
    have := hD1.1 (q - base) n _ (q, E) e1 (by rw [List.getElem?_append_right (by rw [xws_len]; exact Nat.le_refl _), xws_len, Nat.sub_self]; rfl) (by show base + (q - base) = q; omega)
    omega
  · omega
theorem xws_keep {n : Nat} {I' : xI} {L' : xL} {P' : xR} (ho : ∀ j, j ≤ n → I' j = I j ∧ L' j = L j ∧ P' j = P j) : xws b base cI cJ cD n I' L' P' = xws b base cI cJ cD n I L P := by
  apply List.ext_getElem?
  intro j
  by_cases hj : j < n
  · rw [xws_at hj, xws_at hj]
    obtain ⟨h1, h2, h3⟩ := ho (j + 1) (by omega)
    simp only [xent, xfs, xfv, h1, h2, h3]
  · rw [List.getElem?_eq_none (by rw [xws_len]; omega), List.getElem?_eq_none (by rw [xws_len]; omega)]
theorem xcl9 {a : Nat} (h : a < 9) : vwCl[a]? = some (vwCl.getD a (RX0, TX0, 0)) := by
  match a, h with
  | 0, _ => rfl
  | 1, _ => rfl
  | 2, _ => rfl
  | 3, _ => rfl
  | 4, _ => rfl
  | 5, _ => rfl
  | 6, _ => rfl
  | 7, _ => rfl
  | 8, _ => rfl
theorem xs_new (X : xCtx p l e s m args below meth c D cI cJ cD b base n0 scr M cs) {i a : Nat} (hw : Cond.classLink (mY M).cls i (vwCl.getD a (RX0, TX0, 0)).1 ∈ xG ∧ Cond.instantiable (vwCl.getD a (RX0, TX0, 0)).1 (vwCl.getD a (RX0, TX0, 0)).2.2 ∈ xG ∧ Cond.initialized (vwCl.getD a (RX0, TX0, 0)).1 ∈ xG ∧ a < 9) (hd : decode (mC M) pc = .ok (.new i, 3)) (hK : ∀ ls st k n I L P, K Q ls st k n I L P → xAt p l e s m args below meth c D cI cJ cD b base n0 scr M Z (pc + 3) ls st k n I L P)
    (h : xT (Nat.blt k (mN M) && (Nat.beq (xSh (n + 1)).1 0 && Nat.beq (xSh (n + 1)).2 a)) (K Q ls (.ref (n + 1) :: st) (k + 1) (n + 1) (xrw I (n + 1) fun _ => 0) (xrw L (n + 1) fun _ => 0) (xrw P (n + 1) fun _ => none))) : xAt p l e s m args below meth c D cI cJ cD b base n0 scr M Z pc ls st k n I L P := by
  obtain ⟨hc, h⟩ := xT_e h
  obtain ⟨hkm, hc⟩ := xand hc
  have hkm := xblt hkm
  intro hn hk hI hl H locs lsA hP hS hL
  refine xsz fun hz => ?_
  have hsz : s.heap.size = base + n0 := X.2.2.2.2.2.2.1
  have hq := xcl9 hw.2.2.2
  obtain ⟨hu, hN, hnm, ty, hty1, hty2⟩ := xcls hq
  have hsl : xS (n + 1) = xS n + (vwCl.getD a (RX0, TX0, 0)).2.2 := by
    show xS n + xSl (n + 1) = _
    unfold xSl
    rw [xbeq (xand hc).1, xbeq (xand hc).2, hN]
    rfl
  have hn0 : xS n0 ≤ xS n := xS_le (by omega)
  have hroom : xS (n + 1) ≤ xS (n0 + mN M) := xS_le (by omega)
  refine va_new (A := xA base) (H0 := s.heap) (ci := a) (fs := xfs b base a (n + 1) (xrw I (n + 1) fun _ => 0) (xrw L (n + 1) fun _ => 0) (xrw P (n + 1) fun _ => none)) X.1 X.2.1 X.2.2.2.2.1 hu ty hty1 X.2.2.2.1 (X.2.2.2.2.1 _ hw.1) (X.2.2.2.2.1 _ hw.2.1) (X.2.2.2.2.1 _ hw.2.2.1) X.2.2.2.2.2.1.1 hP (xws_D b base cI cJ cD n I L P) hS (fun q hq => by show base ≤ q; omega) hq (fun j hj => ?_) (by show k + 1 ≤ mN M; omega) (by show xS n - xS n0 + _ ≤ xS (n0 + mN M) - xS n0; omega) hd (fun q H1 hP1 hD1 hS1 => ?_)
  · have hjx : j < xNf a := by rw [← hN]; exact hj
    have hv := hty2 j hj
    unfold vp_V
    rw [List.getD_eq_getElem?_getD, xfs_at hjx]
    unfold xfv
    revert hv
    generalize xKd a j = z
    intro hv
    match z, hv with
    | 0, hv => rw [hv]; simp [xrw, xv, defaultValue]
    | 1, hv => rw [hv]; simp [xrw, xv, defaultValue]
    | z + 2, hv => rcases hv with ⟨C, hv⟩ | ⟨t, hv⟩ <;> (rw [hv]; simp [xrw, xv, xrf, defaultValue])
  · refine xsz fun hz1 => ?_
    have hqa := xaddr (E' := .inr (a, [])) hP1 hD1 (by omega)
    subst hqa
    have e1 : xws b base cI cJ cD n I L P ++ [(base + n, .inr (a, xfs b base a (n + 1) (xrw I (n + 1) fun _ => 0) (xrw L (n + 1) fun _ => 0) (xrw P (n + 1) fun _ => none)))] = xws b base cI cJ cD (n + 1) (xrw I (n + 1) fun _ => 0) (xrw L (n + 1) fun _ => 0) (xrw P (n + 1) fun _ => none) := by
      rw [xws_succ, xent0 hc, xws_keep (n := n) (fun j hj => ⟨xrw_c _ _ _ (by omega), xrw_c _ _ _ (by omega), xrw_c _ _ _ (by omega)⟩)]
    have go := hK _ _ _ _ _ _ _ h (by omega) (by omega) (by rw [xrw_c _ _ _ (by omega)]; exact hI) hl H1 locs lsA (e1 ▸ hP1) hS1 hL
    rw [show xS (n + 1) - xS n0 = xS n - xS n0 + (vwCl.getD a (RX0, TX0, 0)).2.2 by omega] at go
    exact go
theorem xs_newa (X : xCtx p l e s m args below meth c D cI cJ cD b base n0 scr M cs) {t : ArrayType} {c9 : Nat} (ht : xNt t c9 = true) (hw : xNw c9) (hd : decode (mC M) pc = .ok (.newarray t, 2)) (hK : ∀ ls st k n I L P, K Q ls st k n I L P → xAt p l e s m args below meth c D cI cJ cD b base n0 scr M Z (pc + 2) ls st k n I L P)
    (h : xpI st fun v st => xT (Nat.blt k (mN M) && (Nat.beq (xSh (n + 1)).1 c9 && Nat.blt (xSh (n + 1)).2 60000)) (v = nI (xSh (n + 1)).2 ∧ K Q ls (.ref (n + 1) :: st) (k + 1) (n + 1) (xrw I (n + 1) fun _ => 0) (xrw L (n + 1) fun _ => 0) P)) : xAt p l e s m args below meth c D cI cJ cD b base n0 scr M Z pc ls st k n I L P := by
  obtain ⟨v, r1, e1, h1⟩ := xpI_e h
  subst e1
  obtain ⟨hc, hv, h2⟩ := xT_e h1
  subst hv
  obtain ⟨hkm, hc⟩ := xand hc
  obtain ⟨hc, hb⟩ := xand hc
  have hkm := xblt hkm
  have hb := xblt hb
  intro hn hk hI hl H locs lsA hP hS hL
  refine xsz fun hz => ?_
  have hsz : s.heap.size = base + n0 := X.2.2.2.2.2.2.1
  have hKs := X.2.2.2.2.2.1.1
  have hn0 : xS n0 ≤ xS n := xS_le (by omega)
  have hroom : xS (n + 1) ≤ xS (n0 + mN M) := xS_le (by omega)
  have hz0 : ¬ (nI (xSh (n + 1)).2) < 0 := nI_pos (by omega)
  have hz1 : (nI (xSh (n + 1)).2).toNatClampNeg = (xSh (n + 1)).2 := nI_clamp (by omega)
  have e2 := xws_succ b base cI cJ cD n (xrw I (n + 1) fun _ => 0) (xrw L (n + 1) fun _ => 0) P
  rw [xws_keep (n := n) (I := I) (L := L) (P := P) (fun j hj => ⟨xrw_c _ _ _ (by omega), xrw_c _ _ _ (by omega), rfl⟩)] at e2
  match t, c9, ht with
  | .int, 1, _ =>
    have hsl : xS (n + 1) = xS n + (xSh (n + 1)).2 := by
      show xS n + xSl (n + 1) = _
      unfold xSl
      rw [xbeq hc]
      rfl
    rw [xent1 hc, xrw_s] at e2
    refine va_newa (A := xA base) (H0 := s.heap) (atype := .int) (ty := .int) (a0 := ((xSh (n + 1)).2, .inl (fun _ => 0))) X.1 X.2.1 (X.2.2.2.2.1 _ (show Cond.arrayClass .int ∈ xG from hw)) rfl hKs hP (xws_D b base cI cJ cD n I L P) hS (fun q hq => by show base ≤ q; omega) (fun cA => rfl) hz0 hz1 (by show _ * 4 ≤ _; omega) (by show k + 1 ≤ mN M; omega) (by show xS n - xS n0 + _ ≤ xS (n0 + mN M) - xS n0; omega) hd (fun q cA H1 hK1 hP1 hD1 hS1 => ?_)
    refine xsz fun hz2 => ?_
    have hqa := xaddr (E' := .inr (0, [])) hP1 hD1 (by omega)
    subst hqa
    have hA : cA = cI := by
      have q1 : s.vm.findClass ("[" ++ FieldType.int.toString) = some cA := (hK1.2 3 (cA, .int) rfl).2
      have q2 : s.vm.findClass ("[" ++ FieldType.int.toString) = some cI := (hKs.2 0 (cI, .int) rfl).2
      exact Option.some.inj (q1.symm.trans q2)
    subst hA
    have go := hK _ _ _ _ _ _ _ h2 (by omega) (by omega) (by rw [xrw_c _ _ _ (by omega)]; exact hI) hl H1 locs lsA (e2 ▸ hP1) hS1 hL
    rw [show xS (n + 1) - xS n0 = xS n - xS n0 + (xSh (n + 1)).2 by omega] at go
    exact go
  | .long, 2, _ =>
    have hsl : xS (n + 1) = xS n + (xSh (n + 1)).2 := by
      show xS n + xSl (n + 1) = _
      unfold xSl
      rw [xbeq hc]
      rfl
    rw [xent2 hc, xrw_s] at e2
    refine va_newa (A := xA base) (H0 := s.heap) (atype := .long) (ty := .long) (a0 := ((xSh (n + 1)).2, .inr (.inl (fun _ => 0)))) X.1 X.2.1 (X.2.2.2.2.1 _ (show Cond.arrayClass .long ∈ xG from hw)) rfl hKs hP (xws_D b base cI cJ cD n I L P) hS (fun q hq => by show base ≤ q; omega) (fun cA => rfl) hz0 hz1 (by show _ * 8 ≤ _; omega) (by show k + 1 ≤ mN M; omega) (by show xS n - xS n0 + _ ≤ xS (n0 + mN M) - xS n0; omega) hd (fun q cA H1 hK1 hP1 hD1 hS1 => ?_)
    refine xsz fun hz2 => ?_
    have hqa := xaddr (E' := .inr (0, [])) hP1 hD1 (by omega)
    subst hqa
    have hA : cA = cJ := by
      have q1 : s.vm.findClass ("[" ++ FieldType.long.toString) = some cA := (hK1.2 3 (cA, .long) rfl).2
      have q2 : s.vm.findClass ("[" ++ FieldType.long.toString) = some cJ := (hKs.2 1 (cJ, .long) rfl).2
      exact Option.some.inj (q1.symm.trans q2)
    subst hA
    have go := hK _ _ _ _ _ _ _ h2 (by omega) (by omega) (by rw [xrw_c _ _ _ (by omega)]; exact hI) hl H1 locs lsA (e2 ▸ hP1) hS1 hL
    rw [show xS (n + 1) - xS n0 = xS n - xS n0 + (xSh (n + 1)).2 by omega] at go
    exact go
theorem xs_newq (X : xCtx p l e s m args below meth c D cI cJ cD b base n0 scr M cs) {i : Nat} (hw : Cond.classLink (mY M).cls i "SmellBurdens$Deeds" ∈ xG) (hd : decode (mC M) pc = .ok (.anewarray i, 3)) (hK : ∀ ls st k n I L P, K Q ls st k n I L P → xAt p l e s m args below meth c D cI cJ cD b base n0 scr M Z (pc + 3) ls st k n I L P)
    (h : xpI st fun v st => xT (Nat.blt k (mN M) && (Nat.beq (xSh (n + 1)).1 3 && Nat.blt (xSh (n + 1)).2 60000)) (v = nI (xSh (n + 1)).2 ∧ K Q ls (.ref (n + 1) :: st) (k + 1) (n + 1) I L (xrw P (n + 1) fun _ => none))) : xAt p l e s m args below meth c D cI cJ cD b base n0 scr M Z pc ls st k n I L P := by
  obtain ⟨v, r1, e1, h1⟩ := xpI_e h
  subst e1
  obtain ⟨hc, hv, h2⟩ := xT_e h1
  subst hv
  obtain ⟨hkm, hc⟩ := xand hc
  obtain ⟨hc, hb⟩ := xand hc
  have hkm := xblt hkm
  have hb := xblt hb
  intro hn hk hI hl H locs lsA hP hS hL
  refine xsz fun hz => ?_
  have hsz : s.heap.size = base + n0 := X.2.2.2.2.2.2.1
  have hKs := X.2.2.2.2.2.1.1
  have hn0 : xS n0 ≤ xS n := xS_le (by omega)
  have hroom : xS (n + 1) ≤ xS (n0 + mN M) := xS_le (by omega)
  have hz0 : ¬ (nI (xSh (n + 1)).2) < 0 := nI_pos (by omega)
  have hz1 : (nI (xSh (n + 1)).2).toNatClampNeg = (xSh (n + 1)).2 := nI_clamp (by omega)
  have e2 := xws_succ b base cI cJ cD n I L (xrw P (n + 1) fun _ => none)
  rw [xws_keep (n := n) (I := I) (L := L) (P := P) (fun j hj => ⟨rfl, rfl, xrw_c _ _ _ (by omega)⟩)] at e2
  have hsl : xS (n + 1) = xS n + (xSh (n + 1)).2 := by
    show xS n + xSl (n + 1) = _
    unfold xSl
    rw [xbeq hc]
    rfl
  rw [xent3 hc, xrw_s] at e2
  refine va_newq (A := xA base) (H0 := s.heap) X.1 X.2.1 X.2.2.2.1 (X.2.2.2.2.1 _ hw) X.2.2.2.2.2.1.2.2 hKs hP (xws_D b base cI cJ cD n I L P) hS (fun q hq => by show base ≤ q; omega) hz0 hz1 (by omega) (by show k + 1 ≤ mN M; omega) (by show xS n - xS n0 + _ ≤ xS (n0 + mN M) - xS n0; omega) hd (fun q cA H1 hK1 hP1 hD1 hS1 => ?_)
  refine xsz fun hz2 => ?_
  have hqa := xaddr (E' := .inr (0, [])) hP1 hD1 (by omega)
  subst hqa
  have hA : cA = cD := by
    obtain ⟨kA, comp, -, -, -, q1⟩ := (hK1.2 3 (cA, .object "SmellBurdens$Deeds") rfl).2
    obtain ⟨kA2, comp2, -, -, -, q2⟩ := (hKs.2 2 (cD, .object "SmellBurdens$Deeds") rfl).2
    exact Option.some.inj (q1.symm.trans q2)
  subst hA
  have go := hK _ _ _ _ _ _ _ h2 (by omega) (by omega) hI hl H1 locs lsA (e2 ▸ hP1) hS1 hL
  rw [show xS (n + 1) - xS n0 = xS n - xS n0 + (xSh (n + 1)).2 by omega] at go
  exact go
end MAKE
end
section
/-! calls, the JDK's own, ends; a whole walk is sound; contracts -/
section CALLS
variable {p : Program} {l : Launch} {e : Env} {s : State} {m : MethodId} {args : Array Value} {below : List Frame} {meth : Method} {c : Code} {D : va_G} {cI cJ cD : ClassId} {b base n0 : Nat} {scr : Nat → Int32} {M : xM} {cs : xCs} {Q : xQ} {Z : State → Prop}
variable {pc : Nat} {K : xK} {J : Nat → xK} {ls : xV} {st : List Value} {k n : Nat} {I : xI} {L : xL} {P : xR}
theorem xszE (X : xCtx p l e s m args below meth c D cI cJ cD b base n0 scr M cs) (hn : n = n0 + k) {H : Heap} {locs : List Loc} (hP : va_P D vwCl (xws b base cI cJ cD n I L P) H) (hS : va_S (xA base) s.heap H locs) (hz : H.size ≤ s.heap.size + k) : H.size = base + n := by
  have hsz : s.heap.size = base + n0 := X.2.2.2.2.2.2.1
  have h1 := hS.1
  cases n with
  | zero => omega
  | succ n => have := xlt hP (Nat.lt_succ_self n); omega
/-- what a callee is given -/
abbrev xPc (D : va_G) (cI cJ cD : ClassId) (b base n : Nat) (as : List Value) (I : xI) (L : xL) (P : xR) : Array Value → State → Prop := va_Pc (as.map (xv b base)) (fun U => U.heap.size = base + n ∧ va_P D vwCl (xws b base cI cJ cD n I L P) U.heap ∧ xKs D cI cJ cD U)
abbrev xQc (D : va_G) (cI cJ cD : ClassId) (b base n mc : Nat) (I : xI) (Q : xQ) : Array Value → State → Outcome → State → Prop := fun _ st oc t => (∃ (r : Option Value) (I' : xI) (L' : xL) (P' : xR), oc = .returned (r.map (xv b base)) ∧ Q r (n + mc) I' L' P' ∧ I' 0 = I 0 ∧ va_P D vwCl (xws b base cI cJ cD (n + mc) I' L' P') t.heap) ∧ va_F (xA base) st t
theorem xPc_blind {as : List Value} : FrameBlind (xPc D cI cJ cD b base n as I L P) := fun a U g mk q => ⟨q.1, q.2.1, q.2.2.1, xKs.same (u := U) (U := U.calling g mk a) rfl q.2.2.2⟩
theorem xPc_at (X : xCtx p l e s m args below meth c D cI cJ cD b base n0 scr M cs) {as : List Value} {H : Heap} (hP : va_P D vwCl (xws b base cI cJ cD n I L P) H) (hz : H.size = base + n) : ∀ U : State, U.heap = H → s.WarmedH U.vm → xPc D cI cJ cD b base n as I L P (as.map (xv b base)).toArray U := fun U hU hW => ⟨rfl, by rw [hU]; exact hz, by rw [hU]; exact hP, xKs.warm hW X.2.2.2.2.2.1⟩
/-- behind a call -/
theorem xbehind (X : xCtx p l e s m args below meth c D cI cJ cD b base n0 scr M cs) {q : xM × xSpec} {as st' : List Value} {st0 : List Value} (hK : ∀ ls st k n I L P, K Q ls st k n I L P → xAt p l e s m args below meth c D cI cJ cD b base n0 scr M Z (pc + 3) ls st k n I L P) (hkm : k + mN q.1 ≤ mN M) {lsA : Array Slot} {H : Heap} {locs : List Loc} (hn : n = n0 + k) (hI : I 0 = scr) (hl : ls.length = mL M) (hS : va_S (xA base) s.heap H locs) (hL : xLR b base lsA ls) {ar : Array Value}
    (hr : va_Run p l e (mRoom M n0) s m args below meth c H locs k (xS n - xS n0) (mN q.1) (xS (n + mN q.1) - xS n) (F0 m pc lsA st0) (st'.map (xv b base)) (xQc D cI cJ cD b base n (mN q.1) I (fun r n' I' L' P' => K Q ls (r.toList ++ st') (k + mN q.1) n' I' L' P') ar) (xA base)) :
    W p l e (mRoom M n0) s m args below meth c H locs k (xS n - xS n0) Z (F0 m pc lsA st0) := by
  intro T hT Y
  obtain ⟨v, st₀, t, T', L2, h0, Y', hL2, e1, e2, ⟨⟨r, I', L', P', hv, hq, hI', hP'⟩, hz, hkk⟩, stp⟩ := hr T hT Y
  cases hv
  rw [h0] at hz hkk
  have hs1 : va_S (xA base) s.heap T'.heap (locs ++ L2) := ⟨Nat.le_trans hS.1 (by rw [e1]; exact hz), fun q h1 h2 => by rw [e1, hkk q (Nat.lt_of_lt_of_le h1 hS.1) h2]; exact hS.2.1 q h1 h2, fun q hq => by
      rcases List.mem_append.mp hq with h | h
      · exact hS.2.2 q h
      · exact hL2 q h⟩
  have go := hK _ _ _ _ _ _ _ hq (by omega) hkm (by rw [hI']; exact hI) hl T'.heap (locs ++ L2) lsA (by rw [e1]; exact hP') hs1 hL
  have hn0 : xS n0 ≤ xS n := xS_le (by omega)
  have hn1 : xS n ≤ xS (n + mN q.1) := xS_le (by omega)
  rw [show xS (n + mN q.1) - xS n0 = xS n - xS n0 + (xS (n + mN q.1) - xS n) by omega, List.map_append] at go
  obtain ⟨t2, a1, b1⟩ := go T' rfl Y'
  refine ⟨t2, stp t2 ?_, b1⟩
  cases r <;> exact a1
theorem xroom (X : xCtx p l e s m args below meth c D cI cJ cD b base n0 scr M cs) {q : xM × xSpec} (hn : n = n0 + k) (hkm : k + mN q.1 ≤ mN M) : k + mN q.1 ≤ (mRoom M n0).cells ∧ (xS n - xS n0) + (xS (n + mN q.1) - xS n) ≤ (mRoom M n0).slots := by
  refine ⟨hkm, ?_⟩
  show _ ≤ xS (n0 + mN M) - xS n0
  have h1 : xS n0 ≤ xS n := xS_le (by omega)
  have h2 : xS n ≤ xS (n + mN q.1) := xS_le (by omega)
  have h3 : xS (n + mN q.1) ≤ xS (n0 + mN M) := xS_le (by omega)
  omega
theorem xcb (X : xCtx p l e s m args below meth c D cI cJ cD b base n0 scr M cs) {q : xM × xSpec} {i : Nat} (hh : xHd q.1) (hl : Cond.methodLink (mY M).cls i (mY q.1) ∈ xG) (hR : Nat.ble (mF q.1 + 1) (mF M) = true ∧ Nat.ble (8 + (mL q.1 + 11) + mW q.1) (mW M) = true) : CallB (mRoom M n0) s args (mY M).cls i (mY q.1) (mC q.1) (mL q.1) (mT q.1) (mWs q.1) (mRoom q.1 n) (mN q.1) (xS (n + mN q.1) - xS n) (mA q.1) :=
  callB_of (Ts := xG) (mA q.1) X.2.2.2.2.1 (mWs_pay (M := M) hh.1) rfl rfl rfl (X.2.2.2.2.1 _ hh.2.1) (X.2.2.2.2.1 _ hl) ⟨hh.2.2.1.1, hh.2.2.1.2.1, hh.2.2.1.2.2⟩ ⟨Nat.le_of_ble_eq_true hR.1, Nat.le_of_ble_eq_true hR.2⟩
theorem xcn (X : xCtx p l e s m args below meth c D cI cJ cD b base n0 scr M cs) {q : xM × xSpec} {i : Nat} (hh : xHd q.1) (hl : Cond.methodLinkNest (mY M).cls i (mY q.1) "SmellBurdens" ∈ xNest) (hR : Nat.ble (mF q.1 + 1) (mF M) = true ∧ Nat.ble (8 + (mL q.1 + 11) + mW q.1) (mW M) = true) : va_CN (mRoom M n0) s args (mY M).cls i (mY q.1) "SmellBurdens" (mC q.1) (mL q.1) (mT q.1) (mWs q.1) (mRoom q.1 n) (mN q.1) (xS (n + mN q.1) - xS n) (mA q.1) :=
  va_cnB (Ts := xG) (mA q.1) X.2.2.2.2.1 (mWs_pay (M := M) hh.1) rfl rfl rfl (X.2.2.2.2.2.1.2.1 _ hl) (X.2.2.2.2.1 _ hh.2.1) ⟨hh.2.2.1.1, hh.2.2.1.2.1, hh.2.2.1.2.2⟩ ⟨Nat.le_of_ble_eq_true hR.1, Nat.le_of_ble_eq_true hR.2⟩
theorem xcall_e {kd a : Nat} {K : xM → List Value → xQ} (h : xcall M cs a kd k st n I L P K) : ∃ q, cs[a]? = some q ∧ mK q.1 = kd ∧ k + mN q.1 ≤ mN M ∧ ∃ ar st', st = ar ++ st' ∧ ar.length = xsel (mA q.1 + 1) (mA q.1) (mA q.1 + 1) kd ∧ xle 8 st' = true ∧ xrcv kd ar.reverse n (mO q.1) = true ∧ q.2 ar.reverse n I L P (K q.1 st') := by
  unfold xcall at h
  split at h
  · exact absurd h (fun q => q)
  · rename_i q hq
    obtain ⟨hc, h⟩ := xT_e h
    obtain ⟨h1, h2⟩ := xand hc
    obtain ⟨ar, r, e1, e2, h⟩ := xpop_e h
    obtain ⟨h3, h⟩ := xT_e h
    obtain ⟨h4, h⟩ := xT_e h
    rw [List.append_nil] at h h4
    exact ⟨q, hq, xbeq h1, Nat.le_of_ble_eq_true h2, ar.reverse, r, e1, by simpa using e2, h3, by simpa using h4, by simpa using h⟩
theorem xs_virtual (X : xCtx p l e s m args below meth c D cI cJ cD b base n0 scr M cs) {i a : Nat} (hh : ∀ q ∈ cs, xHd q.1) (hc : xRb M cs a = true) (hw : xcon cs a fun m => Cond.methodLink (mY M).cls i (mY m) ∈ xG) (hd : decode (mC M) pc = .ok (.invokevirtual i, 3)) (hK : ∀ ls st k n I L P, K Q ls st k n I L P → xAt p l e s m args below meth c D cI cJ cD b base n0 scr M Z (pc + 3) ls st k n I L P)
    (h : xcall M cs a 0 k st n I L P fun m st' r n' I' L' P' => K Q ls (r.toList ++ st') (k + mN m) n' I' L' P') : xAt p l e s m args below meth c D cI cJ cD b base n0 scr M Z pc ls st k n I L P := by
  obtain ⟨q, hq, hkd, hkm, ar, st', rfl, har, hle, hrc, hsp⟩ := xcall_e h
  unfold xcon at hw
  unfold xRb at hc
  simp only [hq] at hw hc
  have hqm := List.mem_of_getElem? hq
  have hhd := hh q hqm
  intro hn hk hI hl H locs lsA hP hS hL
  refine xsz fun hz => ?_
  have hz := xszE X hn hP hS hz
  have hM := (X.2.2.2.2.2.2.2.2.1 q hqm) D cI cJ cD b base n ar.reverse I L P _ hsp
  have hk2 := hhd.2.2.2
  rw [hkd] at hk2
  obtain ⟨hin, hse, hcl⟩ := hk2
  generalize har2 : ar.reverse = as at hrc hM hsp
  have har3 : ar = as.reverse := by rw [← har2, List.reverse_reverse]
  have hlen : as.length = mA q.1 + 1 := by rw [← har2, List.length_reverse]; exact har
  subst har3
  match as, hrc, hlen, hM with
  | .ref (r + 1) :: as, hrc, hlen, hM =>
    obtain ⟨hr, hrc⟩ := xand (show (Nat.blt r n && (Nat.beq (xSh (r + 1)).1 0 && Nat.beq (xSh (r + 1)).2 (mO q.1))) = true from hrc)
    have hat := xws_at (b := b) (base := base) (cI := cI) (cJ := cJ) (cD := cD) (xblt hr) I L P
    rw [xent0 hrc] at hat
    obtain ⟨qc, hqc, hqn⟩ := Option.map_eq_some_iff.mp hcl
    have hre := va_recv X.2.2.2.2.2.1.1 hP hqc hat
    rw [hqn] at hre
    refine xbehind (q := q) (as := .ref (r + 1) :: as) (st' := st') X hK hkm hn hI hl hS hL (va_runV (C := (mY q.1).cls) (As := as.map (xv b base)) (b := base + r) ⟨X.1, X.2.1, X.2.2.1, X.2.2.2.1, X.2.2.2.2.1⟩ hM ⟨xcb X hhd hw (xand hc), X.2.2.2.2.1 _ hin, X.2.2.2.2.1 _ hse⟩ ⟨xPc_blind, hre, xPc_at X hP hz⟩ rfl (by simpa using hlen) (hL.1.trans hl) ?_ (lv_room (xle_e hle)) hd (xroom X hn hkm))
    simp [xv, xad]
theorem xs_static (X : xCtx p l e s m args below meth c D cI cJ cD b base n0 scr M cs) {i a b9 : Nat} (hh : ∀ q ∈ cs, xHd q.1) (hc : xRb M cs a = true) (hw : xMw M cs i a b9) (hd : decode (mC M) pc = .ok (.invokestatic i, 3)) (hK : ∀ ls st k n I L P, K Q ls st k n I L P → xAt p l e s m args below meth c D cI cJ cD b base n0 scr M Z (pc + 3) ls st k n I L P)
    (h : xcall M cs a 1 k st n I L P fun m st' r n' I' L' P' => K Q ls (r.toList ++ st') (k + mN m) n' I' L' P') : xAt p l e s m args below meth c D cI cJ cD b base n0 scr M Z pc ls st k n I L P := by
  obtain ⟨q, hq, hkd, hkm, ar, st', rfl, har, hle, hrc, hsp⟩ := xcall_e h
  unfold xMw xcon at hw
  unfold xRb at hc
  simp only [hq] at hw hc
  have hqm := List.mem_of_getElem? hq
  have hhd := hh q hqm
  intro hn hk hI hl H locs lsA hP hS hL
  refine xsz fun hz => ?_
  have hz := xszE X hn hP hS hz
  have hM := (X.2.2.2.2.2.2.2.2.1 q hqm) D cI cJ cD b base n ar.reverse I L P _ hsp
  have hk2 := hhd.2.2.2
  rw [hkd] at hk2
  generalize har2 : ar.reverse = as at hrc hM hsp
  have har3 : ar = as.reverse := by rw [← har2, List.reverse_reverse]
  have hlen : as.length = mA q.1 := by rw [← har2, List.length_reverse]; exact har
  subst har3
  cases b9 with
  | zero =>
    have hw : Cond.methodLink (mY M).cls i (mY q.1) ∈ xG := hw
    refine xbehind (q := q) (as := as) (st' := st') X hK hkm hn hI hl hS hL (va_runS (As := as.map (xv b base)) ⟨X.1, X.2.1, X.2.2.1, X.2.2.2.1, X.2.2.2.2.1⟩ hM ⟨xcb X hhd hw (xand hc), X.2.2.2.2.1 _ hk2⟩ ⟨xPc_blind, xPc_at X hP hz⟩ rfl (by simpa using hlen) (hL.1.trans hl) ?_ (lv_room (xle_e hle)) hd (xroom X hn hkm))
    simp
  | succ b9 =>
    have hw : Cond.methodLinkNest (mY M).cls i (mY q.1) "SmellBurdens" ∈ xNest := hw
    refine xbehind (q := q) (as := as) (st' := st') X hK hkm hn hI hl hS hL (va_runSN (host := "SmellBurdens") (As := as.map (xv b base)) ⟨X.1, X.2.1, X.2.2.1, X.2.2.2.1, X.2.2.2.2.1⟩ hM ⟨xcn X hhd hw (xand hc), X.2.2.2.2.1 _ hk2, trivial⟩ ⟨xPc_blind, xPc_at X hP hz⟩ rfl (by simpa using hlen) (hL.1.trans hl) ?_ (lv_room (xle_e hle)) hd (xroom X hn hkm))
    simp
theorem xs_special (X : xCtx p l e s m args below meth c D cI cJ cD b base n0 scr M cs) {i a b9 : Nat} (hh : ∀ q ∈ cs, xHd q.1) (hc : xRb M cs a = true) (hw : xMw M cs i a b9) (hd : decode (mC M) pc = .ok (.invokespecial i, 3)) (hK : ∀ ls st k n I L P, K Q ls st k n I L P → xAt p l e s m args below meth c D cI cJ cD b base n0 scr M Z (pc + 3) ls st k n I L P)
    (h : xcall M cs a 2 k st n I L P fun m st' r n' I' L' P' => K Q ls (r.toList ++ st') (k + mN m) n' I' L' P') : xAt p l e s m args below meth c D cI cJ cD b base n0 scr M Z pc ls st k n I L P := by
  obtain ⟨q, hq, hkd, hkm, ar, st', rfl, har, hle, hrc, hsp⟩ := xcall_e h
  unfold xMw xcon at hw
  unfold xRb at hc
  simp only [hq] at hw hc
  have hqm := List.mem_of_getElem? hq
  have hhd := hh q hqm
  intro hn hk hI hl H locs lsA hP hS hL
  refine xsz fun hz => ?_
  have hz := xszE X hn hP hS hz
  have hM := (X.2.2.2.2.2.2.2.2.1 q hqm) D cI cJ cD b base n ar.reverse I L P _ hsp
  have hk2 := hhd.2.2.2
  rw [hkd] at hk2
  generalize har2 : ar.reverse = as at hrc hM hsp
  have har3 : ar = as.reverse := by rw [← har2, List.reverse_reverse]
  have hlen : as.length = mA q.1 + 1 := by rw [← har2, List.length_reverse]; exact har
  subst har3
  match as, hrc, hlen, hM with
  | .ref r :: as, hrc, hlen, hM =>
    cases b9 with
    | zero =>
      have hw : Cond.methodLink (mY M).cls i (mY q.1) ∈ xG := hw
      refine xbehind (q := q) (as := .ref r :: as) (st' := st') X hK hkm hn hI hl hS hL (va_runI (As := as.map (xv b base)) (b := xad b base r) ⟨X.1, X.2.1, X.2.2.1, X.2.2.2.1, X.2.2.2.2.1⟩ hM ⟨by have := xcb (n := n) X hhd hw (xand hc); rw [hk2.2.2] at this; exact this, hk2.2.1, X.2.2.2.2.1 _ hk2.1⟩ ⟨xPc_blind, xPc_at X hP hz⟩ rfl (by simpa using hlen) (hL.1.trans hl) ?_ (lv_room (xle_e hle)) hd (xroom X hn hkm))
      simp [xv]
    | succ b9 =>
      have hw : Cond.methodLinkNest (mY M).cls i (mY q.1) "SmellBurdens" ∈ xNest := hw
      refine xbehind (q := q) (as := .ref r :: as) (st' := st') X hK hkm hn hI hl hS hL (va_runIN (host := "SmellBurdens") (As := as.map (xv b base)) (b := xad b base r) ⟨X.1, X.2.1, X.2.2.1, X.2.2.2.1, X.2.2.2.2.1⟩ hM ⟨by have := xcn (n := n) X hhd hw (xand hc); rw [hk2.2.2] at this; exact this, hk2.2.1, X.2.2.2.2.1 _ hk2.1⟩ ⟨xPc_blind, xPc_at X hP hz⟩ rfl (by simpa using hlen) (hL.1.trans hl) ?_ (lv_room (xle_e hle)) hd (xroom X hn hkm))
      simp [xv]
end CALLS
end
section
/-! the JDK's own, switches, ends; a whole walk is sound; contracts -/
section ENDS
variable {p : Program} {l : Launch} {e : Env} {s : State} {m : MethodId} {args : Array Value} {below : List Frame} {meth : Method} {c : Code} {D : va_G} {cI cJ cD : ClassId} {b base n0 : Nat} {scr : Nat → Int32} {M : xM} {cs : xCs} {Q : xQ} {Z : State → Prop}
variable {pc : Nat} {K : xK} {J : Nat → xK} {ls : xV} {st : List Value} {k n : Nat} {I : xI} {L : xL} {P : xR}
theorem xcats {st : List Value} (h : xle 8 st = true) : ((st.map (xv b base)).map fun v => v.category).sum ≤ 8 := xle_e h
theorem xs_init (X : xCtx p l e s m args below meth c D cI cJ cD b base n0 scr M cs) {i : Nat} (hf : Nat.ble 1 (mF M) = true ∧ Nat.ble 20 (mW M) = true) (hw : Cond.methodLink (mY M).cls i Lib.objectInit ∈ xG ∧ Cond.instanceMethod Lib.objectInit ∈ xG ∧ Cond.code Lib.objectInit ⟨#[0xb1]⟩ 1 none ∈ xG) (hd : decode (mC M) pc = .ok (.invokespecial i, 3)) (hK : ∀ ls st k n I L P, K Q ls st k n I L P → xAt p l e s m args below meth c D cI cJ cD b base n0 scr M Z (pc + 3) ls st k n I L P)
    (h : xpR st fun _ st => xT (xle 8 st) (K Q ls st k n I L P)) : xAt p l e s m args below meth c D cI cJ cD b base n0 scr M Z pc ls st k n I L P := by
  obtain ⟨r, st', rfl, h2⟩ := xpR_e h
  obtain ⟨hle, h3⟩ := xT_e h2
  intro hn hk hI hl H locs lsA hP hS hL
  have go := hK _ _ _ _ _ _ _ h3 hn hk hI hl H locs lsA hP hS hL
  have h20 : 20 ≤ (mRoom M n0).locals := Nat.le_of_ble_eq_true hf.2
  have h8 := lv_room (m := m) (pc := pc) (ls := lsA) (rest := []) (st := st'.map (xv b base)) (xcats hle)
  exact W.objInit X.1 X.2.1 X.2.2.2.1 (X.2.2.2.2.1 _ hw.1) (X.2.2.2.2.1 _ hw.2.1) (X.2.2.2.2.1 _ hw.2.2) rfl (by rw [X.2.2.1]; exact hL.1.trans hl) rfl hd (Nat.le_of_ble_eq_true hf.1) (by have := xcats (b := b) (base := base) hle; show 2 * 0 + _ + 12 ≤ _; omega) go
theorem xs_max (X : xCtx p l e s m args below meth c D cI cJ cD b base n0 scr M cs) {i : Nat} (hf : Nat.ble 1 (mF M) = true ∧ Nat.ble 21 (mW M) = true) (hw : Cond.methodLink (mY M).cls i Lib.Math.max.name ∈ xG ∧ Cond.static Lib.Math.max.name ∈ xG ∧ Cond.initialized "java/lang/Math" ∈ xG ∧ Cond.code Lib.Math.max.name Lib.Math.max.code 2 (some .int) ∈ xG) (hd : decode (mC M) pc = .ok (.invokestatic i, 3)) (hK : ∀ ls st k n I L P, K Q ls st k n I L P → xAt p l e s m args below meth c D cI cJ cD b base n0 scr M Z (pc + 3) ls st k n I L P)
    (h : xpI st fun y st => xpI st fun x st => xT (xle 8 st) (K Q ls (.int (if x < y then y else x) :: st) k n I L P)) : xAt p l e s m args below meth c D cI cJ cD b base n0 scr M Z pc ls st k n I L P := by
  obtain ⟨y, st1, rfl, h1⟩ := xpI_e h
  obtain ⟨x, st2, e2, h2⟩ := xpI_e h1
  subst e2
  obtain ⟨hle, h3⟩ := xT_e h2
  intro hn hk hI hl H locs lsA hP hS hL
  have go := hK _ _ _ _ _ _ _ h3 hn hk hI hl H locs lsA hP hS hL
  have h21 : 21 ≤ (mRoom M n0).locals := Nat.le_of_ble_eq_true hf.2
  have hs : xS n - xS n0 ≤ (mRoom M n0).slots := by
    show _ ≤ xS (n0 + mN M) - xS n0
    have h2 : xS n ≤ xS (n0 + mN M) := xS_le (by omega)
    omega
  exact va_mmax X.1 X.2.1 (X.2.2.1.trans (hL.1.trans hl).symm) X.2.2.2.1 (X.2.2.2.2.1 _ hw.1) (X.2.2.2.2.1 _ hw.2.1) (X.2.2.2.2.1 _ hw.2.2.1) (X.2.2.2.2.1 _ hw.2.2.2) (Nat.le_of_ble_eq_true hf.1) (by have := xcats (b := b) (base := base) hle; omega) hk hs hd go
theorem xs_min (X : xCtx p l e s m args below meth c D cI cJ cD b base n0 scr M cs) {i : Nat} (hf : Nat.ble 1 (mF M) = true ∧ Nat.ble 21 (mW M) = true) (hw : Cond.methodLink (mY M).cls i Lib.Math.min.name ∈ xG ∧ Cond.static Lib.Math.min.name ∈ xG ∧ Cond.initialized "java/lang/Math" ∈ xG ∧ Cond.code Lib.Math.min.name Lib.Math.min.code 2 (some .int) ∈ xG) (hd : decode (mC M) pc = .ok (.invokestatic i, 3)) (hK : ∀ ls st k n I L P, K Q ls st k n I L P → xAt p l e s m args below meth c D cI cJ cD b base n0 scr M Z (pc + 3) ls st k n I L P)
    (h : xpI st fun y st => xpI st fun x st => xT (xle 8 st) (K Q ls (.int (if y < x then y else x) :: st) k n I L P)) : xAt p l e s m args below meth c D cI cJ cD b base n0 scr M Z pc ls st k n I L P := by
  obtain ⟨y, st1, rfl, h1⟩ := xpI_e h
  obtain ⟨x, st2, e2, h2⟩ := xpI_e h1
  subst e2
  obtain ⟨hle, h3⟩ := xT_e h2
  intro hn hk hI hl H locs lsA hP hS hL
  have go := hK _ _ _ _ _ _ _ h3 hn hk hI hl H locs lsA hP hS hL
  have h21 : 21 ≤ (mRoom M n0).locals := Nat.le_of_ble_eq_true hf.2
  have hs : xS n - xS n0 ≤ (mRoom M n0).slots := by
    show _ ≤ xS (n0 + mN M) - xS n0
    have h2 : xS n ≤ xS (n0 + mN M) := xS_le (by omega)
    omega
  exact va_mmin X.1 X.2.1 (X.2.2.1.trans (hL.1.trans hl).symm) X.2.2.2.1 (X.2.2.2.2.1 _ hw.1) (X.2.2.2.2.1 _ hw.2.1) (X.2.2.2.2.1 _ hw.2.2.1) (X.2.2.2.2.1 _ hw.2.2.2) (Nat.le_of_ble_eq_true hf.1) (by have := xcats (b := b) (base := base) hle; omega) hk hs hd go
theorem xs_copy (X : xCtx p l e s m args below meth c D cI cJ cD b base n0 scr M cs) {i : Nat} (hf : Nat.ble 1 (mF M) = true ∧ Nat.ble (8 + (nativeFrameWords "java/lang/System" "arraycopy" 5 + 11)) (mW M) = true) (hw : Cond.methodLink (mY M).cls i arraycopyName ∈ xG ∧ Cond.native arraycopyName ∈ xG ∧ Cond.static arraycopyName ∈ xG ∧ Cond.initialized "java/lang/System" ∈ xG) (hd : decode (mC M) pc = .ok (.invokestatic i, 3)) (hK : ∀ ls st k n I L P, K Q ls st k n I L P → xAt p l e s m args below meth c D cI cJ cD b base n0 scr M Z (pc + 3) ls st k n I L P)
    (h : xpI st fun mm st => xpI st fun dp st => xpR st fun r1 st => xpI st fun sp st => xpR st fun r0 st => xT (xle 8 st) (match r1, r0 with
          | r1 + 1, r0 + 1 => xT (Nat.blt r1 n && Nat.blt r0 n) (¬ sp < 0 ∧ ¬ dp < 0 ∧ ¬ mm < 0 ∧ sp.toNatClampNeg + mm.toNatClampNeg ≤ (xSh (r0 + 1)).2 ∧ dp.toNatClampNeg + mm.toNatClampNeg ≤ (xSh (r1 + 1)).2 ∧
              (match (xSh (r0 + 1)).1, (xSh (r1 + 1)).1 with
              | 1, 1 => K Q ls st k n (xrw I (r1 + 1) (va_cpy (I (r0 + 1)) (I (r1 + 1)) sp.toNatClampNeg dp.toNatClampNeg mm.toNatClampNeg)) L P
              | 2, 2 => K Q ls st k n I (xrw L (r1 + 1) (va_cpy (L (r0 + 1)) (L (r1 + 1)) sp.toNatClampNeg dp.toNatClampNeg mm.toNatClampNeg)) P
              | _, _ => False))
          | _, _ => False)) : xAt p l e s m args below meth c D cI cJ cD b base n0 scr M Z pc ls st k n I L P := by
  obtain ⟨mm, st1, rfl, h1⟩ := xpI_e h
  obtain ⟨dp, st2, e2, h2⟩ := xpI_e h1
  subst e2
  obtain ⟨r1, st3, e3, h3⟩ := xpR_e h2
  subst e3
  obtain ⟨sp, st4, e4, h4⟩ := xpI_e h3
  subst e4
  obtain ⟨r0, st5, e5, h5⟩ := xpR_e h4
  subst e5
  obtain ⟨hle, h6⟩ := xT_e h5
  match r1, r0, h6 with
  | 0, 0, h6 => exact absurd h6 (fun q => q)
  | 0, r0 + 1, h6 => exact absurd h6 (fun q => q)
  | r1 + 1, 0, h6 => exact absurd h6 (fun q => q)
  | r1 + 1, r0 + 1, h6 =>
    obtain ⟨hrr, g1, g2, g3, g4, g5, g6⟩ := xT_e h6
    obtain ⟨hr1, hr0⟩ := xand hrr
    have hr1 := xblt hr1
    have hr0 := xblt hr0
    intro hn hk hI hl H locs lsA hP hS hL
    have hfr : 1 ≤ (mRoom M n0).frames := Nat.le_of_ble_eq_true hf.1
    have hlo : ((st5.map (xv b base)).map fun v => v.category).sum + (nativeFrameWords "java/lang/System" "arraycopy" 5 + 11) ≤ (mRoom M n0).locals := by
      have h1 : 8 + (nativeFrameWords "java/lang/System" "arraycopy" 5 + 11) ≤ (mRoom M n0).locals := Nat.le_of_ble_eq_true hf.2
      have := xcats (b := b) (base := base) hle
      omega
    revert g6
    generalize e0 : (xSh (r0 + 1)).1 = z0
    generalize e1 : (xSh (r1 + 1)).1 = z1
    intro g6
    split at g6
    · 
      have hc0 : Nat.beq (xSh (r0 + 1)).1 1 = true := by rw [e0]; rfl
      have hc1 : Nat.beq (xSh (r1 + 1)).1 1 = true := by rw [e1]; rfl
      have hat0 := xws_at (b := b) (base := base) (cI := cI) (cJ := cJ) (cD := cD) hr0 I L P
      have hat1 := xws_at (b := b) (base := base) (cI := cI) (cJ := cJ) (cD := cD) hr1 I L P
      rw [xent1 hc0] at hat0
      rw [xent1 hc1] at hat1
      have hset := xws_set (b := b) (base := base) (cI := cI) (cJ := cJ) (cD := cD) hr1 (I := I) (L := L) (P := P) (I' := xrw I (r1 + 1) (va_cpy (I (r0 + 1)) (I (r1 + 1)) sp.toNatClampNeg dp.toNatClampNeg mm.toNatClampNeg)) (L' := L) (P' := P) (e := .inl (cI, (xSh (r1 + 1)).2, .inl (va_cpy (I (r0 + 1)) (I (r1 + 1)) sp.toNatClampNeg dp.toNatClampNeg mm.toNatClampNeg))) (by rw [xent1 hc1, xrw_s]) (fun q hq => ⟨xrw_c _ _ _ hq, rfl, rfl⟩)
      refine va_copyi (R := mRoom M n0) (A := xA base) (H0 := s.heap) (ty := .int) X.1 X.2.1 (X.2.2.1.trans (hL.1.trans hl).symm) X.2.2.2.1 (X.2.2.2.2.1 _ hw.1) (X.2.2.2.2.1 _ hw.2.1) (X.2.2.2.2.1 _ hw.2.2.1) (X.2.2.2.2.1 _ hw.2.2.2) X.2.2.2.2.2.1.1 hP (xws_D b base cI cJ cD n I L P) hS r0 r1 0 0 hat0 hat1 rfl rfl rfl g1 g2 g3 g4 g5 (fun _ _ => rfl) hfr hlo hd (fun H1 locs1 hP1 hD1 hS1 => ?_)
      exact hK _ _ _ _ _ _ _ g6 hn hk (by rw [xrw_c _ _ _ (by omega)]; exact hI) hl H1 locs1 lsA (hset ▸ hP1) hS1 hL
    · 
      have hc0 : Nat.beq (xSh (r0 + 1)).1 2 = true := by rw [e0]; rfl
      have hc1 : Nat.beq (xSh (r1 + 1)).1 2 = true := by rw [e1]; rfl
      have hat0 := xws_at (b := b) (base := base) (cI := cI) (cJ := cJ) (cD := cD) hr0 I L P
      have hat1 := xws_at (b := b) (base := base) (cI := cI) (cJ := cJ) (cD := cD) hr1 I L P
      rw [xent2 hc0] at hat0
      rw [xent2 hc1] at hat1
      have hset := xws_set (b := b) (base := base) (cI := cI) (cJ := cJ) (cD := cD) hr1 (I := I) (L := L) (P := P) (I' := I) (L' := xrw L (r1 + 1) (va_cpy (L (r0 + 1)) (L (r1 + 1)) sp.toNatClampNeg dp.toNatClampNeg mm.toNatClampNeg)) (P' := P) (e := .inl (cJ, (xSh (r1 + 1)).2, .inr (.inl (va_cpy (L (r0 + 1)) (L (r1 + 1)) sp.toNatClampNeg dp.toNatClampNeg mm.toNatClampNeg)))) (by rw [xent2 hc1, xrw_s]) (fun q hq => ⟨rfl, xrw_c _ _ _ hq, rfl⟩)
      refine va_copyl (R := mRoom M n0) (A := xA base) (H0 := s.heap) (ty := .long) X.1 X.2.1 (X.2.2.1.trans (hL.1.trans hl).symm) X.2.2.2.1 (X.2.2.2.2.1 _ hw.1) (X.2.2.2.2.1 _ hw.2.1) (X.2.2.2.2.1 _ hw.2.2.1) (X.2.2.2.2.1 _ hw.2.2.2) X.2.2.2.2.2.1.1 hP (xws_D b base cI cJ cD n I L P) hS r0 r1 1 1 hat0 hat1 rfl rfl rfl g1 g2 g3 g4 g5 (fun _ _ => rfl) hfr hlo hd (fun H1 locs1 hP1 hD1 hS1 => ?_)
      exact hK _ _ _ _ _ _ _ g6 hn hk hI hl H1 locs1 lsA (hset ▸ hP1) hS1 hL
    · exact absurd g6 (fun q => q)
theorem xsw_e {tb : List (Nat × Nat)} {x : Int32} {d : Nat} {J : Nat → Prop} (h : xsw x tb J d) : (∃ q ∈ tb, x = nI q.1 ∧ J q.2) ∨ ((∀ q ∈ tb, ¬ x = nI q.1) ∧ J d) := by
  induction tb with
  | nil => exact Or.inr ⟨fun q hq => absurd hq List.not_mem_nil, h⟩
  | cons q r ih =>
    have h : xbr (x = nI q.1) (J q.2) (xsw x r J d) := h
    by_cases hx : x = nI q.1
    · exact Or.inl ⟨q, List.mem_cons_self, hx, h.1 hx⟩
    · rcases ih (h.2 hx) with ⟨q', h1, h2⟩ | ⟨h1, h2⟩
      · exact Or.inl ⟨q', List.mem_cons_of_mem _ h1, h2⟩
      · refine Or.inr ⟨fun q' hq' => ?_, h2⟩
        rcases List.mem_cons.mp hq' with rfl | hq'
        · exact hx
        · exact h1 q' hq'
theorem xs_table (X : xCtx p l e s m args below meth c D cI cJ cD b base n0 scr M cs) {d lo hi : Int} {offs : Array Int} {len a : Nat} {tb : List (Nat × Nat)} (hc : (decide ((pc : Int) + d = (a : Int)) && (decide (hi = lo + (tb.length : Int) - 1) && (decide (0 ≤ lo) && decide (hi < 1000))) && (List.range tb.length).all fun j => (match tb[j]?, offs[j]? with
        | some q, some o => decide ((q.1 : Int) = lo + (j : Int)) && decide ((pc : Int) + o = (q.2 : Int))
        | _, _ => false)) = true) (hd : decode (mC M) pc = .ok (.tableswitch d lo hi offs, len)) (hJ : ∀ t ls st k n I L P, J t Q ls st k n I L P → xAt p l e s m args below meth c D cI cJ cD b base n0 scr M Z t ls st k n I L P)
    (h : xpI st fun x st => xsw x tb (fun t => J t Q ls st k n I L P) a) : xAt p l e s m args below meth c D cI cJ cD b base n0 scr M Z pc ls st k n I L P := by
  obtain ⟨x, st1, rfl, h1⟩ := xpI_e h
  obtain ⟨hc1, hc2⟩ := xand hc
  obtain ⟨ha, hc1⟩ := xand hc1
  obtain ⟨hhi, hc1⟩ := xand hc1
  obtain ⟨hlo, hhi2⟩ := xand hc1
  have ha := of_decide_eq_true ha
  have hhi := of_decide_eq_true hhi
  have hlo := of_decide_eq_true hlo
  have hhi2 := of_decide_eq_true hhi2
  have key : ∀ j, j < tb.length → ∃ q o, tb[j]? = some q ∧ offs[j]? = some o ∧ (q.1 : Int) = lo + (j : Int) ∧ (pc : Int) + o = (q.2 : Int) := fun j hj => by
    have h2 := List.all_eq_true.mp hc2 j (List.mem_range.mpr hj)
    split at h2
    · rename_i q o e1 e2
      obtain ⟨g1, g2⟩ := xand h2
      exact ⟨q, o, e1, e2, of_decide_eq_true g1, of_decide_eq_true g2⟩
    · cases h2
  intro hn hk hI hl H locs lsA hP hS hL
  rcases xsw_e h1 with ⟨q, hq, hx, h2⟩ | ⟨h3, h2⟩
  · obtain ⟨j, hjq⟩ := List.getElem?_of_mem hq
    have hj : j < tb.length := (List.getElem?_eq_some_iff.mp hjq).1
    obtain ⟨q', o, e1, e2, g1, g2⟩ := key j hj
    have hqq : q' = q := Option.some.inj (e1.symm.trans hjq)
    subst hqq
    have hxi : x.toInt = (q'.1 : Int) := by rw [hx]; exact nI_toInt (by omega)
    exact lv_tableIn X.1 X.2.1 hd (by omega) (by omega) (by rw [show (x.toInt - lo).toNat = j by omega]; exact e2) g2 (hJ _ _ _ _ _ _ _ _ h2 hn hk hI hl H locs lsA hP hS hL)
  · refine lv_tableOut X.1 X.2.1 hd ?_ ha (hJ _ _ _ _ _ _ _ _ h2 hn hk hI hl H locs lsA hP hS hL)
    by_cases g : x.toInt < lo
    · exact Or.inl g
    · right
      apply Classical.byContradiction
      intro g2
      have hj : (x.toInt - lo).toNat < tb.length := by omega
      obtain ⟨q, o, e1, -, g3, -⟩ := key _ hj
      refine h3 q (List.mem_of_getElem? e1) (Int32.toInt_inj.mp ?_)
      rw [nI_toInt (by omega)]
      omega
theorem xlo {pc : Nat} {d : Int} {a : Nat} (ha : (pc : Int) + d = (a : Int)) : ∀ {tb : List (Nat × Nat)} {x : Int32} {J : Nat → Prop}, (tb.all fun q => Nat.blt q.1 1000) = true → xsw x tb J a → ∃ t : Nat, (pc : Int) + Op.lookupswitch.offset (tb.map fun q => ((q.1 : Int), (q.2 : Int) - (pc : Int))) d x.toInt = (t : Int) ∧ J t
  | [], x, J, _, h => ⟨a, ha, h⟩
  | q :: r, x, J, hb, h => by
    have h : xbr (x = nI q.1) (J q.2) (xsw x r J a) := h
    simp only [List.all_cons, Bool.and_eq_true] at hb
    have hq := xblt hb.1
    by_cases hx : x = nI q.1
    · refine ⟨q.2, ?_, h.1 hx⟩
      rw [List.map_cons, Op.lookupswitch.offset_cons, if_pos (by rw [hx, nI_toInt (by omega)])]
      omega
    · obtain ⟨t, h1, h2⟩ := xlo ha (tb := r) hb.2 (h.2 hx)
      refine ⟨t, ?_, h2⟩
      rw [List.map_cons, lv_osw hx (nI_toInt (by omega))]
      exact h1
theorem xs_lookup (X : xCtx p l e s m args below meth c D cI cJ cD b base n0 scr M cs) {d : Int} {ps : Array (Int × Int)} {len a : Nat} {tb : List (Nat × Nat)} (hc : (decide ((pc : Int) + d = (a : Int)) && ((ps.toList.zip (ps.toList.drop 1)).all (fun (a, next) => a.1 < next.1) && decide (ps.toList = tb.map fun q => ((q.1 : Int), (q.2 : Int) - (pc : Int)))) && tb.all fun q => Nat.blt q.1 1000) = true) (hd : decode (mC M) pc = .ok (.lookupswitch d ps, len)) (hJ : ∀ t ls st k n I L P, J t Q ls st k n I L P → xAt p l e s m args below meth c D cI cJ cD b base n0 scr M Z t ls st k n I L P)
    (h : xpI st fun x st => xsw x tb (fun t => J t Q ls st k n I L P) a) : xAt p l e s m args below meth c D cI cJ cD b base n0 scr M Z pc ls st k n I L P := by
  obtain ⟨x, st1, rfl, h1⟩ := xpI_e h
  obtain ⟨hc1, hb⟩ := xand hc
  obtain ⟨ha, hc1⟩ := xand hc1
  obtain ⟨hs, hps⟩ := xand hc1
  have ha := of_decide_eq_true ha
  have hps := of_decide_eq_true hps
  obtain ⟨t, h2, h3⟩ := xlo ha hb h1
  intro hn hk hI hl H locs lsA hP hS hL
  exact lv_lookup X.1 X.2.1 hd hs rfl (by rw [hps]; exact h2) (hJ _ _ _ _ _ _ _ _ h3 hn hk hI hl H locs lsA hP hS hL)
/-- an end -/
theorem xs_end (X : xCtx p l e s m args below meth c D cI cJ cD b base n0 scr M cs) (R : xRt p l e s m args below meth c D cI cJ cD b base n0 scr M Q Z) {ins : Instr} (r : Option Value) (hd : decode (mC M) pc = .ok (ins, 1)) (hr : xRw M r ins) (h : xT (Nat.beq k (mN M)) (Q r n I L P)) : xAt p l e s m args below meth c D cI cJ cD b base n0 scr M Z pc ls r.toList k n I L P := by
  obtain ⟨hk, h2⟩ := xT_e h
  have hk := xbeq hk
  subst hk
  intro hn _ hI hl H locs lsA hP hS hL
  exact R r pc n ins I L P hd hr h2 hn hI H locs lsA hP hS
end ENDS
end
section
/-! a step, a walk, a contract: sound -/
section ALL
variable {p : Program} {l : Launch} {e : Env} {s : State} {m : MethodId} {args : Array Value} {below : List Frame} {meth : Method} {c : Code} {D : va_G} {cI cJ cD : ClassId} {b base n0 : Nat} {scr : Nat → Int32} {M : xM} {cs : xCs} {Q : xQ} {Z : State → Prop}
variable {pc : Nat} {K : xK} {J : Nat → xK} {ls : xV} {st : List Value} {k n : Nat} {I : xI} {L : xL} {P : xR}
set_option maxHeartbeats 4000000 in
theorem xstep_ok (X : xCtx p l e s m args below meth c D cI cJ cD b base n0 scr M cs) (R : xRt p l e s m args below meth c D cI cJ cD b base n0 scr M Q Z) (hh : ∀ q ∈ cs, xHd q.1) {ee : xE} (hd : decode (mC M) ee.1 = .ok (ee.2.2.1, ee.2.1)) (hc : xChk M cs ee = true) (hw : xWrd M cs ee) (hK : ∀ ls st k n I L P, K Q ls st k n I L P → xAt p l e s m args below meth c D cI cJ cD b base n0 scr M Z (ee.1 + ee.2.1) ls st k n I L P) (hJ : ∀ t ls st k n I L P, J t Q ls st k n I L P → xAt p l e s m args below meth c D cI cJ cD b base n0 scr M Z t ls st k n I L P)
    (h : xstep M cs Q ee K J ls st k n I L P) : xAt p l e s m args below meth c D cI cJ cD b base n0 scr M Z ee.1 ls st k n I L P := by
  obtain ⟨pc, len, ins, a9, b9, c9, tb⟩ := ee
  dsimp only at hd hK
  show xAt p l e s m args below meth c D cI cJ cD b base n0 scr M Z pc ls st k n I L P
  cases ins with
  | iadd =>
    have hlen := xbeq hc
    subst hlen
    exact xs_iadd X hd hK h
  | isub =>
    have hlen := xbeq hc
    subst hlen
    exact xs_isub X hd hK h
  | imul =>
    have hlen := xbeq hc
    subst hlen
    exact xs_imul X hd hK h
  | iand =>
    have hlen := xbeq hc
    subst hlen
    exact xs_iand X hd hK h
  | ior =>
    have hlen := xbeq hc
    subst hlen
    exact xs_ior X hd hK h
  | ixor =>
    have hlen := xbeq hc
    subst hlen
    exact xs_ixor X hd hK h
  | ishl =>
    have hlen := xbeq hc
    subst hlen
    exact xs_ishl X hd hK h
  | ishr =>
    have hlen := xbeq hc
    subst hlen
    exact xs_ishr X hd hK h
  | ladd =>
    have hlen := xbeq hc
    subst hlen
    exact xs_ladd X hd hK h
  | lsub =>
    have hlen := xbeq hc
    subst hlen
    exact xs_lsub X hd hK h
  | lmul =>
    have hlen := xbeq hc
    subst hlen
    exact xs_lmul X hd hK h
  | land =>
    have hlen := xbeq hc
    subst hlen
    exact xs_land X hd hK h
  | lor =>
    have hlen := xbeq hc
    subst hlen
    exact xs_lor X hd hK h
  | lxor =>
    have hlen := xbeq hc
    subst hlen
    exact xs_lxor X hd hK h
  | lcmp =>
    have hlen := xbeq hc
    subst hlen
    exact xs_lcmp X hd hK h
  | iushr =>
    have hlen := xbeq hc
    subst hlen
    exact xs_iushr X hd hK h
  | lushr =>
    have hlen := xbeq hc
    subst hlen
    exact xs_lushr X hd hK h
  | lshl =>
    have hlen := xbeq hc
    subst hlen
    exact xs_lshl X hd hK h
  | idiv =>
    have hlen := xbeq hc
    subst hlen
    exact xs_idiv X hd hK h
  | irem =>
    have hlen := xbeq hc
    subst hlen
    exact xs_irem X hd hK h
  | ldiv =>
    have hlen := xbeq hc
    subst hlen
    exact xs_ldiv X hd hK h
  | lrem =>
    have hlen := xbeq hc
    subst hlen
    exact xs_lrem X hd hK h
  | i2l =>
    have hlen := xbeq hc
    subst hlen
    exact xs_i2l X hd hK h
  | l2i =>
    have hlen := xbeq hc
    subst hlen
    exact xs_l2i X hd hK h
  | i2b =>
    have hlen := xbeq hc
    subst hlen
    exact xs_i2b X hd hK h
  | pop =>
    have hlen := xbeq hc
    subst hlen
    exact xs_pop X hd hK h
  | dup =>
    have hlen := xbeq hc
    subst hlen
    exact xs_dup X hd hK h
  | dup2 =>
    have hlen := xbeq hc
    subst hlen
    exact xs_dup2 X hd hK h
  | aconst_null =>
    have hlen := xbeq hc
    subst hlen
    exact xs_null X hd hK h
  | iconst i =>
    obtain ⟨hlen, hc2⟩ := xand hc
    have hlen := xbeq hlen
    subst hlen
    exact xs_iconst X (xbeq hc2) hd hK h
  | bipush i =>
    obtain ⟨hlen, hc2⟩ := xand hc
    have hlen := xbeq hlen
    subst hlen
    obtain ⟨h3, h5⟩ := xand hc2
    obtain ⟨h3, h4⟩ := xand h3
    exact xs_bipush X (xbeq h3) (xblt h4) (of_decide_eq_true h5) hd hK h
  | sipush i =>
    obtain ⟨hlen, hc2⟩ := xand hc
    have hlen := xbeq hlen
    subst hlen
    obtain ⟨h3, h5⟩ := xand hc2
    obtain ⟨h3, h4⟩ := xand h3
    exact xs_sipush X (xbeq h3) (xblt h4) (of_decide_eq_true h5) hd hK h
  | lconst i =>
    obtain ⟨hlen, hc2⟩ := xand hc
    have hlen := xbeq hlen
    subst hlen
    exact xs_lconst X (xbeq hc2) hd hK h
  | ldc i =>
    have hlen := xbeq hc
    subst hlen
    exact xs_ldc X hw hd hK h
  | ldc_w i =>
    have hlen := xbeq hc
    subst hlen
    exact xs_ldcw X hw hd hK h
  | ldc2_w i =>
    have hlen := xbeq hc
    subst hlen
    exact xs_ldc2 X hw hd hK h
  | iload i =>
    obtain ⟨hlen, hc2⟩ := xand hc
    have hlen := xbeq hlen
    subst hlen
    exact xs_iload X (xbeq hc2) hd hK h
  | iload_n i =>
    obtain ⟨hlen, hc2⟩ := xand hc
    have hlen := xbeq hlen
    subst hlen
    exact xs_iload_n X (xbeq hc2) hd hK h
  | lload i =>
    obtain ⟨hlen, hc2⟩ := xand hc
    have hlen := xbeq hlen
    subst hlen
    exact xs_lload X (xbeq hc2) hd hK h
  | lload_n i =>
    obtain ⟨hlen, hc2⟩ := xand hc
    have hlen := xbeq hlen
    subst hlen
    exact xs_lload_n X (xbeq hc2) hd hK h
  | aload i =>
    obtain ⟨hlen, hc2⟩ := xand hc
    have hlen := xbeq hlen
    subst hlen
    exact xs_aload X (xbeq hc2) hd hK h
  | aload_n i =>
    obtain ⟨hlen, hc2⟩ := xand hc
    have hlen := xbeq hlen
    subst hlen
    exact xs_aload_n X (xbeq hc2) hd hK h
  | istore i =>
    obtain ⟨hlen, hc2⟩ := xand hc
    have hlen := xbeq hlen
    subst hlen
    exact xs_istore X (xbeq hc2) hd hK h
  | istore_n i =>
    obtain ⟨hlen, hc2⟩ := xand hc
    have hlen := xbeq hlen
    subst hlen
    exact xs_istore_n X (xbeq hc2) hd hK h
  | lstore i =>
    obtain ⟨hlen, hc2⟩ := xand hc
    have hlen := xbeq hlen
    subst hlen
    exact xs_lstore X (xbeq hc2) hd hK h
  | lstore_n i =>
    obtain ⟨hlen, hc2⟩ := xand hc
    have hlen := xbeq hlen
    subst hlen
    exact xs_lstore_n X (xbeq hc2) hd hK h
  | astore i =>
    obtain ⟨hlen, hc2⟩ := xand hc
    have hlen := xbeq hlen
    subst hlen
    exact xs_astore X (xbeq hc2) hd hK h
  | astore_n i =>
    obtain ⟨hlen, hc2⟩ := xand hc
    have hlen := xbeq hlen
    subst hlen
    exact xs_astore_n X (xbeq hc2) hd hK h
  | iinc i d =>
    obtain ⟨hlen, hc2⟩ := xand hc
    have hlen := xbeq hlen
    subst hlen
    obtain ⟨h3, h4⟩ := xand hc2
    exact xs_iinc X (xbeq h3) (xbeq h4) hd hK h
  | goto off =>
    obtain ⟨hlen, hc2⟩ := xand hc
    have hlen := xbeq hlen
    subst hlen
    exact xs_goto X (of_decide_eq_true hc2) hd (hJ _) h
  | if_icmp cnd off =>
    obtain ⟨hlen, hc2⟩ := xand hc
    have hlen := xbeq hlen
    subst hlen
    exact xs_icmp X (of_decide_eq_true hc2) hd hK (hJ _) h
  | ifCond cnd off =>
    obtain ⟨hlen, hc2⟩ := xand hc
    have hlen := xbeq hlen
    subst hlen
    exact xs_if X (of_decide_eq_true hc2) hd hK (hJ _) h
  | ifnull off =>
    obtain ⟨hlen, hc2⟩ := xand hc
    have hlen := xbeq hlen
    subst hlen
    exact xs_ifnull X (of_decide_eq_true hc2) hd hK (hJ _) h
  | ifnonnull off =>
    obtain ⟨hlen, hc2⟩ := xand hc
    have hlen := xbeq hlen
    subst hlen
    exact xs_ifnonnull X (of_decide_eq_true hc2) hd hK (hJ _) h
  | tableswitch d lo hi offs =>
    exact xs_table X hc hd hJ h
  | lookupswitch d ps =>
    exact xs_lookup X hc hd hJ h
  | getfield i =>
    obtain ⟨hlen, hc2⟩ := xand hc
    have hlen := xbeq hlen
    subst hlen
    exact xs_getfield X (xblt hc2) hw hd hK h
  | putfield i =>
    obtain ⟨hlen, hc2⟩ := xand hc
    have hlen := xbeq hlen
    subst hlen
    obtain ⟨h3, h4⟩ := xand hc2
    exact xs_putfield X (xblt h3) hw hd hK h
  | arraylength =>
    have hlen := xbeq hc
    subst hlen
    exact xs_alen X hd hK h
  | iaload =>
    have hlen := xbeq hc
    subst hlen
    exact xs_iald X hd hK h
  | laload =>
    have hlen := xbeq hc
    subst hlen
    exact xs_lald X hd hK h
  | aaload =>
    have hlen := xbeq hc
    subst hlen
    exact xs_aald X hd hK h
  | iastore =>
    have hlen := xbeq hc
    subst hlen
    exact xs_iast X hd hK h
  | lastore =>
    have hlen := xbeq hc
    subst hlen
    exact xs_last X hd hK h
  | aastore =>
    have hlen := xbeq hc
    subst hlen
    exact xs_aast X hd hK h
  | new i =>
    have hlen := xbeq hc
    subst hlen
    exact xs_new X hw hd hK h
  | newarray t =>
    obtain ⟨hlen, hc2⟩ := xand hc
    have hlen := xbeq hlen
    subst hlen
    exact xs_newa X hc2 hw hd hK h
  | anewarray i =>
    have hlen := xbeq hc
    subst hlen
    exact xs_newq X hw hd hK h
  | invokevirtual i =>
    obtain ⟨hlen, hc2⟩ := xand hc
    have hlen := xbeq hlen
    subst hlen
    exact xs_virtual X hh hc2 hw hd hK h
  | invokespecial i =>
    obtain ⟨hlen, hc2⟩ := xand hc
    have hlen := xbeq hlen
    subst hlen
    match c9, hc2, hw, h with
    | 0, hc2, hw, h => exact xs_special X hh hc2 hw hd hK h
    | c9 + 1, hc2, hw, h => exact xs_init X (xand hc2) hw hd hK h
  | invokestatic i =>
    obtain ⟨hlen, hc2⟩ := xand hc
    have hlen := xbeq hlen
    subst hlen
    match c9, hc2, hw, h with
    | 0, hc2, hw, h => exact xs_static X hh hc2 hw hd hK h
    | 1, hc2, hw, h => exact xs_max X (xand hc2) hw hd hK h
    | 2, hc2, hw, h => exact xs_min X (xand hc2) hw hd hK h
    | c9 + 3, hc2, hw, h => exact xs_copy X (xand hc2) hw hd hK h
  | return_ =>
    have hlen := xbeq hc
    subst hlen
    match st, h with
    | [], h =>
      have h : (match mT M with
          | none => xT (Nat.beq k (mN M)) (Q none n I L P)
          | _ => False) := h
      split at h
      · rename_i ht
        exact xs_end X R none hd ht h
      · exact absurd h (fun q => q)
  | ireturn =>
    have hlen := xbeq hc
    subst hlen
    match st, h with
    | [.int x], h =>
      have h : (match mT M with
          | some .int => xT (Nat.beq k (mN M)) (Q (some (.int x)) n I L P)
          | some .boolean => (x = nI 0 ∨ x = nI 1) ∧ xT (Nat.beq k (mN M)) (Q (some (.int x)) n I L P)
          | _ => False) := h
      split at h
      · rename_i ht
        exact xs_end X R (some (.int x)) hd (Or.inl ht) h
      · rename_i ht
        exact xs_end X R (some (.int x)) hd (Or.inr ⟨ht, h.1⟩) h.2
      · exact absurd h (fun q => q)
  | lreturn =>
    have hlen := xbeq hc
    subst hlen
    match st, h with
    | [.long x], h =>
      have h : (match mT M with
          | some .long => xT (Nat.beq k (mN M)) (Q (some (.long x)) n I L P)
          | _ => False) := h
      split at h
      · rename_i ht
        exact xs_end X R (some (.long x)) hd ht h
      · exact absurd h (fun q => q)
  | areturn =>
    have hlen := xbeq hc
    subst hlen
    match st, h with
    | [.ref x], h =>
      have h : (match mT M with
          | some (.object _) => xT (Nat.beq k (mN M)) (Q (some (.ref x)) n I L P)
          | _ => False) := h
      split at h
      · rename_i C ht
        exact xs_end X R (some (.ref x)) hd ⟨C, ht⟩ h
      · exact absurd h (fun q => q)
    | [.null], h =>
      have h : (match mT M with
          | some (.object _) => xT (Nat.beq k (mN M)) (Q (some .null) n I L P)
          | _ => False) := h
      split at h
      · rename_i C ht
        exact xs_end X R (some .null) hd ⟨C, ht⟩ h
      · exact absurd h (fun q => q)
  | _ => exact absurd h (fun q => q)
end ALL
end
section
/-! a walk is sound; a contract out of a walk -/
def xChain : List xE → Bool
  | e :: r => (match r with
    | [] => true
    | e' :: _ => Nat.beq e'.1 (e.1 + e.2.1)) && xChain r
  | [] => true
def xNeed (i : Instr) : Bool := match i with
  | .ldc _ => true
  | .ldc_w _ => true
  | .ldc2_w _ => true
  | .getfield _ => true
  | .putfield _ => true
  | .new _ => true
  | .newarray _ => true
  | .anewarray _ => true
  | .invokevirtual _ => true
  | .invokespecial _ => true
  | .invokestatic _ => true
  | _ => false
def xWs (M : xM) (cs : xCs) : List xE → Prop
  | [] => True
  | e :: r => match xNeed e.2.2.1 with
    | true => xWrd M cs e ∧ xWs M cs r
    | false => xWs M cs r
def xDec (cc : ByteArray) (t : List xE) : Bool := t.all fun e => decide (decode cc e.1 = .ok (e.2.2.1, e.2.1))
def xOkM (M : xM) (cs : xCs) : Prop := xDec (mC M) (mP M) = true ∧ (mP M).all (xChk M cs) = true ∧ xChain (mP M) = true ∧ xWs M cs (mP M)
theorem xNeed_n {M : xM} {cs : xCs} {e : xE} (h : xNeed e.2.2.1 = false) : xWrd M cs e := by
  obtain ⟨pc, len, ins, a, b, c, tb⟩ := e
  cases ins <;> first | exact trivial | exact Bool.noConfusion h
theorem xWs_e {M : xM} {cs : xCs} : ∀ {t : List xE}, xWs M cs t → ∀ e ∈ t, xWrd M cs e
  | [], _, e, he => absurd he List.not_mem_nil
  | e0 :: r, h, e, he => by
    unfold xWs at h
    rcases List.mem_cons.mp he with rfl | he
    · cases hn : xNeed e.2.2.1 with
      | false => exact xNeed_n hn
      | true => rw [hn] at h; exact h.1
    · cases hn : xNeed e0.2.2.1 with
      | false => rw [hn] at h; exact xWs_e h e he
      | true => rw [hn] at h; exact xWs_e h.2 e he
theorem xChain_e {e e' : xE} {r : List xE} : ∀ {pre : List xE}, xChain (pre ++ e :: e' :: r) = true → e'.1 = e.1 + e.2.1
  | [], h => by
    unfold xChain at h
    exact xbeq (xand h).1
  | p :: pre, h => by
    have h : xChain (p :: (pre ++ e :: e' :: r)) = true := h
    unfold xChain at h
    exact xChain_e (xand h).2
section WALK
variable {p : Program} {l : Launch} {e : Env} {s : State} {m : MethodId} {args : Array Value} {below : List Frame} {meth : Method} {c : Code} {D : va_G} {cI cJ cD : ClassId} {b base n0 : Nat} {scr : Nat → Int32} {M : xM} {cs : xCs} {Q : xQ} {Z : State → Prop}
theorem xAt_mask {ls : xV} {st : List Value} {k n pc : Nat} {I : xI} {L : xL} {P : xR} {mk : List Bool} (h : xAt p l e s m args below meth c D cI cJ cD b base n0 scr M Z pc (xmask mk ls) st k n I L P) : xAt p l e s m args below meth c D cI cJ cD b base n0 scr M Z pc ls st k n I L P :=
  fun hn hk hI hl H locs lsA hP hS hL => h hn hk hI (by rw [xmask_len]; exact hl) H locs lsA hP hS ⟨by rw [xmask_len]; exact hL.1, hL.2.1, fun i v hv => hL.2.2 i v (xmask_e hv)⟩
theorem xfe_e {t : Nat} {k : xE → Option Nat → Prop} : ∀ {c : List xE}, xfe t c k → ∃ pre e r q, c = pre ++ e :: r ∧ e.1 = t ∧ k e q ∧ (∀ e' r', r = e' :: r' → q = some e'.1) ∧ (r = [] → q = none)
  | [], h => absurd h (fun q => q)
  | e0 :: r0, h => by
    unfold xfe at h
    cases hb : Nat.beq e0.1 t with
    | true =>
      rw [hb] at h
      cases r0 with
      | nil => exact ⟨[], e0, [], none, rfl, xbeq hb, h, fun e' r' q => (by cases q), fun _ => rfl⟩
      | cons e1 r1 => exact ⟨[], e0, e1 :: r1, some e1.1, rfl, xbeq hb, h, fun e' r' q => (by cases q; rfl), fun q => (by cases q)⟩
    | false =>
      rw [hb] at h
      obtain ⟨pre, e, r, q, h1, h2, h3, h4, h5⟩ := xfe_e (c := r0) h
      exact ⟨e0 :: pre, e, r, q, by rw [h1]; rfl, h2, h3, h4, h5⟩
theorem xnx_e {cut : List (Nat × List Bool)} {g : Nat → xK} {w : Nat → xK} {t : Nat} {ls : xV} {st : List Value} {k n : Nat} {I : xI} {L : xL} {P : xR} (hg : ∀ pc ls st k n I L P, g pc Q ls st k n I L P → xAt p l e s m args below meth c D cI cJ cD b base n0 scr M Z pc ls st k n I L P)
    (hw : ∀ t ls st k n I L P, w t Q ls st k n I L P → xAt p l e s m args below meth c D cI cJ cD b base n0 scr M Z t ls st k n I L P) (h : xnx cut g w t Q ls st k n I L P) : xAt p l e s m args below meth c D cI cJ cD b base n0 scr M Z t ls st k n I L P := by
  unfold xnx at h
  split at h
  · exact xAt_mask (hg _ _ _ _ _ _ _ _ h)
  · exact hw _ _ _ _ _ _ _ _ h
theorem xwp_ok (X : xCtx p l e s m args below meth c D cI cJ cD b base n0 scr M cs) (R : xRt p l e s m args below meth c D cI cJ cD b base n0 scr M Q Z) (hh : ∀ q ∈ cs, xHd q.1) (hM : xOkM M cs) {g : Nat → xK} {cut : List (Nat × List Bool)} (hg : ∀ pc ls st k n I L P, g pc Q ls st k n I L P → xAt p l e s m args below meth c D cI cJ cD b base n0 scr M Z pc ls st k n I L P) :
    ∀ (f t : Nat) (ls : xV) (st : List Value) (k n : Nat) (I : xI) (L : xL) (P : xR), xwp M cs g cut f t Q ls st k n I L P → xAt p l e s m args below meth c D cI cJ cD b base n0 scr M Z t ls st k n I L P := by
  intro f
  induction f with
  | zero =>
    intro t ls st k n I L P h
    exact hg _ _ _ _ _ _ _ _ h
  | succ f ih =>
    intro t ls st k n I L P h
    unfold xwp at h
    obtain ⟨pre, e0, r, q, hpre, ht, h9, hq, hq0⟩ := xfe_e h
    subst ht
    have hmem : e0 ∈ mP M := by rw [hpre]; exact List.mem_append_right _ List.mem_cons_self
    obtain ⟨h1, h2, h3, h4⟩ := hM
    have hd : decode (mC M) e0.1 = .ok (e0.2.2.1, e0.2.1) := of_decide_eq_true (List.all_eq_true.mp h1 e0 hmem)
    have hc : xChk M cs e0 = true := List.all_eq_true.mp h2 e0 hmem
    refine xstep_ok X R hh hd hc (xWs_e h4 e0 hmem) (fun ls st k n I L P h => ?_) (fun t ls st k n I L P h => ?_) h9
    · cases r with
      | nil =>
        rw [hq0 rfl] at h
        exact absurd h (fun q => q)
      | cons e1 r1 =>
        rw [hq e1 r1 rfl] at h
        have hat := xnx_e (M := M) (Z := Z) hg ih h
        rw [xChain_e (pre := pre) (by rw [← hpre]; exact h3)] at hat
        exact hat
    · exact xnx_e (M := M) (Z := Z) hg ih h
end WALK
/-- go on by computation -/
theorem xrun {M : xM} {cs : xCs} {Q : xQ} (hM : xOkM M cs) (hh : ∀ q ∈ cs, xHd q.1) (cut : List (Nat × List Bool)) (f : Nat) {pc : Nat} {ls : xV} {st : List Value} {k n : Nat} {I : xI} {L : xL} {P : xR} (h : xwp M cs (xGo M cs) cut f pc Q ls st k n I L P) : xGo M cs pc Q ls st k n I L P := by
  intro p l e s m args below meth c D cI cJ cD b base n0 scr Z X R
  exact xwp_ok X R hh hM (fun pc ls st k n I L P h => h p l e s m args below meth c D cI cJ cD b base n0 scr Z X R) f pc ls st k n I L P h
def xlay : List Value → xV
  | [] => []
  | v :: r => match v with
    | .long x => some (.long x) :: none :: xlay r
    | .double x => some (.double x) :: none :: xlay r
    | v => some v :: xlay r
def xpad (n : Nat) (as : List Value) : xV := xlay as ++ List.replicate (n - (xlay as).length) none
theorem xlay_at {b base : Nat} : ∀ {as : List Value} {o i : Nat} {v : Value}, (xlay as)[i]? = some (some v) → (o + i, xv b base v) ∈ lv_args o (as.map (xv b base))
  | [], o, i, v, h => by simp [xlay] at h
  | w :: r, o, i, v, h => by
    have one : w.category = 1 → (some w :: xlay r)[i]? = some (some v) → (o + i, xv b base v) ∈ lv_args o ((w :: r).map (xv b base)) := fun hc h => by
      rw [List.map_cons]
      unfold lv_args
      rw [xv_cat, hc]
      cases i with
      | zero => simp at h; subst h; exact List.mem_cons_self
      | succ i =>
        refine List.mem_cons_of_mem _ ?_
        have := xlay_at (b := b) (base := base) (as := r) (o := o + 1) (i := i) (v := v) (by simpa using h)
        rw [show o + (i + 1) = o + 1 + i by omega]
        simpa using this
    have two : w.category = 2 → (some w :: none :: xlay r)[i]? = some (some v) → (o + i, xv b base v) ∈ lv_args o ((w :: r).map (xv b base)) := fun hc h => by
      rw [List.map_cons]
      unfold lv_args
      rw [xv_cat, hc]
      match i, h with
      | 0, h => simp at h; subst h; exact List.mem_cons_self
      | 1, h => simp at h
      | i + 2, h =>
        refine List.mem_cons_of_mem _ ?_
        have := xlay_at (b := b) (base := base) (as := r) (o := o + 2) (i := i) (v := v) (by simpa using h)
        rw [show o + (i + 2) = o + 2 + i by omega]
        simpa using this
    cases w with
    | long x => exact two rfl h
    | double x => exact two rfl h
    | int x => exact one rfl h
    | float x => exact one rfl h
    | null => exact one rfl h
    | ref x => exact one rfl h
    | retAddr x => exact one rfl h
theorem xlay_len {b base : Nat} : ∀ {as : List Value}, (lg_sl (as.map (xv b base))).length = (xlay as).length
  | [] => rfl
  | w :: r => by
    have ih := xlay_len (b := b) (base := base) (as := r)
    cases w <;> (simp only [List.map_cons, lg_sl, List.flatMap_cons, List.length_append] at ih ⊢; rw [ih]; simp [xlay, xv, Value.category]; try omega)
theorem xentry {b base n : Nat} {as : List Value} (h : (xlay as).length ≤ n) : xLR b base ((lg_sl (as.map (xv b base)) ++ List.replicate (n - (lg_sl (as.map (xv b base))).length) Slot.unset).toArray) (xpad n as) := by
  have hl := lv_entry (as.map (xv b base)) (n := n) (by rw [xlay_len]; exact h)
  refine ⟨by rw [hl.1, xpad]; simp; omega, hl.2.1, fun i v hv => ?_⟩
  have hv2 : (xlay as)[i]? = some (some v) := by
    unfold xpad at hv
    by_cases hi : i < (xlay as).length
    · rwa [List.getElem?_append_left hi] at hv
    · rw [List.getElem?_append_right (by omega), List.getElem?_replicate] at hv
      split at hv <;> simp at hv
  have := hl.2.2 (0 + i, xv b base v) (xlay_at hv2)
  simpa using this
theorem xcon_of {M : xM} {cs : xCs} {sp : xSpec} (hM : xOkM M cs) (hd : xHd M) (hp : plainName (mY M).cls = true) (hk9 : mK M ≠ 9) (hh : ∀ q ∈ cs, xHd q.1) (hcs : ∀ q ∈ cs, ∀ l, xCon l q.1 q.2)
    (hgo : ∀ (as : List Value) (n : Nat) (I : xI) (L : xL) (P : xR) (Q : xQ), sp as n I L P Q → (xlay as).length ≤ mL M ∧ xGo M cs 0 Q (xpad (mL M) as) [] 0 n I L P) : ∀ l, xCon l M sp := by
  intro l D cI cJ cD b base n as I L P Q hsp
  obtain ⟨hlen, hgo⟩ := hgo as n I L P Q hsp
  refine Met.ofW (cc := mC M) (maxL := mL M) (ret := mT M) hp rfl ?_
  intro p e s m args below meth c s₁ B hml hv
  obtain ⟨rfl, hsz, hP, hK⟩ := hv
  have hts : ∀ w ∈ xG, w.before (as.map (xv b base)).toArray s = true := fun w hw => atoms_spec (ws := mWs M) B.pre w (List.mem_cons_of_mem _ hw)
  have hlocks := B.notSynchronized
  have hr := B.returns
  have X : xCtx p l e s m (as.map (xv b base)).toArray below meth c D cI cJ cD b base n (I 0) M cs := ⟨B.exec, B.bytes, hml, findClass_of_methodNamed B.named, hts, hK, hsz, fun hn => (name_of_methodNamed B.named B.method).1.trans hn, fun q hq => hcs q hq l, fun h => absurd h hk9⟩
  have R : xRt p l e s m (as.map (xv b base)).toArray below meth c D cI cJ cD b base n (I 0) M Q (MQ below (fun _ st oc t => (∃ (r : Option Value) (I' : xI) (L' : xL) (P' : xR), oc = .returned (r.map (xv b base)) ∧ Q r (n + mN M) I' L' P' ∧ I' 0 = I 0 ∧ va_P D vwCl (xws b base cI cJ cD (n + mN M) I' L' P') t.heap) ∧ va_F (xA base) st t) (as.map (xv b base)).toArray s (mN M) (xS (n + mN M) - xS n) (xA base)) := by
    intro r pc n1 ins I1 L1 P1 hdg hrw hq hn1 hI1 H locs lsA hP1 hS1
    subst hn1
    have post : ∀ t : State, t.heap = H → s.WarmedH t.vm → (∃ (r' : Option Value) (I' : xI) (L' : xL) (P' : xR), Outcome.returned (r.map (xv b base)) = .returned (r'.map (xv b base)) ∧ Q r' (n + mN M) I' L' P' ∧ I' 0 = I 0 ∧ va_P D vwCl (xws b base cI cJ cD (n + mN M) I' L' P') t.heap) ∧ va_F (xA base) s t := fun t ht hW => ⟨⟨r, I1, L1, P1, rfl, hq, hI1, by rw [ht]; exact hP1⟩, hS1.F ht⟩
    unfold xRw at hrw
    split at hrw
    · exact W.vret B.exec B.bytes (hr.trans hrw) post hS1.2.2 hdg
    · rename_i x
      rcases hrw with ht | ⟨ht, hx⟩
      · exact W.iret B.exec B.bytes (hr.trans ht) post hS1.2.2 hdg
      · exact W.zret B.exec B.bytes (hr.trans ht) (by rcases hx with rfl | rfl <;> rfl) post hS1.2.2 hdg
    · exact W.lret B.exec B.bytes (hr.trans hrw) post hS1.2.2 hdg
    · obtain ⟨C, ht⟩ := hrw
      exact W.aret B.exec B.bytes (hr.trans ht) (Or.inl ⟨C, rfl⟩) (Or.inr ⟨_, rfl⟩) post hS1.2.2 hdg
    · obtain ⟨C, ht⟩ := hrw
      exact W.aret B.exec B.bytes (hr.trans ht) (Or.inl ⟨C, rfl⟩) (Or.inl rfl) post hS1.2.2 hdg
    · exact absurd hrw (fun q => q)
  have hS : va_S (xA base) s.heap s.heap [] := va_S.rf
  rw [lg_entry_eq]
  have go := hgo p l e s m _ below meth c D cI cJ cD b base n (I 0) _ X R rfl (Nat.zero_le _) rfl (by unfold xpad; simp; omega) s.heap [] _ hP hS (xentry hlen)
  rw [Nat.sub_self] at go
  exact go
end
section
/-! 14.prog-jdk: printed of the program by wip/whole/gen_prog.py -/
theorem wdAi : Cond.arrayClass .int ∈ xG := xg (w := (Jvm.Cond.arrayClass Jvm.ClassFile.FieldType.int)) (xt1 (List.mem_of_getElem? (i := 44) (by decide +kernel))) rfl
theorem wdAl : Cond.arrayClass .long ∈ xG := xg (w := (Jvm.Cond.arrayClass Jvm.ClassFile.FieldType.long)) (xt1 (List.mem_of_getElem? (i := 122) (by decide +kernel))) rfl
theorem wdObj : Cond.instanceMethod Lib.objectInit ∈ xG ∧ Cond.code Lib.objectInit ⟨#[0xb1]⟩ 1 none ∈ xG := ⟨xg (w := (Jvm.Cond.instanceMethod ({ cls := "java/lang/Object", name := "<init>", desc := "()V" } : Jvm.MethodName))) (xt1 (List.mem_of_getElem? (i := 23) (by decide +kernel))) rfl, xg (w := (Jvm.Cond.code ({ cls := "java/lang/Object", name := "<init>", desc := "()V" } : Jvm.MethodName) object_method_1_code (1 : Nat) (Option.none : Option Jvm.ClassFile.FieldType))) (xt1 (List.mem_of_getElem? (i := 24) (by decide +kernel))) rfl⟩
theorem wdMax : Cond.static Lib.Math.max.name ∈ xG ∧ Cond.initialized "java/lang/Math" ∈ xG ∧ Cond.code Lib.Math.max.name Lib.Math.max.code 2 (some .int) ∈ xG := ⟨xg (w := (Jvm.Cond.static ({ cls := "java/lang/Math", name := "max", desc := "(II)I" } : Jvm.MethodName))) (xt1 (List.mem_of_getElem? (i := 32) (by decide +kernel))) rfl, xg (w := (Jvm.Cond.initialized "java/lang/Math")) (xt1 (List.mem_of_getElem? (i := 3) (by decide +kernel))) rfl, xg (w := (Jvm.Cond.code ({ cls := "java/lang/Math", name := "max", desc := "(II)I" } : Jvm.MethodName) prog_16_method_65_code (2 : Nat) (Option.some Jvm.ClassFile.FieldType.int))) (xt1 (List.mem_of_getElem? (i := 33) (by decide +kernel))) rfl⟩
theorem wdMin : Cond.static Lib.Math.min.name ∈ xG ∧ Cond.initialized "java/lang/Math" ∈ xG ∧ Cond.code Lib.Math.min.name Lib.Math.min.code 2 (some .int) ∈ xG := ⟨xg (w := (Jvm.Cond.static ({ cls := "java/lang/Math", name := "min", desc := "(II)I" } : Jvm.MethodName))) (xt4 (List.mem_of_getElem? (i := 59) (by decide +kernel))) rfl, xg (w := (Jvm.Cond.initialized "java/lang/Math")) (xt1 (List.mem_of_getElem? (i := 3) (by decide +kernel))) rfl, xg (w := (Jvm.Cond.code ({ cls := "java/lang/Math", name := "min", desc := "(II)I" } : Jvm.MethodName) prog_16_method_69_code (2 : Nat) (Option.some Jvm.ClassFile.FieldType.int))) (xt4 (List.mem_of_getElem? (i := 60) (by decide +kernel))) rfl⟩
theorem wdCpy : Cond.native arraycopyName ∈ xG ∧ Cond.static arraycopyName ∈ xG ∧ Cond.initialized "java/lang/System" ∈ xG := ⟨xg (w := (Jvm.Cond.native ({ cls := "java/lang/System", name := "arraycopy", desc := "(Ljava/lang/Object;ILjava/lang/Object;II)V" } : Jvm.MethodName))) (xt2 (List.mem_of_getElem? (i := 34) (by decide +kernel))) rfl, xg (w := (Jvm.Cond.static ({ cls := "java/lang/System", name := "arraycopy", desc := "(Ljava/lang/Object;ILjava/lang/Object;II)V" } : Jvm.MethodName))) (xt2 (List.mem_of_getElem? (i := 33) (by decide +kernel))) rfl, xg (w := (Jvm.Cond.initialized "java/lang/System")) (xt1 (List.mem_of_getElem? (i := 11) (by decide +kernel))) rfl⟩
theorem wdN0 : Cond.instantiable "SmellBurdens$Chances" 2 ∈ xG ∧ Cond.initialized "SmellBurdens$Chances" ∈ xG := ⟨xg (w := (Jvm.Cond.instantiable "SmellBurdens$Chances" (2 : Nat))) (xt1 (List.mem_of_getElem? (i := 145) (by decide +kernel))) rfl, xg (w := (Jvm.Cond.initialized "SmellBurdens$Chances")) (xt1 (List.mem_of_getElem? (i := 9) (by decide +kernel))) rfl⟩
theorem wdN1 : Cond.instantiable "SmellBurdens$Deeds" 4 ∈ xG ∧ Cond.initialized "SmellBurdens$Deeds" ∈ xG := ⟨xg (w := (Jvm.Cond.instantiable "SmellBurdens$Deeds" (4 : Nat))) (xt1 (List.mem_of_getElem? (i := 102) (by decide +kernel))) rfl, xg (w := (Jvm.Cond.initialized "SmellBurdens$Deeds")) (xt1 (List.mem_of_getElem? (i := 6) (by decide +kernel))) rfl⟩
theorem wdN2 : Cond.instantiable "SmellBurdens$Foresight" 1 ∈ xG ∧ Cond.initialized "SmellBurdens$Foresight" ∈ xG := ⟨xg (w := (Jvm.Cond.instantiable "SmellBurdens$Foresight" (1 : Nat))) (xt1 (List.mem_of_getElem? (i := 125) (by decide +kernel))) rfl, xg (w := (Jvm.Cond.initialized "SmellBurdens$Foresight")) (xt1 (List.mem_of_getElem? (i := 7) (by decide +kernel))) rfl⟩
theorem wdN3 : Cond.instantiable "SmellBurdens$Plain" 5 ∈ xG ∧ Cond.initialized "SmellBurdens$Plain" ∈ xG := ⟨xg (w := (Jvm.Cond.instantiable "SmellBurdens$Plain" (5 : Nat))) (xt1 (List.mem_of_getElem? (i := 52) (by decide +kernel))) rfl, xg (w := (Jvm.Cond.initialized "SmellBurdens$Plain")) (xt1 (List.mem_of_getElem? (i := 5) (by decide +kernel))) rfl⟩
theorem wdN4 : Cond.instantiable "SmellBurdens$Reader" 5 ∈ xG ∧ Cond.initialized "SmellBurdens$Reader" ∈ xG := ⟨xg (w := (Jvm.Cond.instantiable "SmellBurdens$Reader" (5 : Nat))) (xt1 (List.mem_of_getElem? (i := 46) (by decide +kernel))) rfl, xg (w := (Jvm.Cond.initialized "SmellBurdens$Reader")) (xt1 (List.mem_of_getElem? (i := 4) (by decide +kernel))) rfl⟩
theorem wdN5 : Cond.instantiable "SmellBurdens$Shelf" 3 ∈ xG ∧ Cond.initialized "SmellBurdens$Shelf" ∈ xG := ⟨xg (w := (Jvm.Cond.instantiable "SmellBurdens$Shelf" (3 : Nat))) (xt1 (List.mem_of_getElem? (i := 26) (by decide +kernel))) rfl, xg (w := (Jvm.Cond.initialized "SmellBurdens$Shelf")) (xt1 (List.mem_of_getElem? (i := 2) (by decide +kernel))) rfl⟩
theorem wdN6 : Cond.instantiable "SmellBurdens$Wall" 1 ∈ xG ∧ Cond.initialized "SmellBurdens$Wall" ∈ xG := ⟨xg (w := (Jvm.Cond.instantiable "SmellBurdens$Wall" (1 : Nat))) (xt1 (List.mem_of_getElem? (i := 135) (by decide +kernel))) rfl, xg (w := (Jvm.Cond.initialized "SmellBurdens$Wall")) (xt1 (List.mem_of_getElem? (i := 8) (by decide +kernel))) rfl⟩
theorem wdN7 : Cond.instantiable "SmellBurdens" 12 ∈ xG ∧ Cond.initialized "SmellBurdens" ∈ xG := ⟨xg (w := (Jvm.Cond.instantiable "SmellBurdens" (12 : Nat))) (xt1 (List.mem_of_getElem? (i := 18) (by decide +kernel))) rfl, xg (w := (Jvm.Cond.initialized "SmellBurdens")) (xt1 (List.mem_of_getElem? (i := 1) (by decide +kernel))) rfl⟩
theorem wdN8 : Cond.instantiable "SmellBurdensModel" 32 ∈ xG ∧ Cond.initialized "SmellBurdensModel" ∈ xG := ⟨xg (w := (Jvm.Cond.instantiable "SmellBurdensModel" (32 : Nat))) (xt4 (List.mem_of_getElem? (i := 178) (by decide +kernel))) rfl, xg (w := (Jvm.Cond.initialized "SmellBurdensModel")) (xt1 (List.mem_of_getElem? (i := 10) (by decide +kernel))) rfl⟩
theorem wdJ6_265 : (Jvm.Cond.constant "java/lang/Integer" (265 : Nat) (1431655765 : Int32)) ∈ xG := xg (xt2 (List.mem_of_getElem? (i := 204) (by decide +kernel))) rfl
theorem wdJ6_266 : (Jvm.Cond.constant "java/lang/Integer" (266 : Nat) (858993459 : Int32)) ∈ xG := xg (xt2 (List.mem_of_getElem? (i := 205) (by decide +kernel))) rfl
theorem wdJ6_267 : (Jvm.Cond.constant "java/lang/Integer" (267 : Nat) (252645135 : Int32)) ∈ xG := xg (xt2 (List.mem_of_getElem? (i := 206) (by decide +kernel))) rfl
def pJ6_bitCount_0f7a4 : List xE := [(0, 1, .iload_n 0, 0, 0, 0, []), (1, 1, .iload_n 0, 0, 0, 0, []), (2, 1, .iconst 1, 1, 0, 0, []), (3, 1, .iushr, 0, 0, 0, []), (4, 3, .ldc_w 265, 1431655765, 0, 0, []), (7, 1, .iand, 0, 0, 0, []), (8, 1, .isub, 0, 0, 0, []), (9, 1, .istore_n 0, 0, 0, 0, []), (10, 1, .iload_n 0, 0, 0, 0, []), (11, 3, .ldc_w 266, 858993459, 0, 0, []), (14, 1, .iand, 0, 0, 0, []), (15, 1, .iload_n 0, 0, 0, 0, []), (16, 1, .iconst 2, 2, 0, 0, []), (17, 1, .iushr, 0, 0, 0, []), (18, 3, .ldc_w 266, 858993459, 0, 0, []), (21, 1, .iand, 0, 0, 0, []), (22, 1, .iadd, 0, 0, 0, []), (23, 1, .istore_n 0, 0, 0, 0, []), (24, 1, .iload_n 0, 0, 0, 0, []), (25, 1, .iload_n 0, 0, 0, 0, []), (26, 1, .iconst 4, 4, 0, 0, []), (27, 1, .iushr, 0, 0, 0, []), (28, 1, .iadd, 0, 0, 0, []), (29, 3, .ldc_w 267, 252645135, 0, 0, []), (32, 1, .iand, 0, 0, 0, []), (33, 1, .istore_n 0, 0, 0, 0, []), (34, 1, .iload_n 0, 0, 0, 0, []), (35, 1, .iload_n 0, 0, 0, 0, []), (36, 2, .bipush 8, 8, 0, 0, []), (38, 1, .iushr, 0, 0, 0, []), (39, 1, .iadd, 0, 0, 0, []), (40, 1, .istore_n 0, 0, 0, 0, []), (41, 1, .iload_n 0, 0, 0, 0, []), (42, 1, .iload_n 0, 0, 0, 0, []), (43, 2, .bipush 16, 16, 0, 0, []), (45, 1, .iushr, 0, 0, 0, []), (46, 1, .iadd, 0, 0, 0, []), (47, 1, .istore_n 0, 0, 0, 0, []), (48, 1, .iload_n 0, 0, 0, 0, []), (49, 2, .bipush 63, 63, 0, 0, []), (51, 1, .iand, 0, 0, 0, []), (52, 1, .ireturn, 0, 0, 0, [])]
def mJ6_bitCount_0f7a4 : xM := (yJ6_bitCount_0f7a4, cJ6_bitCount_0f7a4, 1, (some FieldType.int), 1, 1, 0, 0, 0, 0, pJ6_bitCount_0f7a4)
theorem dJ6_bitCount_0f7a4 : xDec cJ6_bitCount_0f7a4 pJ6_bitCount_0f7a4 = true := by decide +kernel
theorem hJ6_bitCount_0f7a4 : xHd mJ6_bitCount_0f7a4 := ⟨xg (w := (Jvm.Cond.code ({ cls := "java/lang/Integer", name := "bitCount", desc := "(I)I" } : Jvm.MethodName) prog_14_method_49_code (1 : Nat) (Option.some Jvm.ClassFile.FieldType.int))) (xt2 (List.mem_of_getElem? (i := 203) (by decide +kernel))) rfl, xg (w := (Jvm.Cond.initialized "java/lang/Integer")) (xt1 (List.mem_of_getElem? (i := 14) (by decide +kernel))) rfl, ⟨by decide +kernel, by decide +kernel, by decide +kernel⟩, xg (w := (Jvm.Cond.static ({ cls := "java/lang/Integer", name := "bitCount", desc := "(I)I" } : Jvm.MethodName))) (xt2 (List.mem_of_getElem? (i := 202) (by decide +kernel))) rfl⟩
theorem wdJ13_314 : (Jvm.Cond.constantLong "java/lang/Long" (314 : Nat) (6148914691236517205 : Int64)) ∈ xG := xg (xt4 (List.mem_of_getElem? (i := 133) (by decide +kernel))) rfl
theorem wdJ13_316 : (Jvm.Cond.constantLong "java/lang/Long" (316 : Nat) (3689348814741910323 : Int64)) ∈ xG := xg (xt4 (List.mem_of_getElem? (i := 134) (by decide +kernel))) rfl
theorem wdJ13_318 : (Jvm.Cond.constantLong "java/lang/Long" (318 : Nat) (1085102592571150095 : Int64)) ∈ xG := xg (xt4 (List.mem_of_getElem? (i := 135) (by decide +kernel))) rfl
def pJ13_bitCount_95d88 : List xE := [(0, 1, .lload_n 0, 0, 0, 0, []), (1, 1, .lload_n 0, 0, 0, 0, []), (2, 1, .iconst 1, 1, 0, 0, []), (3, 1, .lushr, 0, 0, 0, []), (4, 3, .ldc2_w 314, 6148914691236517205, 0, 0, []), (7, 1, .land, 0, 0, 0, []), (8, 1, .lsub, 0, 0, 0, []), (9, 1, .lstore_n 0, 0, 0, 0, []), (10, 1, .lload_n 0, 0, 0, 0, []), (11, 3, .ldc2_w 316, 3689348814741910323, 0, 0, []), (14, 1, .land, 0, 0, 0, []), (15, 1, .lload_n 0, 0, 0, 0, []), (16, 1, .iconst 2, 2, 0, 0, []), (17, 1, .lushr, 0, 0, 0, []), (18, 3, .ldc2_w 316, 3689348814741910323, 0, 0, []), (21, 1, .land, 0, 0, 0, []), (22, 1, .ladd, 0, 0, 0, []), (23, 1, .lstore_n 0, 0, 0, 0, []), (24, 1, .lload_n 0, 0, 0, 0, []), (25, 1, .lload_n 0, 0, 0, 0, []), (26, 1, .iconst 4, 4, 0, 0, []), (27, 1, .lushr, 0, 0, 0, []), (28, 1, .ladd, 0, 0, 0, []), (29, 3, .ldc2_w 318, 1085102592571150095, 0, 0, []), (32, 1, .land, 0, 0, 0, []), (33, 1, .lstore_n 0, 0, 0, 0, []), (34, 1, .lload_n 0, 0, 0, 0, []), (35, 1, .lload_n 0, 0, 0, 0, []), (36, 2, .bipush 8, 8, 0, 0, []), (38, 1, .lushr, 0, 0, 0, []), (39, 1, .ladd, 0, 0, 0, []), (40, 1, .lstore_n 0, 0, 0, 0, []), (41, 1, .lload_n 0, 0, 0, 0, []), (42, 1, .lload_n 0, 0, 0, 0, []), (43, 2, .bipush 16, 16, 0, 0, []), (45, 1, .lushr, 0, 0, 0, []), (46, 1, .ladd, 0, 0, 0, []), (47, 1, .lstore_n 0, 0, 0, 0, []), (48, 1, .lload_n 0, 0, 0, 0, []), (49, 1, .lload_n 0, 0, 0, 0, []), (50, 2, .bipush 32, 32, 0, 0, []), (52, 1, .lushr, 0, 0, 0, []), (53, 1, .ladd, 0, 0, 0, []), (54, 1, .lstore_n 0, 0, 0, 0, []), (55, 1, .lload_n 0, 0, 0, 0, []), (56, 1, .l2i, 0, 0, 0, []), (57, 2, .bipush 127, 127, 0, 0, []), (59, 1, .iand, 0, 0, 0, []), (60, 1, .ireturn, 0, 0, 0, [])]
def mJ13_bitCount_95d88 : xM := (yJ13_bitCount_95d88, cJ13_bitCount_95d88, 2, (some FieldType.int), 1, 1, 0, 0, 0, 0, pJ13_bitCount_95d88)
theorem dJ13_bitCount_95d88 : xDec cJ13_bitCount_95d88 pJ13_bitCount_95d88 = true := by decide +kernel
theorem hJ13_bitCount_95d88 : xHd mJ13_bitCount_95d88 := ⟨xg (w := (Jvm.Cond.code ({ cls := "java/lang/Long", name := "bitCount", desc := "(J)I" } : Jvm.MethodName) prog_15_method_50_code (2 : Nat) (Option.some Jvm.ClassFile.FieldType.int))) (xt4 (List.mem_of_getElem? (i := 132) (by decide +kernel))) rfl, xg (w := (Jvm.Cond.initialized "java/lang/Long")) (xt1 (List.mem_of_getElem? (i := 16) (by decide +kernel))) rfl, ⟨by decide +kernel, by decide +kernel, by decide +kernel⟩, xg (w := (Jvm.Cond.static ({ cls := "java/lang/Long", name := "bitCount", desc := "(J)I" } : Jvm.MethodName))) (xt4 (List.mem_of_getElem? (i := 131) (by decide +kernel))) rfl⟩
end
section
/-! 15.prog-small: printed of the program by wip/whole/gen_prog.py -/
theorem wdX0_3 : (Jvm.Cond.methodLink "SmellBurdens$Chances" (3 : Nat) ({ cls := "java/lang/Object", name := "<init>", desc := "()V" } : Jvm.MethodName)) ∈ xG := xg (xt1 (List.mem_of_getElem? (i := 149) (by decide +kernel))) rfl
theorem wdX0_9 : (Jvm.Cond.fieldLink "SmellBurdens$Chances" (9 : Nat) "SmellBurdens$Chances" "over" "J") ∈ xG := xg (xt1 (List.mem_of_getElem? (i := 150) (by decide +kernel))) rfl
theorem wdX0_15 : (Jvm.Cond.fieldLink "SmellBurdens$Chances" (15 : Nat) "SmellBurdens$Chances" "under" "J") ∈ xG := xg (xt1 (List.mem_of_getElem? (i := 152) (by decide +kernel))) rfl
def pX0_init : List xE := [(0, 1, .aload_n 0, 0, 0, 0, []), (1, 3, .invokespecial 3, 0, 0, 1, []), (4, 1, .aload_n 0, 0, 0, 0, []), (5, 1, .lconst 0, 0, 0, 0, []), (6, 3, .putfield 9, 0, 0, 0, []), (9, 1, .aload_n 0, 0, 0, 0, []), (10, 1, .lconst 1, 1, 0, 0, []), (11, 3, .putfield 15, 0, 1, 0, []), (14, 1, .return_, 0, 0, 0, [])]
def mX0_init : xM := (yX0_init, cX0_init, 1, (none : Option FieldType), 2, 0, 0, 1, 20, 0, pX0_init)
theorem dX0_init : xDec cX0_init pX0_init = true := by decide +kernel
theorem hX0_init : xHd mX0_init := ⟨xg (w := (Jvm.Cond.code ({ cls := "SmellBurdens$Chances", name := "<init>", desc := "()V" } : Jvm.MethodName) prog_2_method_1_code (1 : Nat) (Option.none : Option Jvm.ClassFile.FieldType))) (xt1 (List.mem_of_getElem? (i := 148) (by decide +kernel))) rfl, xg (w := (Jvm.Cond.initialized "SmellBurdens$Chances")) (xt1 (List.mem_of_getElem? (i := 9) (by decide +kernel))) rfl, ⟨by decide +kernel, by decide +kernel, by decide +kernel⟩, xg (w := (Jvm.Cond.instanceMethod ({ cls := "SmellBurdens$Chances", name := "<init>", desc := "()V" } : Jvm.MethodName))) (xt1 (List.mem_of_getElem? (i := 147) (by decide +kernel))) rfl, rfl, rfl⟩
theorem wdX0_18 : (Jvm.Cond.fieldLinkNest "SmellBurdens$Chances" (18 : Nat) "SmellBurdens$Plain" "asses" "I" "SmellBurdens") ∈ xNest := by decide +kernel
theorem wdX0_24 : (Jvm.Cond.methodLink "SmellBurdens$Chances" (24 : Nat) ({ cls := "SmellBurdens$Plain", name := "takesOf", desc := "(JII)I" } : Jvm.MethodName)) ∈ xG := xg (xt4 (List.mem_of_getElem? (i := 69) (by decide +kernel))) rfl
theorem wdX0_28 : (Jvm.Cond.methodLink "SmellBurdens$Chances" (28 : Nat) ({ cls := "SmellBurdens$Plain", name := "takerOf", desc := "(II)I" } : Jvm.MethodName)) ∈ xG := xg (xt4 (List.mem_of_getElem? (i := 70) (by decide +kernel))) rfl
theorem wdX0_32 : (Jvm.Cond.methodLink "SmellBurdens$Chances" (32 : Nat) ({ cls := "SmellBurdens$Chances", name := "weight", desc := "(LSmellBurdens$Plain;II)J" } : Jvm.MethodName)) ∈ xG := xg (xt4 (List.mem_of_getElem? (i := 71) (by decide +kernel))) rfl
theorem wdX0_36 : (Jvm.Cond.methodLink "SmellBurdens$Chances" (36 : Nat) ({ cls := "SmellBurdens$Chances", name := "power", desc := "(II)J" } : Jvm.MethodName)) ∈ xG := xg (xt4 (List.mem_of_getElem? (i := 75) (by decide +kernel))) rfl
theorem wdX0_40 : (Jvm.Cond.methodLink "SmellBurdens$Chances" (40 : Nat) ({ cls := "SmellBurdens$Chances", name := "keepLowest", desc := "(JJ)V" } : Jvm.MethodName)) ∈ xG := xg (xt4 (List.mem_of_getElem? (i := 78) (by decide +kernel))) rfl
def pX0_ofTaking : List xE := [(0, 1, .lconst 0, 0, 0, 0, []), (1, 2, .lstore 6, 6, 0, 0, []), (3, 1, .iconst 0, 0, 0, 0, []), (4, 2, .istore 8, 8, 0, 0, []), (6, 2, .iload 8, 8, 0, 0, []), (8, 1, .iconst 1, 1, 0, 0, []), (9, 1, .aload_n 1, 1, 0, 0, []), (10, 3, .getfield 18, 3, 0, 1, []), (13, 1, .ishl, 0, 0, 0, []), (14, 3, .if_icmp .ge 45, 59, 0, 0, []), (17, 1, .aload_n 1, 1, 0, 0, []), (18, 1, .lload_n 2, 2, 0, 0, []), (19, 2, .bipush 27, 27, 0, 0, []), (21, 2, .iload 8, 8, 0, 0, []), (23, 3, .invokevirtual 24, 0, 0, 0, []), (26, 2, .istore 9, 9, 0, 0, []), (28, 2, .iload 9, 9, 0, 0, []), (30, 2, .iload 4, 4, 0, 0, []), (32, 3, .invokestatic 28, 1, 0, 0, []), (35, 2, .bipush (-9), 9, 0, 0, []), (37, 3, .if_icmp .eq 16, 53, 0, 0, []), (40, 2, .lload 6, 6, 0, 0, []), (42, 1, .aload_n 1, 1, 0, 0, []), (43, 2, .iload 8, 8, 0, 0, []), (45, 2, .iload 5, 5, 0, 0, []), (47, 3, .invokestatic 32, 2, 0, 0, []), (50, 1, .ladd, 0, 0, 0, []), (51, 2, .lstore 6, 6, 0, 0, []), (53, 3, .iinc 8 1, 8, 1, 0, []), (56, 3, .goto (-50), 6, 0, 0, []), (59, 1, .aload_n 0, 0, 0, 0, []), (60, 2, .lload 6, 6, 0, 0, []), (62, 2, .bipush 12, 12, 0, 0, []), (64, 1, .aload_n 1, 1, 0, 0, []), (65, 3, .getfield 18, 3, 0, 1, []), (68, 3, .invokestatic 36, 3, 0, 0, []), (71, 3, .invokevirtual 40, 4, 0, 0, []), (74, 1, .return_, 0, 0, 0, [])]
def mX0_ofTaking : xM := (yX0_ofTaking, cX0_ofTaking, 10, (none : Option FieldType), 0, 4, 0, 5, 129, 0, pX0_ofTaking)
theorem dX0_ofTaking : xDec cX0_ofTaking pX0_ofTaking = true := by decide +kernel
theorem hX0_ofTaking : xHd mX0_ofTaking := ⟨xg (w := (Jvm.Cond.code ({ cls := "SmellBurdens$Chances", name := "ofTaking", desc := "(LSmellBurdens$Plain;JII)V" } : Jvm.MethodName) prog_2_method_2_code (10 : Nat) (Option.none : Option Jvm.ClassFile.FieldType))) (xt4 (List.mem_of_getElem? (i := 68) (by decide +kernel))) rfl, xg (w := (Jvm.Cond.initialized "SmellBurdens$Chances")) (xt1 (List.mem_of_getElem? (i := 9) (by decide +kernel))) rfl, ⟨by decide +kernel, by decide +kernel, by decide +kernel⟩, xg (w := (Jvm.Cond.instanceMethod ({ cls := "SmellBurdens$Chances", name := "ofTaking", desc := "(LSmellBurdens$Plain;JII)V" } : Jvm.MethodName))) (xt4 (List.mem_of_getElem? (i := 66) (by decide +kernel))) rfl, xg (w := (Jvm.Cond.selects "SmellBurdens$Chances" ({ cls := "SmellBurdens$Chances", name := "ofTaking", desc := "(LSmellBurdens$Plain;JII)V" } : Jvm.MethodName) ({ cls := "SmellBurdens$Chances", name := "ofTaking", desc := "(LSmellBurdens$Plain;JII)V" } : Jvm.MethodName))) (xt4 (List.mem_of_getElem? (i := 67) (by decide +kernel))) rfl, rfl⟩
theorem wdX0_44 : (Jvm.Cond.methodLink "SmellBurdens$Chances" (44 : Nat) ({ cls := "SmellBurdens$Plain", name := "gone", desc := "(JI)J" } : Jvm.MethodName)) ∈ xG := xg (xt4 (List.mem_of_getElem? (i := 93) (by decide +kernel))) rfl
theorem wdX0_48 : (Jvm.Cond.methodLink "SmellBurdens$Chances" (48 : Nat) ({ cls := "SmellBurdens$Plain", name := "atHomes", desc := "(J)I" } : Jvm.MethodName)) ∈ xG := xg (xt4 (List.mem_of_getElem? (i := 94) (by decide +kernel))) rfl
theorem wdX0_52 : (Jvm.Cond.methodLink "SmellBurdens$Chances" (52 : Nat) ({ cls := "java/lang/Integer", name := "bitCount", desc := "(I)I" } : Jvm.MethodName)) ∈ xG := xg (xt4 (List.mem_of_getElem? (i := 74) (by decide +kernel))) rfl
def pX0_ofHomes : List xE := [(0, 1, .lconst 0, 0, 0, 0, []), (1, 2, .lstore 5, 5, 0, 0, []), (3, 1, .iconst 0, 0, 0, 0, []), (4, 2, .istore 7, 7, 0, 0, []), (6, 2, .iload 7, 7, 0, 0, []), (8, 1, .iconst 1, 1, 0, 0, []), (9, 1, .aload_n 1, 1, 0, 0, []), (10, 3, .getfield 18, 3, 0, 1, []), (13, 1, .ishl, 0, 0, 0, []), (14, 3, .if_icmp .ge 53, 67, 0, 0, []), (17, 1, .aload_n 1, 1, 0, 0, []), (18, 1, .lload_n 2, 2, 0, 0, []), (19, 2, .bipush 27, 27, 0, 0, []), (21, 2, .iload 7, 7, 0, 0, []), (23, 3, .invokevirtual 24, 0, 0, 0, []), (26, 2, .istore 8, 8, 0, 0, []), (28, 1, .aload_n 1, 1, 0, 0, []), (29, 1, .aload_n 1, 1, 0, 0, []), (30, 1, .lload_n 2, 2, 0, 0, []), (31, 2, .iload 8, 8, 0, 0, []), (33, 3, .invokevirtual 44, 1, 0, 0, []), (36, 3, .invokevirtual 48, 2, 0, 0, []), (39, 3, .invokestatic 52, 3, 0, 0, []), (42, 2, .istore 9, 9, 0, 0, []), (44, 2, .lload 5, 5, 0, 0, []), (46, 2, .iload 9, 9, 0, 0, []), (48, 1, .i2l, 0, 0, 0, []), (49, 1, .aload_n 1, 1, 0, 0, []), (50, 2, .iload 7, 7, 0, 0, []), (52, 2, .iload 4, 4, 0, 0, []), (54, 3, .invokestatic 32, 4, 0, 0, []), (57, 1, .lmul, 0, 0, 0, []), (58, 1, .ladd, 0, 0, 0, []), (59, 2, .lstore 5, 5, 0, 0, []), (61, 3, .iinc 7 1, 7, 1, 0, []), (64, 3, .goto (-58), 6, 0, 0, []), (67, 1, .aload_n 0, 0, 0, 0, []), (68, 2, .lload 5, 5, 0, 0, []), (70, 2, .bipush 12, 12, 0, 0, []), (72, 1, .aload_n 1, 1, 0, 0, []), (73, 3, .getfield 18, 3, 0, 1, []), (76, 3, .invokestatic 36, 5, 0, 0, []), (79, 3, .invokevirtual 40, 6, 0, 0, []), (82, 1, .return_, 0, 0, 0, [])]
def mX0_ofHomes : xM := (yX0_ofHomes, cX0_ofHomes, 10, (none : Option FieldType), 0, 3, 0, 5, 129, 0, pX0_ofHomes)
theorem dX0_ofHomes : xDec cX0_ofHomes pX0_ofHomes = true := by decide +kernel
theorem hX0_ofHomes : xHd mX0_ofHomes := ⟨xg (w := (Jvm.Cond.code ({ cls := "SmellBurdens$Chances", name := "ofHomes", desc := "(LSmellBurdens$Plain;JI)V" } : Jvm.MethodName) prog_2_method_3_code (10 : Nat) (Option.none : Option Jvm.ClassFile.FieldType))) (xt4 (List.mem_of_getElem? (i := 92) (by decide +kernel))) rfl, xg (w := (Jvm.Cond.initialized "SmellBurdens$Chances")) (xt1 (List.mem_of_getElem? (i := 9) (by decide +kernel))) rfl, ⟨by decide +kernel, by decide +kernel, by decide +kernel⟩, xg (w := (Jvm.Cond.instanceMethod ({ cls := "SmellBurdens$Chances", name := "ofHomes", desc := "(LSmellBurdens$Plain;JI)V" } : Jvm.MethodName))) (xt4 (List.mem_of_getElem? (i := 90) (by decide +kernel))) rfl, xg (w := (Jvm.Cond.selects "SmellBurdens$Chances" ({ cls := "SmellBurdens$Chances", name := "ofHomes", desc := "(LSmellBurdens$Plain;JI)V" } : Jvm.MethodName) ({ cls := "SmellBurdens$Chances", name := "ofHomes", desc := "(LSmellBurdens$Plain;JI)V" } : Jvm.MethodName))) (xt4 (List.mem_of_getElem? (i := 91) (by decide +kernel))) rfl, rfl⟩
def pX0_weight : List xE := [(0, 1, .iload_n 1, 1, 0, 0, []), (1, 3, .invokestatic 52, 0, 0, 0, []), (4, 1, .istore_n 3, 3, 0, 0, []), (5, 1, .iload_n 2, 2, 0, 0, []), (6, 1, .aload_n 0, 0, 0, 0, []), (7, 3, .getfield 18, 3, 0, 1, []), (10, 1, .iload_n 3, 3, 0, 0, []), (11, 1, .isub, 0, 0, 0, []), (12, 3, .invokestatic 36, 1, 0, 0, []), (15, 2, .bipush 12, 12, 0, 0, []), (17, 1, .iload_n 2, 2, 0, 0, []), (18, 1, .isub, 0, 0, 0, []), (19, 1, .iload_n 3, 3, 0, 0, []), (20, 3, .invokestatic 36, 1, 0, 0, []), (23, 1, .lmul, 0, 0, 0, []), (24, 1, .lreturn, 0, 0, 0, [])]
def mX0_weight : xM := (yX0_weight, cX0_weight, 4, (some FieldType.long), 1, 3, 0, 1, 24, 0, pX0_weight)
theorem dX0_weight : xDec cX0_weight pX0_weight = true := by decide +kernel
theorem hX0_weight : xHd mX0_weight := ⟨xg (w := (Jvm.Cond.code ({ cls := "SmellBurdens$Chances", name := "weight", desc := "(LSmellBurdens$Plain;II)J" } : Jvm.MethodName) prog_2_method_4_code (4 : Nat) (Option.some Jvm.ClassFile.FieldType.long))) (xt4 (List.mem_of_getElem? (i := 73) (by decide +kernel))) rfl, xg (w := (Jvm.Cond.initialized "SmellBurdens$Chances")) (xt1 (List.mem_of_getElem? (i := 9) (by decide +kernel))) rfl, ⟨by decide +kernel, by decide +kernel, by decide +kernel⟩, xg (w := (Jvm.Cond.static ({ cls := "SmellBurdens$Chances", name := "weight", desc := "(LSmellBurdens$Plain;II)J" } : Jvm.MethodName))) (xt4 (List.mem_of_getElem? (i := 72) (by decide +kernel))) rfl⟩
def pX0_power : List xE := [(0, 1, .lconst 1, 1, 0, 0, []), (1, 1, .lstore_n 2, 2, 0, 0, []), (2, 1, .iconst 0, 0, 0, 0, []), (3, 2, .istore 4, 4, 0, 0, []), (5, 2, .iload 4, 4, 0, 0, []), (7, 1, .iload_n 1, 1, 0, 0, []), (8, 3, .if_icmp .ge 14, 22, 0, 0, []), (11, 1, .lload_n 2, 2, 0, 0, []), (12, 1, .iload_n 0, 0, 0, 0, []), (13, 1, .i2l, 0, 0, 0, []), (14, 1, .lmul, 0, 0, 0, []), (15, 1, .lstore_n 2, 2, 0, 0, []), (16, 3, .iinc 4 1, 4, 1, 0, []), (19, 3, .goto (-14), 5, 0, 0, []), (22, 1, .lload_n 2, 2, 0, 0, []), (23, 1, .lreturn, 0, 0, 0, [])]
def mX0_power : xM := (yX0_power, cX0_power, 5, (some FieldType.long), 1, 2, 0, 0, 0, 0, pX0_power)
theorem dX0_power : xDec cX0_power pX0_power = true := by decide +kernel
theorem hX0_power : xHd mX0_power := ⟨xg (w := (Jvm.Cond.code ({ cls := "SmellBurdens$Chances", name := "power", desc := "(II)J" } : Jvm.MethodName) prog_2_method_5_code (5 : Nat) (Option.some Jvm.ClassFile.FieldType.long))) (xt4 (List.mem_of_getElem? (i := 77) (by decide +kernel))) rfl, xg (w := (Jvm.Cond.initialized "SmellBurdens$Chances")) (xt1 (List.mem_of_getElem? (i := 9) (by decide +kernel))) rfl, ⟨by decide +kernel, by decide +kernel, by decide +kernel⟩, xg (w := (Jvm.Cond.static ({ cls := "SmellBurdens$Chances", name := "power", desc := "(II)J" } : Jvm.MethodName))) (xt4 (List.mem_of_getElem? (i := 76) (by decide +kernel))) rfl⟩
theorem wdX0_58 : (Jvm.Cond.methodLink "SmellBurdens$Chances" (58 : Nat) ({ cls := "SmellBurdens$Chances", name := "commonDivisor", desc := "(JJ)J" } : Jvm.MethodName)) ∈ xG := xg (xt4 (List.mem_of_getElem? (i := 82) (by decide +kernel))) rfl
def pX0_keepLowest : List xE := [(0, 1, .lload_n 1, 1, 0, 0, []), (1, 1, .lload_n 3, 3, 0, 0, []), (2, 3, .invokestatic 58, 0, 0, 0, []), (5, 2, .lstore 5, 5, 0, 0, []), (7, 2, .lload 5, 5, 0, 0, []), (9, 1, .lconst 0, 0, 0, 0, []), (10, 1, .lcmp, 0, 0, 0, []), (11, 3, .ifCond .gt 4, 15, 0, 0, []), (14, 1, .return_, 0, 0, 0, []), (15, 1, .aload_n 0, 0, 0, 0, []), (16, 1, .lload_n 1, 1, 0, 0, []), (17, 2, .lload 5, 5, 0, 0, []), (19, 1, .ldiv, 0, 0, 0, []), (20, 3, .putfield 9, 0, 0, 0, []), (23, 1, .aload_n 0, 0, 0, 0, []), (24, 1, .lload_n 3, 3, 0, 0, []), (25, 2, .lload 5, 5, 0, 0, []), (27, 1, .ldiv, 0, 0, 0, []), (28, 3, .putfield 15, 0, 1, 0, []), (31, 1, .return_, 0, 0, 0, [])]
def mX0_keepLowest : xM := (yX0_keepLowest, cX0_keepLowest, 7, (none : Option FieldType), 0, 2, 0, 1, 30, 0, pX0_keepLowest)
theorem dX0_keepLowest : xDec cX0_keepLowest pX0_keepLowest = true := by decide +kernel
theorem hX0_keepLowest : xHd mX0_keepLowest := ⟨xg (w := (Jvm.Cond.code ({ cls := "SmellBurdens$Chances", name := "keepLowest", desc := "(JJ)V" } : Jvm.MethodName) prog_2_method_6_code (7 : Nat) (Option.none : Option Jvm.ClassFile.FieldType))) (xt4 (List.mem_of_getElem? (i := 81) (by decide +kernel))) rfl, xg (w := (Jvm.Cond.initialized "SmellBurdens$Chances")) (xt1 (List.mem_of_getElem? (i := 9) (by decide +kernel))) rfl, ⟨by decide +kernel, by decide +kernel, by decide +kernel⟩, xg (w := (Jvm.Cond.instanceMethod ({ cls := "SmellBurdens$Chances", name := "keepLowest", desc := "(JJ)V" } : Jvm.MethodName))) (xt4 (List.mem_of_getElem? (i := 80) (by decide +kernel))) rfl, xg (w := (Jvm.Cond.selects "SmellBurdens$Chances" ({ cls := "SmellBurdens$Chances", name := "keepLowest", desc := "(JJ)V" } : Jvm.MethodName) ({ cls := "SmellBurdens$Chances", name := "keepLowest", desc := "(JJ)V" } : Jvm.MethodName))) (xsl (List.mem_of_getElem? (i := 22) (by decide +kernel))) rfl, rfl⟩
def pX0_commonDivisor : List xE := [(0, 1, .lload_n 0, 0, 0, 0, []), (1, 2, .lstore 4, 4, 0, 0, []), (3, 1, .lload_n 2, 2, 0, 0, []), (4, 2, .lstore 6, 6, 0, 0, []), (6, 1, .iconst 0, 0, 0, 0, []), (7, 2, .istore 8, 8, 0, 0, []), (9, 2, .iload 8, 8, 0, 0, []), (11, 3, .sipush 128, 128, 0, 0, []), (14, 3, .if_icmp .ge 31, 45, 0, 0, []), (17, 2, .lload 6, 6, 0, 0, []), (19, 1, .lconst 0, 0, 0, 0, []), (20, 1, .lcmp, 0, 0, 0, []), (21, 3, .ifCond .eq 24, 45, 0, 0, []), (24, 2, .lload 4, 4, 0, 0, []), (26, 2, .lload 6, 6, 0, 0, []), (28, 1, .lrem, 0, 0, 0, []), (29, 2, .lstore 9, 9, 0, 0, []), (31, 2, .lload 6, 6, 0, 0, []), (33, 2, .lstore 4, 4, 0, 0, []), (35, 2, .lload 9, 9, 0, 0, []), (37, 2, .lstore 6, 6, 0, 0, []), (39, 3, .iinc 8 1, 8, 1, 0, []), (42, 3, .goto (-33), 9, 0, 0, []), (45, 2, .lload 4, 4, 0, 0, []), (47, 1, .lreturn, 0, 0, 0, [])]
def mX0_commonDivisor : xM := (yX0_commonDivisor, cX0_commonDivisor, 11, (some FieldType.long), 1, 2, 0, 0, 0, 0, pX0_commonDivisor)
theorem dX0_commonDivisor : xDec cX0_commonDivisor pX0_commonDivisor = true := by decide +kernel
theorem hX0_commonDivisor : xHd mX0_commonDivisor := ⟨xg (w := (Jvm.Cond.code ({ cls := "SmellBurdens$Chances", name := "commonDivisor", desc := "(JJ)J" } : Jvm.MethodName) prog_2_method_7_code (11 : Nat) (Option.some Jvm.ClassFile.FieldType.long))) (xt4 (List.mem_of_getElem? (i := 84) (by decide +kernel))) rfl, xg (w := (Jvm.Cond.initialized "SmellBurdens$Chances")) (xt1 (List.mem_of_getElem? (i := 9) (by decide +kernel))) rfl, ⟨by decide +kernel, by decide +kernel, by decide +kernel⟩, xg (w := (Jvm.Cond.static ({ cls := "SmellBurdens$Chances", name := "commonDivisor", desc := "(JJ)J" } : Jvm.MethodName))) (xt4 (List.mem_of_getElem? (i := 83) (by decide +kernel))) rfl⟩
theorem wdX1_3 : (Jvm.Cond.methodLink "SmellBurdens$Deeds" (3 : Nat) ({ cls := "java/lang/Object", name := "<init>", desc := "()V" } : Jvm.MethodName)) ∈ xG := xg (xt1 (List.mem_of_getElem? (i := 106) (by decide +kernel))) rfl
theorem wdX1_9 : (Jvm.Cond.fieldLink "SmellBurdens$Deeds" (9 : Nat) "SmellBurdens$Deeds" "before" "[J") ∈ xG := xg (xt1 (List.mem_of_getElem? (i := 107) (by decide +kernel))) rfl
theorem wdX1_15 : (Jvm.Cond.fieldLink "SmellBurdens$Deeds" (15 : Nat) "SmellBurdens$Deeds" "size" "I") ∈ xG := xg (xt1 (List.mem_of_getElem? (i := 111) (by decide +kernel))) rfl
def pX1_init : List xE := [(0, 1, .aload_n 0, 0, 0, 0, []), (1, 3, .invokespecial 3, 0, 0, 1, []), (4, 1, .aload_n 0, 0, 0, 0, []), (5, 2, .bipush 40, 40, 0, 0, []), (7, 2, .newarray .long, 0, 0, 2, []), (9, 3, .putfield 9, 1, 0, 0, []), (12, 1, .aload_n 0, 0, 0, 0, []), (13, 1, .iconst (-1), 1, 0, 0, []), (14, 3, .putfield 15, 1, 3, 0, []), (17, 1, .return_, 0, 0, 0, [])]
def mX1_init : xM := (yX1_init, cX1_init, 1, (none : Option FieldType), 2, 0, 1, 1, 20, 1, pX1_init)
theorem dX1_init : xDec cX1_init pX1_init = true := by decide +kernel
theorem hX1_init : xHd mX1_init := ⟨xg (w := (Jvm.Cond.code ({ cls := "SmellBurdens$Deeds", name := "<init>", desc := "()V" } : Jvm.MethodName) prog_3_method_1_code (1 : Nat) (Option.none : Option Jvm.ClassFile.FieldType))) (xt1 (List.mem_of_getElem? (i := 105) (by decide +kernel))) rfl, xg (w := (Jvm.Cond.initialized "SmellBurdens$Deeds")) (xt1 (List.mem_of_getElem? (i := 6) (by decide +kernel))) rfl, ⟨by decide +kernel, by decide +kernel, by decide +kernel⟩, xg (w := (Jvm.Cond.instanceMethod ({ cls := "SmellBurdens$Deeds", name := "<init>", desc := "()V" } : Jvm.MethodName))) (xt1 (List.mem_of_getElem? (i := 104) (by decide +kernel))) rfl, rfl, rfl⟩
theorem wdX1_19 : (Jvm.Cond.fieldLink "SmellBurdens$Deeds" (19 : Nat) "SmellBurdens$Deeds" "now" "J") ∈ xG := xg (xt1 (List.mem_of_getElem? (i := 108) (by decide +kernel))) rfl
theorem wdX1_23 : (Jvm.Cond.fieldLink "SmellBurdens$Deeds" (23 : Nat) "SmellBurdens$Deeds" "dayBits" "J") ∈ xG := xg (xt1 (List.mem_of_getElem? (i := 110) (by decide +kernel))) rfl
def pX1_begin : List xE := [(0, 1, .aload_n 0, 0, 0, 0, []), (1, 1, .lload_n 1, 1, 0, 0, []), (2, 3, .putfield 19, 1, 1, 0, []), (5, 1, .aload_n 0, 0, 0, 0, []), (6, 1, .lconst 0, 0, 0, 0, []), (7, 3, .putfield 23, 1, 2, 0, []), (10, 1, .aload_n 0, 0, 0, 0, []), (11, 1, .iconst 0, 0, 0, 0, []), (12, 3, .putfield 15, 1, 3, 0, []), (15, 1, .return_, 0, 0, 0, [])]
def mX1_begin : xM := (yX1_begin, cX1_begin, 3, (none : Option FieldType), 0, 1, 1, 0, 0, 0, pX1_begin)
theorem dX1_begin : xDec cX1_begin pX1_begin = true := by decide +kernel
theorem hX1_begin : xHd mX1_begin := ⟨xg (w := (Jvm.Cond.code ({ cls := "SmellBurdens$Deeds", name := "begin", desc := "(J)V" } : Jvm.MethodName) prog_3_method_2_code (3 : Nat) (Option.none : Option Jvm.ClassFile.FieldType))) (xt1 (List.mem_of_getElem? (i := 162) (by decide +kernel))) rfl, xg (w := (Jvm.Cond.initialized "SmellBurdens$Deeds")) (xt1 (List.mem_of_getElem? (i := 6) (by decide +kernel))) rfl, ⟨by decide +kernel, by decide +kernel, by decide +kernel⟩, xg (w := (Jvm.Cond.instanceMethod ({ cls := "SmellBurdens$Deeds", name := "begin", desc := "(J)V" } : Jvm.MethodName))) (xt1 (List.mem_of_getElem? (i := 160) (by decide +kernel))) rfl, xg (w := (Jvm.Cond.selects "SmellBurdens$Deeds" ({ cls := "SmellBurdens$Deeds", name := "begin", desc := "(J)V" } : Jvm.MethodName) ({ cls := "SmellBurdens$Deeds", name := "begin", desc := "(J)V" } : Jvm.MethodName))) (xt1 (List.mem_of_getElem? (i := 161) (by decide +kernel))) rfl, rfl⟩
def pX1_drop : List xE := [(0, 1, .aload_n 0, 0, 0, 0, []), (1, 1, .iconst (-1), 1, 0, 0, []), (2, 3, .putfield 15, 1, 3, 0, []), (5, 1, .return_, 0, 0, 0, [])]
def mX1_drop : xM := (yX1_drop, cX1_drop, 1, (none : Option FieldType), 0, 0, 1, 0, 0, 0, pX1_drop)
theorem dX1_drop : xDec cX1_drop pX1_drop = true := by decide +kernel
theorem hX1_drop : xHd mX1_drop := ⟨xg (w := (Jvm.Cond.code ({ cls := "SmellBurdens$Deeds", name := "drop", desc := "()V" } : Jvm.MethodName) prog_3_method_3_code (1 : Nat) (Option.none : Option Jvm.ClassFile.FieldType))) (xt2 (List.mem_of_getElem? (i := 144) (by decide +kernel))) rfl, xg (w := (Jvm.Cond.initialized "SmellBurdens$Deeds")) (xt1 (List.mem_of_getElem? (i := 6) (by decide +kernel))) rfl, ⟨by decide +kernel, by decide +kernel, by decide +kernel⟩, xg (w := (Jvm.Cond.instanceMethod ({ cls := "SmellBurdens$Deeds", name := "drop", desc := "()V" } : Jvm.MethodName))) (xt2 (List.mem_of_getElem? (i := 142) (by decide +kernel))) rfl, xg (w := (Jvm.Cond.selects "SmellBurdens$Deeds" ({ cls := "SmellBurdens$Deeds", name := "drop", desc := "()V" } : Jvm.MethodName) ({ cls := "SmellBurdens$Deeds", name := "drop", desc := "()V" } : Jvm.MethodName))) (xt2 (List.mem_of_getElem? (i := 143) (by decide +kernel))) rfl, rfl⟩
def pX1_isMissing : List xE := [(0, 1, .aload_n 0, 0, 0, 0, []), (1, 3, .getfield 15, 1, 3, 0, []), (4, 1, .iconst (-1), 1, 0, 0, []), (5, 3, .if_icmp .ne 7, 12, 0, 0, []), (8, 1, .iconst 1, 1, 0, 0, []), (9, 3, .goto 4, 13, 0, 0, []), (12, 1, .iconst 0, 0, 0, 0, []), (13, 1, .ireturn, 0, 0, 0, [])]
def mX1_isMissing : xM := (yX1_isMissing, cX1_isMissing, 1, (some FieldType.boolean), 0, 0, 1, 0, 0, 0, pX1_isMissing)
theorem dX1_isMissing : xDec cX1_isMissing pX1_isMissing = true := by decide +kernel
theorem hX1_isMissing : xHd mX1_isMissing := ⟨xg (w := (Jvm.Cond.code ({ cls := "SmellBurdens$Deeds", name := "isMissing", desc := "()Z" } : Jvm.MethodName) prog_3_method_4_code (1 : Nat) (Option.some Jvm.ClassFile.FieldType.boolean))) (xt3 (List.mem_of_getElem? (i := 103) (by decide +kernel))) rfl, xg (w := (Jvm.Cond.initialized "SmellBurdens$Deeds")) (xt1 (List.mem_of_getElem? (i := 6) (by decide +kernel))) rfl, ⟨by decide +kernel, by decide +kernel, by decide +kernel⟩, xg (w := (Jvm.Cond.instanceMethod ({ cls := "SmellBurdens$Deeds", name := "isMissing", desc := "()Z" } : Jvm.MethodName))) (xt3 (List.mem_of_getElem? (i := 101) (by decide +kernel))) rfl, xg (w := (Jvm.Cond.selects "SmellBurdens$Deeds" ({ cls := "SmellBurdens$Deeds", name := "isMissing", desc := "()Z" } : Jvm.MethodName) ({ cls := "SmellBurdens$Deeds", name := "isMissing", desc := "()Z" } : Jvm.MethodName))) (xt3 (List.mem_of_getElem? (i := 102) (by decide +kernel))) rfl, rfl⟩
def pX1_hasRoomFor : List xE := [(0, 1, .iload_n 1, 1, 0, 0, []), (1, 1, .aload_n 0, 0, 0, 0, []), (2, 3, .getfield 9, 1, 0, 0, []), (5, 1, .arraylength, 0, 0, 0, []), (6, 1, .aload_n 0, 0, 0, 0, []), (7, 3, .getfield 15, 1, 3, 0, []), (10, 1, .isub, 0, 0, 0, []), (11, 3, .if_icmp .gt 7, 18, 0, 0, []), (14, 1, .iconst 1, 1, 0, 0, []), (15, 3, .goto 4, 19, 0, 0, []), (18, 1, .iconst 0, 0, 0, 0, []), (19, 1, .ireturn, 0, 0, 0, [])]
def mX1_hasRoomFor : xM := (yX1_hasRoomFor, cX1_hasRoomFor, 2, (some FieldType.boolean), 0, 1, 1, 0, 0, 0, pX1_hasRoomFor)
theorem dX1_hasRoomFor : xDec cX1_hasRoomFor pX1_hasRoomFor = true := by decide +kernel
theorem hX1_hasRoomFor : xHd mX1_hasRoomFor := ⟨xg (w := (Jvm.Cond.code ({ cls := "SmellBurdens$Deeds", name := "hasRoomFor", desc := "(I)Z" } : Jvm.MethodName) prog_3_method_5_code (2 : Nat) (Option.some Jvm.ClassFile.FieldType.boolean))) (xt3 (List.mem_of_getElem? (i := 38) (by decide +kernel))) rfl, xg (w := (Jvm.Cond.initialized "SmellBurdens$Deeds")) (xt1 (List.mem_of_getElem? (i := 6) (by decide +kernel))) rfl, ⟨by decide +kernel, by decide +kernel, by decide +kernel⟩, xg (w := (Jvm.Cond.instanceMethod ({ cls := "SmellBurdens$Deeds", name := "hasRoomFor", desc := "(I)Z" } : Jvm.MethodName))) (xt3 (List.mem_of_getElem? (i := 36) (by decide +kernel))) rfl, xg (w := (Jvm.Cond.selects "SmellBurdens$Deeds" ({ cls := "SmellBurdens$Deeds", name := "hasRoomFor", desc := "(I)Z" } : Jvm.MethodName) ({ cls := "SmellBurdens$Deeds", name := "hasRoomFor", desc := "(I)Z" } : Jvm.MethodName))) (xt3 (List.mem_of_getElem? (i := 37) (by decide +kernel))) rfl, rfl⟩
def pX1_add : List xE := [(0, 1, .aload_n 0, 0, 0, 0, []), (1, 3, .getfield 15, 1, 3, 0, []), (4, 3, .ifCond .lt 15, 19, 0, 0, []), (7, 1, .aload_n 0, 0, 0, 0, []), (8, 3, .getfield 15, 1, 3, 0, []), (11, 1, .aload_n 0, 0, 0, 0, []), (12, 3, .getfield 9, 1, 0, 0, []), (15, 1, .arraylength, 0, 0, 0, []), (16, 3, .if_icmp .lt 4, 20, 0, 0, []), (19, 1, .return_, 0, 0, 0, []), (20, 1, .aload_n 0, 0, 0, 0, []), (21, 3, .getfield 9, 1, 0, 0, []), (24, 1, .aload_n 0, 0, 0, 0, []), (25, 3, .getfield 15, 1, 3, 0, []), (28, 1, .aload_n 0, 0, 0, 0, []), (29, 3, .getfield 19, 1, 1, 0, []), (32, 1, .lastore, 0, 0, 0, []), (33, 1, .aload_n 0, 0, 0, 0, []), (34, 1, .dup, 0, 0, 0, []), (35, 3, .getfield 23, 1, 2, 0, []), (38, 1, .iload_n 3, 3, 0, 0, []), (39, 3, .ifCond .eq 12, 51, 0, 0, []), (42, 1, .lconst 1, 1, 0, 0, []), (43, 1, .aload_n 0, 0, 0, 0, []), (44, 3, .getfield 15, 1, 3, 0, []), (47, 1, .lshl, 0, 0, 0, []), (48, 3, .goto 4, 52, 0, 0, []), (51, 1, .lconst 0, 0, 0, 0, []), (52, 1, .lor, 0, 0, 0, []), (53, 3, .putfield 23, 1, 2, 0, []), (56, 1, .aload_n 0, 0, 0, 0, []), (57, 1, .lload_n 1, 1, 0, 0, []), (58, 3, .putfield 19, 1, 1, 0, []), (61, 1, .aload_n 0, 0, 0, 0, []), (62, 1, .dup, 0, 0, 0, []), (63, 3, .getfield 15, 1, 3, 0, []), (66, 1, .iconst 1, 1, 0, 0, []), (67, 1, .iadd, 0, 0, 0, []), (68, 3, .putfield 15, 1, 3, 0, []), (71, 1, .return_, 0, 0, 0, [])]
def mX1_add : xM := (yX1_add, cX1_add, 4, (none : Option FieldType), 0, 2, 1, 0, 0, 0, pX1_add)
theorem dX1_add : xDec cX1_add pX1_add = true := by decide +kernel
theorem hX1_add : xHd mX1_add := ⟨xg (w := (Jvm.Cond.code ({ cls := "SmellBurdens$Deeds", name := "add", desc := "(JZ)V" } : Jvm.MethodName) prog_3_method_6_code (4 : Nat) (Option.none : Option Jvm.ClassFile.FieldType))) (xt3 (List.mem_of_getElem? (i := 57) (by decide +kernel))) rfl, xg (w := (Jvm.Cond.initialized "SmellBurdens$Deeds")) (xt1 (List.mem_of_getElem? (i := 6) (by decide +kernel))) rfl, ⟨by decide +kernel, by decide +kernel, by decide +kernel⟩, xg (w := (Jvm.Cond.instanceMethod ({ cls := "SmellBurdens$Deeds", name := "add", desc := "(JZ)V" } : Jvm.MethodName))) (xt3 (List.mem_of_getElem? (i := 55) (by decide +kernel))) rfl, xg (w := (Jvm.Cond.selects "SmellBurdens$Deeds" ({ cls := "SmellBurdens$Deeds", name := "add", desc := "(JZ)V" } : Jvm.MethodName) ({ cls := "SmellBurdens$Deeds", name := "add", desc := "(JZ)V" } : Jvm.MethodName))) (xt3 (List.mem_of_getElem? (i := 56) (by decide +kernel))) rfl, rfl⟩
def pX1_takeBack : List xE := [(0, 1, .iload_n 1, 1, 0, 0, []), (1, 3, .ifCond .lt 20, 21, 0, 0, []), (4, 1, .iload_n 1, 1, 0, 0, []), (5, 1, .aload_n 0, 0, 0, 0, []), (6, 3, .getfield 15, 1, 3, 0, []), (9, 3, .if_icmp .ge 12, 21, 0, 0, []), (12, 1, .iload_n 1, 1, 0, 0, []), (13, 1, .aload_n 0, 0, 0, 0, []), (14, 3, .getfield 9, 1, 0, 0, []), (17, 1, .arraylength, 0, 0, 0, []), (18, 3, .if_icmp .lt 5, 23, 0, 0, []), (21, 1, .iconst 0, 0, 0, 0, []), (22, 1, .ireturn, 0, 0, 0, []), (23, 1, .aload_n 0, 0, 0, 0, []), (24, 3, .getfield 15, 1, 3, 0, []), (27, 1, .iload_n 1, 1, 0, 0, []), (28, 1, .isub, 0, 0, 0, []), (29, 1, .istore_n 2, 2, 0, 0, []), (30, 1, .aload_n 0, 0, 0, 0, []), (31, 1, .aload_n 0, 0, 0, 0, []), (32, 3, .getfield 9, 1, 0, 0, []), (35, 1, .iload_n 1, 1, 0, 0, []), (36, 1, .laload, 0, 0, 0, []), (37, 3, .putfield 19, 1, 1, 0, []), (40, 1, .aload_n 0, 0, 0, 0, []), (41, 1, .dup, 0, 0, 0, []), (42, 3, .getfield 23, 1, 2, 0, []), (45, 1, .lconst 1, 1, 0, 0, []), (46, 1, .iload_n 1, 1, 0, 0, []), (47, 1, .lshl, 0, 0, 0, []), (48, 1, .lconst 1, 1, 0, 0, []), (49, 1, .lsub, 0, 0, 0, []), (50, 1, .land, 0, 0, 0, []), (51, 3, .putfield 23, 1, 2, 0, []), (54, 1, .aload_n 0, 0, 0, 0, []), (55, 1, .iload_n 1, 1, 0, 0, []), (56, 3, .putfield 15, 1, 3, 0, []), (59, 1, .iload_n 2, 2, 0, 0, []), (60, 1, .ireturn, 0, 0, 0, [])]
def mX1_takeBack : xM := (yX1_takeBack, cX1_takeBack, 3, (some FieldType.int), 0, 1, 1, 0, 0, 0, pX1_takeBack)
theorem dX1_takeBack : xDec cX1_takeBack pX1_takeBack = true := by decide +kernel
theorem hX1_takeBack : xHd mX1_takeBack := ⟨xg (w := (Jvm.Cond.code ({ cls := "SmellBurdens$Deeds", name := "takeBack", desc := "(I)I" } : Jvm.MethodName) prog_3_method_7_code (3 : Nat) (Option.some Jvm.ClassFile.FieldType.int))) (xt3 (List.mem_of_getElem? (i := 86) (by decide +kernel))) rfl, xg (w := (Jvm.Cond.initialized "SmellBurdens$Deeds")) (xt1 (List.mem_of_getElem? (i := 6) (by decide +kernel))) rfl, ⟨by decide +kernel, by decide +kernel, by decide +kernel⟩, xg (w := (Jvm.Cond.instanceMethod ({ cls := "SmellBurdens$Deeds", name := "takeBack", desc := "(I)I" } : Jvm.MethodName))) (xt3 (List.mem_of_getElem? (i := 84) (by decide +kernel))) rfl, xg (w := (Jvm.Cond.selects "SmellBurdens$Deeds" ({ cls := "SmellBurdens$Deeds", name := "takeBack", desc := "(I)I" } : Jvm.MethodName) ({ cls := "SmellBurdens$Deeds", name := "takeBack", desc := "(I)I" } : Jvm.MethodName))) (xt3 (List.mem_of_getElem? (i := 85) (by decide +kernel))) rfl, rfl⟩
theorem wdX1_26 : (Jvm.Cond.methodLink "SmellBurdens$Deeds" (26 : Nat) ({ cls := "java/lang/Long", name := "bitCount", desc := "(J)I" } : Jvm.MethodName)) ∈ xG := xg (xt4 (List.mem_of_getElem? (i := 130) (by decide +kernel))) rfl
def pX1_howManyDays : List xE := [(0, 1, .aload_n 0, 0, 0, 0, []), (1, 3, .getfield 23, 1, 2, 0, []), (4, 3, .invokestatic 26, 0, 0, 0, []), (7, 1, .ireturn, 0, 0, 0, [])]
def mX1_howManyDays : xM := (yX1_howManyDays, cX1_howManyDays, 1, (some FieldType.int), 0, 0, 1, 1, 21, 0, pX1_howManyDays)
theorem dX1_howManyDays : xDec cX1_howManyDays pX1_howManyDays = true := by decide +kernel
theorem hX1_howManyDays : xHd mX1_howManyDays := ⟨xg (w := (Jvm.Cond.code ({ cls := "SmellBurdens$Deeds", name := "howManyDays", desc := "()I" } : Jvm.MethodName) prog_3_method_8_code (1 : Nat) (Option.some Jvm.ClassFile.FieldType.int))) (xt4 (List.mem_of_getElem? (i := 129) (by decide +kernel))) rfl, xg (w := (Jvm.Cond.initialized "SmellBurdens$Deeds")) (xt1 (List.mem_of_getElem? (i := 6) (by decide +kernel))) rfl, ⟨by decide +kernel, by decide +kernel, by decide +kernel⟩, xg (w := (Jvm.Cond.instanceMethod ({ cls := "SmellBurdens$Deeds", name := "howManyDays", desc := "()I" } : Jvm.MethodName))) (xt4 (List.mem_of_getElem? (i := 127) (by decide +kernel))) rfl, xg (w := (Jvm.Cond.selects "SmellBurdens$Deeds" ({ cls := "SmellBurdens$Deeds", name := "howManyDays", desc := "()I" } : Jvm.MethodName) ({ cls := "SmellBurdens$Deeds", name := "howManyDays", desc := "()I" } : Jvm.MethodName))) (xt4 (List.mem_of_getElem? (i := 128) (by decide +kernel))) rfl, rfl⟩
theorem wdX1_32 : (Jvm.Cond.methodLink "SmellBurdens$Deeds" (32 : Nat) ({ cls := "java/lang/System", name := "arraycopy", desc := "(Ljava/lang/Object;ILjava/lang/Object;II)V" } : Jvm.MethodName)) ∈ xG := xg (xt3 (List.mem_of_getElem? (i := 95) (by decide +kernel))) rfl
def pX1_become : List xE := [(0, 1, .aload_n 1, 1, 0, 0, []), (1, 3, .ifnonnull 4, 5, 0, 0, []), (4, 1, .return_, 0, 0, 0, []), (5, 1, .aload_n 1, 1, 0, 0, []), (6, 3, .getfield 9, 1, 0, 0, []), (9, 1, .iconst 0, 0, 0, 0, []), (10, 1, .aload_n 0, 0, 0, 0, []), (11, 3, .getfield 9, 1, 0, 0, []), (14, 1, .iconst 0, 0, 0, 0, []), (15, 2, .bipush 40, 40, 0, 0, []), (17, 3, .invokestatic 32, 0, 0, 3, []), (20, 1, .aload_n 0, 0, 0, 0, []), (21, 1, .aload_n 1, 1, 0, 0, []), (22, 3, .getfield 19, 1, 1, 0, []), (25, 3, .putfield 19, 1, 1, 0, []), (28, 1, .aload_n 0, 0, 0, 0, []), (29, 1, .aload_n 1, 1, 0, 0, []), (30, 3, .getfield 23, 1, 2, 0, []), (33, 3, .putfield 23, 1, 2, 0, []), (36, 1, .aload_n 0, 0, 0, 0, []), (37, 1, .aload_n 1, 1, 0, 0, []), (38, 3, .getfield 15, 1, 3, 0, []), (41, 3, .putfield 15, 1, 3, 0, []), (44, 1, .return_, 0, 0, 0, [])]
def mX1_become : xM := (yX1_become, cX1_become, 2, (none : Option FieldType), 0, 1, 1, 1, 26, 0, pX1_become)
theorem dX1_become : xDec cX1_become pX1_become = true := by decide +kernel
theorem hX1_become : xHd mX1_become := ⟨xg (w := (Jvm.Cond.code ({ cls := "SmellBurdens$Deeds", name := "become", desc := "(LSmellBurdens$Deeds;)V" } : Jvm.MethodName) prog_3_method_9_code (2 : Nat) (Option.none : Option Jvm.ClassFile.FieldType))) (xt3 (List.mem_of_getElem? (i := 94) (by decide +kernel))) rfl, xg (w := (Jvm.Cond.initialized "SmellBurdens$Deeds")) (xt1 (List.mem_of_getElem? (i := 6) (by decide +kernel))) rfl, ⟨by decide +kernel, by decide +kernel, by decide +kernel⟩, xg (w := (Jvm.Cond.instanceMethod ({ cls := "SmellBurdens$Deeds", name := "become", desc := "(LSmellBurdens$Deeds;)V" } : Jvm.MethodName))) (xt3 (List.mem_of_getElem? (i := 92) (by decide +kernel))) rfl, xg (w := (Jvm.Cond.selects "SmellBurdens$Deeds" ({ cls := "SmellBurdens$Deeds", name := "become", desc := "(LSmellBurdens$Deeds;)V" } : Jvm.MethodName) ({ cls := "SmellBurdens$Deeds", name := "become", desc := "(LSmellBurdens$Deeds;)V" } : Jvm.MethodName))) (xt3 (List.mem_of_getElem? (i := 93) (by decide +kernel))) rfl, rfl⟩
theorem wdX2_3 : (Jvm.Cond.methodLink "SmellBurdens$Foresight" (3 : Nat) ({ cls := "java/lang/Object", name := "<init>", desc := "()V" } : Jvm.MethodName)) ∈ xG := xg (xt1 (List.mem_of_getElem? (i := 129) (by decide +kernel))) rfl
theorem wdX2_9 : (Jvm.Cond.fieldLink "SmellBurdens$Foresight" (9 : Nat) "SmellBurdens$Foresight" "seen" "[J") ∈ xG := xg (xt1 (List.mem_of_getElem? (i := 130) (by decide +kernel))) rfl
def pX2_init : List xE := [(0, 1, .aload_n 0, 0, 0, 0, []), (1, 3, .invokespecial 3, 0, 0, 1, []), (4, 1, .aload_n 0, 0, 0, 0, []), (5, 2, .bipush 61, 61, 0, 0, []), (7, 2, .newarray .long, 0, 0, 2, []), (9, 3, .putfield 9, 2, 0, 0, []), (12, 1, .return_, 0, 0, 0, [])]
def mX2_init : xM := (yX2_init, cX2_init, 1, (none : Option FieldType), 2, 0, 2, 1, 20, 1, pX2_init)
theorem dX2_init : xDec cX2_init pX2_init = true := by decide +kernel
theorem hX2_init : xHd mX2_init := ⟨xg (w := (Jvm.Cond.code ({ cls := "SmellBurdens$Foresight", name := "<init>", desc := "()V" } : Jvm.MethodName) prog_4_method_1_code (1 : Nat) (Option.none : Option Jvm.ClassFile.FieldType))) (xt1 (List.mem_of_getElem? (i := 128) (by decide +kernel))) rfl, xg (w := (Jvm.Cond.initialized "SmellBurdens$Foresight")) (xt1 (List.mem_of_getElem? (i := 7) (by decide +kernel))) rfl, ⟨by decide +kernel, by decide +kernel, by decide +kernel⟩, xg (w := (Jvm.Cond.instanceMethod ({ cls := "SmellBurdens$Foresight", name := "<init>", desc := "()V" } : Jvm.MethodName))) (xt1 (List.mem_of_getElem? (i := 127) (by decide +kernel))) rfl, rfl, rfl⟩
theorem wdX2_17 : (Jvm.Cond.methodLink "SmellBurdens$Foresight" (17 : Nat) ({ cls := "SmellBurdens$Plain", name := "takesOf", desc := "(JII)I" } : Jvm.MethodName)) ∈ xG := xg (xt3 (List.mem_of_getElem? (i := 127) (by decide +kernel))) rfl
theorem wdX2_21 : (Jvm.Cond.methodLink "SmellBurdens$Foresight" (21 : Nat) ({ cls := "SmellBurdens$Plain", name := "gone", desc := "(JI)J" } : Jvm.MethodName)) ∈ xG := xg (xt3 (List.mem_of_getElem? (i := 128) (by decide +kernel))) rfl
def pX2_behindDays : List xE := [(0, 1, .lload_n 1, 1, 0, 0, []), (1, 2, .lstore 4, 4, 0, 0, []), (3, 1, .iconst 0, 0, 0, 0, []), (4, 2, .istore 6, 6, 0, 0, []), (6, 2, .iload 6, 6, 0, 0, []), (8, 1, .iload_n 3, 3, 0, 0, []), (9, 3, .if_icmp .ge 27, 36, 0, 0, []), (12, 1, .aload_n 0, 0, 0, 0, []), (13, 2, .lload 4, 4, 0, 0, []), (15, 1, .aload_n 0, 0, 0, 0, []), (16, 2, .lload 4, 4, 0, 0, []), (18, 2, .bipush 27, 27, 0, 0, []), (20, 2, .bipush 15, 15, 0, 0, []), (22, 3, .invokevirtual 17, 0, 0, 0, []), (25, 3, .invokevirtual 21, 1, 0, 0, []), (28, 2, .lstore 4, 4, 0, 0, []), (30, 3, .iinc 6 1, 6, 1, 0, []), (33, 3, .goto (-27), 6, 0, 0, []), (36, 2, .lload 4, 4, 0, 0, []), (38, 1, .lreturn, 0, 0, 0, [])]
def mX2_behindDays : xM := (yX2_behindDays, cX2_behindDays, 7, (some FieldType.long), 1, 3, 2, 5, 129, 0, pX2_behindDays)
theorem dX2_behindDays : xDec cX2_behindDays pX2_behindDays = true := by decide +kernel
theorem hX2_behindDays : xHd mX2_behindDays := ⟨xg (w := (Jvm.Cond.code ({ cls := "SmellBurdens$Foresight", name := "behindDays", desc := "(LSmellBurdens$Plain;JI)J" } : Jvm.MethodName) prog_4_method_2_code (7 : Nat) (Option.some Jvm.ClassFile.FieldType.long))) (xt3 (List.mem_of_getElem? (i := 126) (by decide +kernel))) rfl, xg (w := (Jvm.Cond.initialized "SmellBurdens$Foresight")) (xt1 (List.mem_of_getElem? (i := 7) (by decide +kernel))) rfl, ⟨by decide +kernel, by decide +kernel, by decide +kernel⟩, xg (w := (Jvm.Cond.static ({ cls := "SmellBurdens$Foresight", name := "behindDays", desc := "(LSmellBurdens$Plain;JI)J" } : Jvm.MethodName))) (xt3 (List.mem_of_getElem? (i := 125) (by decide +kernel))) rfl⟩
theorem wdX2_25 : (Jvm.Cond.methodLink "SmellBurdens$Foresight" (25 : Nat) ({ cls := "SmellBurdens$Plain", name := "atHomes", desc := "(J)I" } : Jvm.MethodName)) ∈ xG := xg (xt3 (List.mem_of_getElem? (i := 139) (by decide +kernel))) rfl
theorem wdX2_29 : (Jvm.Cond.fieldLinkNest "SmellBurdens$Foresight" (29 : Nat) "SmellBurdens$Plain" "loads" "I" "SmellBurdens") ∈ xNest := by decide +kernel
def pX2_allHome : List xE := [(0, 1, .aload_n 0, 0, 0, 0, []), (1, 1, .lload_n 1, 1, 0, 0, []), (2, 3, .invokevirtual 25, 0, 0, 0, []), (5, 1, .iconst 1, 1, 0, 0, []), (6, 1, .aload_n 0, 0, 0, 0, []), (7, 3, .getfield 29, 3, 1, 1, []), (10, 1, .ishl, 0, 0, 0, []), (11, 1, .iconst 1, 1, 0, 0, []), (12, 1, .isub, 0, 0, 0, []), (13, 3, .if_icmp .ne 7, 20, 0, 0, []), (16, 1, .iconst 1, 1, 0, 0, []), (17, 3, .goto 4, 21, 0, 0, []), (20, 1, .iconst 0, 0, 0, 0, []), (21, 1, .ireturn, 0, 0, 0, [])]
def mX2_allHome : xM := (yX2_allHome, cX2_allHome, 3, (some FieldType.boolean), 1, 2, 2, 4, 92, 0, pX2_allHome)
theorem dX2_allHome : xDec cX2_allHome pX2_allHome = true := by decide +kernel
theorem hX2_allHome : xHd mX2_allHome := ⟨xg (w := (Jvm.Cond.code ({ cls := "SmellBurdens$Foresight", name := "allHome", desc := "(LSmellBurdens$Plain;J)Z" } : Jvm.MethodName) prog_4_method_3_code (3 : Nat) (Option.some Jvm.ClassFile.FieldType.boolean))) (xt3 (List.mem_of_getElem? (i := 138) (by decide +kernel))) rfl, xg (w := (Jvm.Cond.initialized "SmellBurdens$Foresight")) (xt1 (List.mem_of_getElem? (i := 7) (by decide +kernel))) rfl, ⟨by decide +kernel, by decide +kernel, by decide +kernel⟩, xg (w := (Jvm.Cond.static ({ cls := "SmellBurdens$Foresight", name := "allHome", desc := "(LSmellBurdens$Plain;J)Z" } : Jvm.MethodName))) (xt3 (List.mem_of_getElem? (i := 137) (by decide +kernel))) rfl⟩
theorem wdX2_33 : (Jvm.Cond.methodLink "SmellBurdens$Foresight" (33 : Nat) ({ cls := "SmellBurdens$Foresight", name := "allHome", desc := "(LSmellBurdens$Plain;J)Z" } : Jvm.MethodName)) ∈ xG := xg (xt3 (List.mem_of_getElem? (i := 136) (by decide +kernel))) rfl
theorem wdX2_37 : (Jvm.Cond.methodLink "SmellBurdens$Foresight" (37 : Nat) ({ cls := "SmellBurdens$Foresight", name := "behindDays", desc := "(LSmellBurdens$Plain;JI)J" } : Jvm.MethodName)) ∈ xG := xg (xt3 (List.mem_of_getElem? (i := 144) (by decide +kernel))) rfl
def pX2_daysToHomes : List xE := [(0, 1, .lload_n 1, 1, 0, 0, []), (1, 1, .lstore_n 3, 3, 0, 0, []), (2, 1, .iconst 0, 0, 0, 0, []), (3, 2, .istore 5, 5, 0, 0, []), (5, 2, .iload 5, 5, 0, 0, []), (7, 2, .bipush 60, 60, 0, 0, []), (9, 3, .if_icmp .gt 27, 36, 0, 0, []), (12, 1, .aload_n 0, 0, 0, 0, []), (13, 1, .lload_n 3, 3, 0, 0, []), (14, 3, .invokestatic 33, 0, 0, 0, []), (17, 3, .ifCond .eq 6, 23, 0, 0, []), (20, 2, .iload 5, 5, 0, 0, []), (22, 1, .ireturn, 0, 0, 0, []), (23, 1, .aload_n 0, 0, 0, 0, []), (24, 1, .lload_n 3, 3, 0, 0, []), (25, 1, .iconst 1, 1, 0, 0, []), (26, 3, .invokestatic 37, 1, 0, 0, []), (29, 1, .lstore_n 3, 3, 0, 0, []), (30, 3, .iinc 5 1, 5, 1, 0, []), (33, 3, .goto (-28), 5, 0, 0, []), (36, 2, .bipush (-9), 9, 0, 0, []), (38, 1, .ireturn, 0, 0, 0, [])]
def mX2_daysToHomes : xM := (yX2_daysToHomes, cX2_daysToHomes, 6, (some FieldType.int), 1, 2, 2, 6, 155, 0, pX2_daysToHomes)
theorem dX2_daysToHomes : xDec cX2_daysToHomes pX2_daysToHomes = true := by decide +kernel
theorem hX2_daysToHomes : xHd mX2_daysToHomes := ⟨xg (w := (Jvm.Cond.code ({ cls := "SmellBurdens$Foresight", name := "daysToHomes", desc := "(LSmellBurdens$Plain;J)I" } : Jvm.MethodName) prog_4_method_4_code (6 : Nat) (Option.some Jvm.ClassFile.FieldType.int))) (xt3 (List.mem_of_getElem? (i := 135) (by decide +kernel))) rfl, xg (w := (Jvm.Cond.initialized "SmellBurdens$Foresight")) (xt1 (List.mem_of_getElem? (i := 7) (by decide +kernel))) rfl, ⟨by decide +kernel, by decide +kernel, by decide +kernel⟩, xg (w := (Jvm.Cond.static ({ cls := "SmellBurdens$Foresight", name := "daysToHomes", desc := "(LSmellBurdens$Plain;J)I" } : Jvm.MethodName))) (xt3 (List.mem_of_getElem? (i := 134) (by decide +kernel))) rfl⟩
theorem wdX2_41 : (Jvm.Cond.methodLink "SmellBurdens$Foresight" (41 : Nat) ({ cls := "SmellBurdens$Foresight", name := "daysSince", desc := "(I)I" } : Jvm.MethodName)) ∈ xG := xg (xt3 (List.mem_of_getElem? (i := 153) (by decide +kernel))) rfl
def pX2_firstAgain : List xE := [(0, 1, .aload_n 0, 0, 0, 0, []), (1, 3, .getfield 9, 2, 0, 0, []), (4, 1, .iconst 0, 0, 0, 0, []), (5, 1, .lload_n 2, 2, 0, 0, []), (6, 1, .lastore, 0, 0, 0, []), (7, 1, .iconst 1, 1, 0, 0, []), (8, 2, .istore 4, 4, 0, 0, []), (10, 2, .iload 4, 4, 0, 0, []), (12, 1, .aload_n 0, 0, 0, 0, []), (13, 3, .getfield 9, 2, 0, 0, []), (16, 1, .arraylength, 0, 0, 0, []), (17, 3, .if_icmp .ge 42, 59, 0, 0, []), (20, 1, .aload_n 0, 0, 0, 0, []), (21, 3, .getfield 9, 2, 0, 0, []), (24, 2, .iload 4, 4, 0, 0, []), (26, 1, .aload_n 1, 1, 0, 0, []), (27, 1, .aload_n 0, 0, 0, 0, []), (28, 3, .getfield 9, 2, 0, 0, []), (31, 2, .iload 4, 4, 0, 0, []), (33, 1, .iconst 1, 1, 0, 0, []), (34, 1, .isub, 0, 0, 0, []), (35, 1, .laload, 0, 0, 0, []), (36, 1, .iconst 1, 1, 0, 0, []), (37, 3, .invokestatic 37, 0, 0, 0, []), (40, 1, .lastore, 0, 0, 0, []), (41, 1, .aload_n 0, 0, 0, 0, []), (42, 2, .iload 4, 4, 0, 0, []), (44, 3, .invokevirtual 41, 1, 0, 0, []), (47, 3, .ifCond .le 6, 53, 0, 0, []), (50, 2, .iload 4, 4, 0, 0, []), (52, 1, .ireturn, 0, 0, 0, []), (53, 3, .iinc 4 1, 4, 1, 0, []), (56, 3, .goto (-46), 10, 0, 0, []), (59, 2, .bipush (-9), 9, 0, 0, []), (61, 1, .ireturn, 0, 0, 0, [])]
def mX2_firstAgain : xM := (yX2_firstAgain, cX2_firstAgain, 5, (some FieldType.int), 0, 2, 2, 6, 155, 0, pX2_firstAgain)
theorem dX2_firstAgain : xDec cX2_firstAgain pX2_firstAgain = true := by decide +kernel
theorem hX2_firstAgain : xHd mX2_firstAgain := ⟨xg (w := (Jvm.Cond.code ({ cls := "SmellBurdens$Foresight", name := "firstAgain", desc := "(LSmellBurdens$Plain;J)I" } : Jvm.MethodName) prog_4_method_5_code (5 : Nat) (Option.some Jvm.ClassFile.FieldType.int))) (xt3 (List.mem_of_getElem? (i := 152) (by decide +kernel))) rfl, xg (w := (Jvm.Cond.initialized "SmellBurdens$Foresight")) (xt1 (List.mem_of_getElem? (i := 7) (by decide +kernel))) rfl, ⟨by decide +kernel, by decide +kernel, by decide +kernel⟩, xg (w := (Jvm.Cond.instanceMethod ({ cls := "SmellBurdens$Foresight", name := "firstAgain", desc := "(LSmellBurdens$Plain;J)I" } : Jvm.MethodName))) (xt3 (List.mem_of_getElem? (i := 150) (by decide +kernel))) rfl, xg (w := (Jvm.Cond.selects "SmellBurdens$Foresight" ({ cls := "SmellBurdens$Foresight", name := "firstAgain", desc := "(LSmellBurdens$Plain;J)I" } : Jvm.MethodName) ({ cls := "SmellBurdens$Foresight", name := "firstAgain", desc := "(LSmellBurdens$Plain;J)I" } : Jvm.MethodName))) (xt3 (List.mem_of_getElem? (i := 151) (by decide +kernel))) rfl, rfl⟩
def pX2_daysSince : List xE := [(0, 1, .iload_n 1, 1, 0, 0, []), (1, 3, .ifCond .lt 12, 13, 0, 0, []), (4, 1, .iload_n 1, 1, 0, 0, []), (5, 1, .aload_n 0, 0, 0, 0, []), (6, 3, .getfield 9, 2, 0, 0, []), (9, 1, .arraylength, 0, 0, 0, []), (10, 3, .if_icmp .lt 5, 15, 0, 0, []), (13, 1, .iconst 0, 0, 0, 0, []), (14, 1, .ireturn, 0, 0, 0, []), (15, 1, .iconst 1, 1, 0, 0, []), (16, 1, .istore_n 2, 2, 0, 0, []), (17, 1, .iload_n 2, 2, 0, 0, []), (18, 1, .iload_n 1, 1, 0, 0, []), (19, 3, .if_icmp .gt 29, 48, 0, 0, []), (22, 1, .aload_n 0, 0, 0, 0, []), (23, 3, .getfield 9, 2, 0, 0, []), (26, 1, .iload_n 1, 1, 0, 0, []), (27, 1, .iload_n 2, 2, 0, 0, []), (28, 1, .isub, 0, 0, 0, []), (29, 1, .laload, 0, 0, 0, []), (30, 1, .aload_n 0, 0, 0, 0, []), (31, 3, .getfield 9, 2, 0, 0, []), (34, 1, .iload_n 1, 1, 0, 0, []), (35, 1, .laload, 0, 0, 0, []), (36, 1, .lcmp, 0, 0, 0, []), (37, 3, .ifCond .ne 5, 42, 0, 0, []), (40, 1, .iload_n 2, 2, 0, 0, []), (41, 1, .ireturn, 0, 0, 0, []), (42, 3, .iinc 2 1, 2, 1, 0, []), (45, 3, .goto (-28), 17, 0, 0, []), (48, 1, .iconst 0, 0, 0, 0, []), (49, 1, .ireturn, 0, 0, 0, [])]
def mX2_daysSince : xM := (yX2_daysSince, cX2_daysSince, 3, (some FieldType.int), 0, 1, 2, 0, 0, 0, pX2_daysSince)
theorem dX2_daysSince : xDec cX2_daysSince pX2_daysSince = true := by decide +kernel
theorem hX2_daysSince : xHd mX2_daysSince := ⟨xg (w := (Jvm.Cond.code ({ cls := "SmellBurdens$Foresight", name := "daysSince", desc := "(I)I" } : Jvm.MethodName) prog_4_method_6_code (3 : Nat) (Option.some Jvm.ClassFile.FieldType.int))) (xt3 (List.mem_of_getElem? (i := 156) (by decide +kernel))) rfl, xg (w := (Jvm.Cond.initialized "SmellBurdens$Foresight")) (xt1 (List.mem_of_getElem? (i := 7) (by decide +kernel))) rfl, ⟨by decide +kernel, by decide +kernel, by decide +kernel⟩, xg (w := (Jvm.Cond.instanceMethod ({ cls := "SmellBurdens$Foresight", name := "daysSince", desc := "(I)I" } : Jvm.MethodName))) (xt3 (List.mem_of_getElem? (i := 154) (by decide +kernel))) rfl, xg (w := (Jvm.Cond.selects "SmellBurdens$Foresight" ({ cls := "SmellBurdens$Foresight", name := "daysSince", desc := "(I)I" } : Jvm.MethodName) ({ cls := "SmellBurdens$Foresight", name := "daysSince", desc := "(I)I" } : Jvm.MethodName))) (xt3 (List.mem_of_getElem? (i := 155) (by decide +kernel))) rfl, rfl⟩
theorem wdX2_45 : (Jvm.Cond.methodLink "SmellBurdens$Foresight" (45 : Nat) ({ cls := "SmellBurdens$Scene", name := "marksOf", desc := "(JI)I" } : Jvm.MethodName)) ∈ xG := xg (xt3 (List.mem_of_getElem? (i := 165) (by decide +kernel))) rfl
theorem wdX2_51 : (Jvm.Cond.methodLink "SmellBurdens$Foresight" (51 : Nat) ({ cls := "java/lang/Integer", name := "bitCount", desc := "(I)I" } : Jvm.MethodName)) ∈ xG := xg (xt3 (List.mem_of_getElem? (i := 166) (by decide +kernel))) rfl
theorem wdX2_56 : (Jvm.Cond.methodLink "SmellBurdens$Foresight" (56 : Nat) ({ cls := "SmellBurdens$Scene", name := "withMarks", desc := "(JII)J" } : Jvm.MethodName)) ∈ xG := xg (xt3 (List.mem_of_getElem? (i := 167) (by decide +kernel))) rfl
theorem wdX2_60 : (Jvm.Cond.methodLink "SmellBurdens$Foresight" (60 : Nat) ({ cls := "SmellBurdens$Plain", name := "isHome", desc := "(JI)Z" } : Jvm.MethodName)) ∈ xG := xg (xt3 (List.mem_of_getElem? (i := 168) (by decide +kernel))) rfl
def pX2_marksToHome : List xE := [(0, 1, .lload_n 1, 1, 0, 0, []), (1, 1, .iload_n 3, 3, 0, 0, []), (2, 3, .invokestatic 45, 0, 0, 0, []), (5, 2, .istore 5, 5, 0, 0, []), (7, 2, .bipush (-9), 9, 0, 0, []), (9, 2, .istore 6, 6, 0, 0, []), (11, 1, .iconst 5, 5, 0, 0, []), (12, 2, .istore 7, 7, 0, 0, []), (14, 1, .iconst 0, 0, 0, 0, []), (15, 2, .istore 8, 8, 0, 0, []), (17, 2, .iload 8, 8, 0, 0, []), (19, 2, .bipush 16, 16, 0, 0, []), (21, 3, .if_icmp .ge 59, 80, 0, 0, []), (24, 2, .iload 8, 8, 0, 0, []), (26, 2, .iload 5, 5, 0, 0, []), (28, 1, .ixor, 0, 0, 0, []), (29, 3, .invokestatic 51, 1, 0, 0, []), (32, 2, .istore 9, 9, 0, 0, []), (34, 2, .iload 9, 9, 0, 0, []), (36, 2, .iload 7, 7, 0, 0, []), (38, 3, .if_icmp .ge 36, 74, 0, 0, []), (41, 1, .aload_n 0, 0, 0, 0, []), (42, 1, .lload_n 1, 1, 0, 0, []), (43, 1, .iload_n 3, 3, 0, 0, []), (44, 2, .iload 8, 8, 0, 0, []), (46, 3, .invokestatic 56, 2, 0, 0, []), (49, 2, .iload 4, 4, 0, 0, []), (51, 3, .invokestatic 37, 3, 0, 0, []), (54, 2, .lstore 10, 10, 0, 0, []), (56, 1, .aload_n 0, 0, 0, 0, []), (57, 2, .lload 10, 10, 0, 0, []), (59, 1, .iload_n 3, 3, 0, 0, []), (60, 3, .invokevirtual 60, 4, 0, 0, []), (63, 3, .ifCond .eq 11, 74, 0, 0, []), (66, 2, .iload 9, 9, 0, 0, []), (68, 2, .istore 7, 7, 0, 0, []), (70, 2, .iload 8, 8, 0, 0, []), (72, 2, .istore 6, 6, 0, 0, []), (74, 3, .iinc 8 1, 8, 1, 0, []), (77, 3, .goto (-60), 17, 0, 0, []), (80, 2, .iload 6, 6, 0, 0, []), (82, 1, .ireturn, 0, 0, 0, [])]
def mX2_marksToHome : xM := (yX2_marksToHome, cX2_marksToHome, 12, (some FieldType.int), 1, 4, 2, 6, 155, 0, pX2_marksToHome)
theorem dX2_marksToHome : xDec cX2_marksToHome pX2_marksToHome = true := by decide +kernel
theorem hX2_marksToHome : xHd mX2_marksToHome := ⟨xg (w := (Jvm.Cond.code ({ cls := "SmellBurdens$Foresight", name := "marksToHome", desc := "(LSmellBurdens$Plain;JII)I" } : Jvm.MethodName) prog_4_method_7_code (12 : Nat) (Option.some Jvm.ClassFile.FieldType.int))) (xt3 (List.mem_of_getElem? (i := 164) (by decide +kernel))) rfl, xg (w := (Jvm.Cond.initialized "SmellBurdens$Foresight")) (xt1 (List.mem_of_getElem? (i := 7) (by decide +kernel))) rfl, ⟨by decide +kernel, by decide +kernel, by decide +kernel⟩, xg (w := (Jvm.Cond.static ({ cls := "SmellBurdens$Foresight", name := "marksToHome", desc := "(LSmellBurdens$Plain;JII)I" } : Jvm.MethodName))) (xt3 (List.mem_of_getElem? (i := 163) (by decide +kernel))) rfl⟩
theorem wdX3_9 : (Jvm.Cond.methodLink "SmellBurdens$Guess" (9 : Nat) ({ cls := "SmellBurdens$Shelf", name := "isThere", desc := "(I)Z" } : Jvm.MethodName)) ∈ xG := xg (xt4 (List.mem_of_getElem? (i := 14) (by decide +kernel))) rfl
theorem wdX3_15 : (Jvm.Cond.methodLink "SmellBurdens$Guess" (15 : Nat) ({ cls := "SmellBurdens$Shelf", name := "sizeOf", desc := "(I)I" } : Jvm.MethodName)) ∈ xG := xg (xt4 (List.mem_of_getElem? (i := 15) (by decide +kernel))) rfl
theorem wdX3_19 : (Jvm.Cond.methodLink "SmellBurdens$Guess" (19 : Nat) ({ cls := "SmellBurdens$Shelf", name := "get", desc := "(II)I" } : Jvm.MethodName)) ∈ xG := xg (xt4 (List.mem_of_getElem? (i := 16) (by decide +kernel))) rfl
theorem wdX3_23 : (Jvm.Cond.methodLinkNest "SmellBurdens$Guess" (23 : Nat) ({ cls := "SmellBurdens", name := "isSet", desc := "(I)Z" } : Jvm.MethodName) "SmellBurdens") ∈ xNest := by decide +kernel
def pX3_wrongPairs : List xE := [(0, 1, .aload_n 0, 0, 0, 0, []), (1, 1, .iload_n 1, 1, 0, 0, []), (2, 3, .invokevirtual 9, 0, 0, 0, []), (5, 3, .ifCond .ne 5, 10, 0, 0, []), (8, 1, .iconst 1, 1, 0, 0, []), (9, 1, .ireturn, 0, 0, 0, []), (10, 1, .aload_n 0, 0, 0, 0, []), (11, 1, .iload_n 1, 1, 0, 0, []), (12, 3, .invokevirtual 15, 1, 0, 0, []), (15, 1, .istore_n 2, 2, 0, 0, []), (16, 1, .iload_n 2, 2, 0, 0, []), (17, 2, .bipush 16, 16, 0, 0, []), (19, 3, .if_icmp .gt 9, 28, 0, 0, []), (22, 1, .iload_n 2, 2, 0, 0, []), (23, 1, .iconst 2, 2, 0, 0, []), (24, 1, .irem, 0, 0, 0, []), (25, 3, .ifCond .eq 5, 30, 0, 0, []), (28, 1, .iconst 5, 5, 0, 0, []), (29, 1, .ireturn, 0, 0, 0, []), (30, 1, .iconst 0, 0, 0, 0, []), (31, 1, .istore_n 3, 3, 0, 0, []), (32, 1, .iload_n 3, 3, 0, 0, []), (33, 1, .iload_n 2, 2, 0, 0, []), (34, 3, .if_icmp .ge 44, 78, 0, 0, []), (37, 1, .aload_n 0, 0, 0, 0, []), (38, 1, .iload_n 1, 1, 0, 0, []), (39, 1, .iload_n 3, 3, 0, 0, []), (40, 1, .iconst 1, 1, 0, 0, []), (41, 1, .iadd, 0, 0, 0, []), (42, 3, .invokevirtual 19, 2, 0, 0, []), (45, 2, .istore 4, 4, 0, 0, []), (47, 1, .aload_n 0, 0, 0, 0, []), (48, 1, .iload_n 1, 1, 0, 0, []), (49, 1, .iload_n 3, 3, 0, 0, []), (50, 3, .invokevirtual 19, 2, 0, 0, []), (53, 3, .invokestatic 23, 3, 1, 0, []), (56, 3, .ifCond .eq 14, 70, 0, 0, []), (59, 2, .iload 4, 4, 0, 0, []), (61, 3, .ifCond .lt 9, 70, 0, 0, []), (64, 2, .iload 4, 4, 0, 0, []), (66, 1, .iconst 1, 1, 0, 0, []), (67, 3, .if_icmp .le 5, 72, 0, 0, []), (70, 1, .iconst 3, 3, 0, 0, []), (71, 1, .ireturn, 0, 0, 0, []), (72, 3, .iinc 3 2, 3, 2, 0, []), (75, 3, .goto (-43), 32, 0, 0, []), (78, 1, .iconst 0, 0, 0, 0, []), (79, 1, .ireturn, 0, 0, 0, [])]
def mX3_wrongPairs : xM := (yX3_wrongPairs, cX3_wrongPairs, 5, (some FieldType.int), 1, 2, 0, 3, 68, 0, pX3_wrongPairs)
theorem dX3_wrongPairs : xDec cX3_wrongPairs pX3_wrongPairs = true := by decide +kernel
theorem hX3_wrongPairs : xHd mX3_wrongPairs := ⟨xg (w := (Jvm.Cond.code ({ cls := "SmellBurdens$Guess", name := "wrongPairs", desc := "(LSmellBurdens$Shelf;I)I" } : Jvm.MethodName) prog_5_method_2_code (5 : Nat) (Option.some Jvm.ClassFile.FieldType.int))) (xt4 (List.mem_of_getElem? (i := 13) (by decide +kernel))) rfl, xg (w := (Jvm.Cond.initialized "SmellBurdens$Guess")) (xt1 (List.mem_of_getElem? (i := 15) (by decide +kernel))) rfl, ⟨by decide +kernel, by decide +kernel, by decide +kernel⟩, xg (w := (Jvm.Cond.static ({ cls := "SmellBurdens$Guess", name := "wrongPairs", desc := "(LSmellBurdens$Shelf;I)I" } : Jvm.MethodName))) (xt4 (List.mem_of_getElem? (i := 12) (by decide +kernel))) rfl⟩
theorem wdX3_26 : (Jvm.Cond.methodLink "SmellBurdens$Guess" (26 : Nat) ({ cls := "SmellBurdens$Kind", name := "wouldTake", desc := "(III)Z" } : Jvm.MethodName)) ∈ xG := xg (xt4 (List.mem_of_getElem? (i := 24) (by decide +kernel))) rfl
def pX3_fits : List xE := [(0, 1, .iconst 0, 0, 0, 0, []), (1, 2, .istore 4, 4, 0, 0, []), (3, 2, .iload 4, 4, 0, 0, []), (5, 1, .aload_n 0, 0, 0, 0, []), (6, 1, .iload_n 1, 1, 0, 0, []), (7, 3, .invokevirtual 15, 0, 0, 0, []), (10, 3, .if_icmp .ge 48, 58, 0, 0, []), (13, 1, .aload_n 0, 0, 0, 0, []), (14, 1, .iload_n 1, 1, 0, 0, []), (15, 2, .iload 4, 4, 0, 0, []), (17, 1, .iconst 1, 1, 0, 0, []), (18, 1, .iadd, 0, 0, 0, []), (19, 3, .invokevirtual 19, 1, 0, 0, []), (22, 1, .iconst 1, 1, 0, 0, []), (23, 3, .if_icmp .ne 7, 30, 0, 0, []), (26, 1, .iconst 1, 1, 0, 0, []), (27, 3, .goto 4, 31, 0, 0, []), (30, 1, .iconst 0, 0, 0, 0, []), (31, 2, .istore 5, 5, 0, 0, []), (33, 1, .iload_n 2, 2, 0, 0, []), (34, 1, .iload_n 3, 3, 0, 0, []), (35, 1, .aload_n 0, 0, 0, 0, []), (36, 1, .iload_n 1, 1, 0, 0, []), (37, 2, .iload 4, 4, 0, 0, []), (39, 3, .invokevirtual 19, 1, 0, 0, []), (42, 3, .invokestatic 26, 2, 0, 0, []), (45, 2, .iload 5, 5, 0, 0, []), (47, 3, .if_icmp .eq 5, 52, 0, 0, []), (50, 1, .iconst 0, 0, 0, 0, []), (51, 1, .ireturn, 0, 0, 0, []), (52, 3, .iinc 4 2, 4, 2, 0, []), (55, 3, .goto (-52), 3, 0, 0, []), (58, 1, .iconst 1, 1, 0, 0, []), (59, 1, .ireturn, 0, 0, 0, [])]
def mX3_fits : xM := (yX3_fits, cX3_fits, 6, (some FieldType.boolean), 1, 4, 0, 3, 68, 0, pX3_fits)
theorem dX3_fits : xDec cX3_fits pX3_fits = true := by decide +kernel
theorem hX3_fits : xHd mX3_fits := ⟨xg (w := (Jvm.Cond.code ({ cls := "SmellBurdens$Guess", name := "fits", desc := "(LSmellBurdens$Shelf;III)Z" } : Jvm.MethodName) prog_5_method_3_code (6 : Nat) (Option.some Jvm.ClassFile.FieldType.boolean))) (xt4 (List.mem_of_getElem? (i := 23) (by decide +kernel))) rfl, xg (w := (Jvm.Cond.initialized "SmellBurdens$Guess")) (xt1 (List.mem_of_getElem? (i := 15) (by decide +kernel))) rfl, ⟨by decide +kernel, by decide +kernel, by decide +kernel⟩, xg (w := (Jvm.Cond.static ({ cls := "SmellBurdens$Guess", name := "fits", desc := "(LSmellBurdens$Shelf;III)Z" } : Jvm.MethodName))) (xt4 (List.mem_of_getElem? (i := 22) (by decide +kernel))) rfl⟩
theorem wdX3_32 : (Jvm.Cond.methodLink "SmellBurdens$Guess" (32 : Nat) ({ cls := "SmellBurdens$Guess", name := "fits", desc := "(LSmellBurdens$Shelf;III)Z" } : Jvm.MethodName)) ∈ xG := xg (xt4 (List.mem_of_getElem? (i := 21) (by decide +kernel))) rfl
def pX3_memoriesBy : List xE := [(0, 1, .iconst 0, 0, 0, 0, []), (1, 1, .istore_n 3, 3, 0, 0, []), (2, 1, .iconst 0, 0, 0, 0, []), (3, 2, .istore 4, 4, 0, 0, []), (5, 2, .iload 4, 4, 0, 0, []), (7, 2, .bipush 16, 16, 0, 0, []), (9, 3, .if_icmp .ge 31, 40, 0, 0, []), (12, 1, .iload_n 3, 3, 0, 0, []), (13, 1, .aload_n 0, 0, 0, 0, []), (14, 1, .iload_n 1, 1, 0, 0, []), (15, 1, .iload_n 2, 2, 0, 0, []), (16, 2, .iload 4, 4, 0, 0, []), (18, 3, .invokestatic 32, 0, 0, 0, []), (21, 3, .ifCond .eq 10, 31, 0, 0, []), (24, 1, .iconst 1, 1, 0, 0, []), (25, 2, .iload 4, 4, 0, 0, []), (27, 1, .ishl, 0, 0, 0, []), (28, 3, .goto 4, 32, 0, 0, []), (31, 1, .iconst 0, 0, 0, 0, []), (32, 1, .ior, 0, 0, 0, []), (33, 1, .istore_n 3, 3, 0, 0, []), (34, 3, .iinc 4 1, 4, 1, 0, []), (37, 3, .goto (-32), 5, 0, 0, []), (40, 1, .iload_n 3, 3, 0, 0, []), (41, 1, .ireturn, 0, 0, 0, [])]
def mX3_memoriesBy : xM := (yX3_memoriesBy, cX3_memoriesBy, 5, (some FieldType.int), 1, 3, 0, 4, 93, 0, pX3_memoriesBy)
theorem dX3_memoriesBy : xDec cX3_memoriesBy pX3_memoriesBy = true := by decide +kernel
theorem hX3_memoriesBy : xHd mX3_memoriesBy := ⟨xg (w := (Jvm.Cond.code ({ cls := "SmellBurdens$Guess", name := "memoriesBy", desc := "(LSmellBurdens$Shelf;II)I" } : Jvm.MethodName) prog_5_method_4_code (5 : Nat) (Option.some Jvm.ClassFile.FieldType.int))) (xt4 (List.mem_of_getElem? (i := 20) (by decide +kernel))) rfl, xg (w := (Jvm.Cond.initialized "SmellBurdens$Guess")) (xt1 (List.mem_of_getElem? (i := 15) (by decide +kernel))) rfl, ⟨by decide +kernel, by decide +kernel, by decide +kernel⟩, xg (w := (Jvm.Cond.static ({ cls := "SmellBurdens$Guess", name := "memoriesBy", desc := "(LSmellBurdens$Shelf;II)I" } : Jvm.MethodName))) (xt4 (List.mem_of_getElem? (i := 19) (by decide +kernel))) rfl⟩
def pX3_kindsBy : List xE := [(0, 1, .iconst 0, 0, 0, 0, []), (1, 1, .istore_n 3, 3, 0, 0, []), (2, 1, .iconst 0, 0, 0, 0, []), (3, 2, .istore 4, 4, 0, 0, []), (5, 2, .iload 4, 4, 0, 0, []), (7, 2, .bipush 6, 6, 0, 0, []), (9, 3, .if_icmp .ge 31, 40, 0, 0, []), (12, 1, .iload_n 3, 3, 0, 0, []), (13, 1, .aload_n 0, 0, 0, 0, []), (14, 1, .iload_n 1, 1, 0, 0, []), (15, 2, .iload 4, 4, 0, 0, []), (17, 1, .iload_n 2, 2, 0, 0, []), (18, 3, .invokestatic 32, 0, 0, 0, []), (21, 3, .ifCond .eq 10, 31, 0, 0, []), (24, 1, .iconst 1, 1, 0, 0, []), (25, 2, .iload 4, 4, 0, 0, []), (27, 1, .ishl, 0, 0, 0, []), (28, 3, .goto 4, 32, 0, 0, []), (31, 1, .iconst 0, 0, 0, 0, []), (32, 1, .ior, 0, 0, 0, []), (33, 1, .istore_n 3, 3, 0, 0, []), (34, 3, .iinc 4 1, 4, 1, 0, []), (37, 3, .goto (-32), 5, 0, 0, []), (40, 1, .iload_n 3, 3, 0, 0, []), (41, 1, .ireturn, 0, 0, 0, [])]
def mX3_kindsBy : xM := (yX3_kindsBy, cX3_kindsBy, 5, (some FieldType.int), 1, 3, 0, 4, 93, 0, pX3_kindsBy)
theorem dX3_kindsBy : xDec cX3_kindsBy pX3_kindsBy = true := by decide +kernel
theorem hX3_kindsBy : xHd mX3_kindsBy := ⟨xg (w := (Jvm.Cond.code ({ cls := "SmellBurdens$Guess", name := "kindsBy", desc := "(LSmellBurdens$Shelf;II)I" } : Jvm.MethodName) prog_5_method_5_code (5 : Nat) (Option.some Jvm.ClassFile.FieldType.int))) (xt4 (List.mem_of_getElem? (i := 31) (by decide +kernel))) rfl, xg (w := (Jvm.Cond.initialized "SmellBurdens$Guess")) (xt1 (List.mem_of_getElem? (i := 15) (by decide +kernel))) rfl, ⟨by decide +kernel, by decide +kernel, by decide +kernel⟩, xg (w := (Jvm.Cond.static ({ cls := "SmellBurdens$Guess", name := "kindsBy", desc := "(LSmellBurdens$Shelf;II)I" } : Jvm.MethodName))) (xt4 (List.mem_of_getElem? (i := 30) (by decide +kernel))) rfl⟩
theorem wdX3_38 : (Jvm.Cond.methodLink "SmellBurdens$Guess" (38 : Nat) ({ cls := "SmellBurdens$Guess", name := "greaterPart", desc := "(III)I" } : Jvm.MethodName)) ∈ xG := xg (xt4 (List.mem_of_getElem? (i := 39) (by decide +kernel))) rfl
def pX3_tellingMarks : List xE := [(0, 1, .iconst 0, 0, 0, 0, []), (1, 1, .istore_n 2, 2, 0, 0, []), (2, 1, .iconst 1, 1, 0, 0, []), (3, 1, .istore_n 3, 3, 0, 0, []), (4, 1, .iload_n 3, 3, 0, 0, []), (5, 2, .bipush 16, 16, 0, 0, []), (7, 3, .if_icmp .ge 26, 33, 0, 0, []), (10, 1, .iload_n 0, 0, 0, 0, []), (11, 1, .iload_n 1, 1, 0, 0, []), (12, 1, .iload_n 3, 3, 0, 0, []), (13, 3, .invokestatic 38, 0, 0, 0, []), (16, 1, .iload_n 0, 0, 0, 0, []), (17, 1, .iload_n 1, 1, 0, 0, []), (18, 1, .iload_n 2, 2, 0, 0, []), (19, 3, .invokestatic 38, 0, 0, 0, []), (22, 3, .if_icmp .ge 5, 27, 0, 0, []), (25, 1, .iload_n 3, 3, 0, 0, []), (26, 1, .istore_n 2, 2, 0, 0, []), (27, 3, .iinc 3 1, 3, 1, 0, []), (30, 3, .goto (-26), 4, 0, 0, []), (33, 1, .iload_n 2, 2, 0, 0, []), (34, 1, .ireturn, 0, 0, 0, [])]
def mX3_tellingMarks : xM := (yX3_tellingMarks, cX3_tellingMarks, 4, (some FieldType.int), 1, 2, 0, 4, 89, 0, pX3_tellingMarks)
theorem dX3_tellingMarks : xDec cX3_tellingMarks pX3_tellingMarks = true := by decide +kernel
theorem hX3_tellingMarks : xHd mX3_tellingMarks := ⟨xg (w := (Jvm.Cond.code ({ cls := "SmellBurdens$Guess", name := "tellingMarks", desc := "(II)I" } : Jvm.MethodName) prog_5_method_6_code (4 : Nat) (Option.some Jvm.ClassFile.FieldType.int))) (xt4 (List.mem_of_getElem? (i := 38) (by decide +kernel))) rfl, xg (w := (Jvm.Cond.initialized "SmellBurdens$Guess")) (xt1 (List.mem_of_getElem? (i := 15) (by decide +kernel))) rfl, ⟨by decide +kernel, by decide +kernel, by decide +kernel⟩, xg (w := (Jvm.Cond.static ({ cls := "SmellBurdens$Guess", name := "tellingMarks", desc := "(II)I" } : Jvm.MethodName))) (xt4 (List.mem_of_getElem? (i := 37) (by decide +kernel))) rfl⟩
theorem wdX3_42 : (Jvm.Cond.methodLink "SmellBurdens$Guess" (42 : Nat) ({ cls := "java/lang/Integer", name := "bitCount", desc := "(I)I" } : Jvm.MethodName)) ∈ xG := xg (xt4 (List.mem_of_getElem? (i := 42) (by decide +kernel))) rfl
theorem wdX3_47 : (Jvm.Cond.methodLink "SmellBurdens$Guess" (47 : Nat) ({ cls := "java/lang/Math", name := "max", desc := "(II)I" } : Jvm.MethodName)) ∈ xG := xg (xt4 (List.mem_of_getElem? (i := 43) (by decide +kernel))) rfl
def pX3_greaterPart : List xE := [(0, 1, .iconst 0, 0, 0, 0, []), (1, 1, .istore_n 3, 3, 0, 0, []), (2, 1, .iconst 0, 0, 0, 0, []), (3, 2, .istore 4, 4, 0, 0, []), (5, 2, .iload 4, 4, 0, 0, []), (7, 2, .bipush 16, 16, 0, 0, []), (9, 3, .if_icmp .ge 32, 41, 0, 0, []), (12, 1, .iload_n 1, 1, 0, 0, []), (13, 2, .iload 4, 4, 0, 0, []), (15, 1, .ishr, 0, 0, 0, []), (16, 1, .iconst 1, 1, 0, 0, []), (17, 1, .iand, 0, 0, 0, []), (18, 1, .iconst 1, 1, 0, 0, []), (19, 3, .if_icmp .ne 16, 35, 0, 0, []), (22, 1, .iload_n 0, 0, 0, 0, []), (23, 2, .iload 4, 4, 0, 0, []), (25, 1, .iload_n 2, 2, 0, 0, []), (26, 3, .invokestatic 26, 0, 0, 0, []), (29, 3, .ifCond .eq 6, 35, 0, 0, []), (32, 3, .iinc 3 1, 3, 1, 0, []), (35, 3, .iinc 4 1, 4, 1, 0, []), (38, 3, .goto (-33), 5, 0, 0, []), (41, 1, .iload_n 3, 3, 0, 0, []), (42, 1, .iload_n 1, 1, 0, 0, []), (43, 3, .invokestatic 42, 1, 0, 0, []), (46, 1, .iload_n 3, 3, 0, 0, []), (47, 1, .isub, 0, 0, 0, []), (48, 3, .invokestatic 47, 0, 0, 1, []), (51, 1, .ireturn, 0, 0, 0, [])]
def mX3_greaterPart : xM := (yX3_greaterPart, cX3_greaterPart, 5, (some FieldType.int), 1, 3, 0, 3, 65, 0, pX3_greaterPart)
theorem dX3_greaterPart : xDec cX3_greaterPart pX3_greaterPart = true := by decide +kernel
theorem hX3_greaterPart : xHd mX3_greaterPart := ⟨xg (w := (Jvm.Cond.code ({ cls := "SmellBurdens$Guess", name := "greaterPart", desc := "(III)I" } : Jvm.MethodName) prog_5_method_7_code (5 : Nat) (Option.some Jvm.ClassFile.FieldType.int))) (xt4 (List.mem_of_getElem? (i := 41) (by decide +kernel))) rfl, xg (w := (Jvm.Cond.initialized "SmellBurdens$Guess")) (xt1 (List.mem_of_getElem? (i := 15) (by decide +kernel))) rfl, ⟨by decide +kernel, by decide +kernel, by decide +kernel⟩, xg (w := (Jvm.Cond.static ({ cls := "SmellBurdens$Guess", name := "greaterPart", desc := "(III)I" } : Jvm.MethodName))) (xt4 (List.mem_of_getElem? (i := 40) (by decide +kernel))) rfl⟩
def pX4_byLetter : List xE := [(0, 1, .iload_n 0, 0, 0, 0, []), (1, 59, .lookupswitch 71 #[(97, 59), (103, 61), (109, 69), (111, 67), (115, 65), (121, 63)], 72, 0, 0, [(97, 60), (103, 62), (109, 70), (111, 68), (115, 66), (121, 64)]), (60, 1, .iconst 0, 0, 0, 0, []), (61, 1, .ireturn, 0, 0, 0, []), (62, 1, .iconst 1, 1, 0, 0, []), (63, 1, .ireturn, 0, 0, 0, []), (64, 1, .iconst 2, 2, 0, 0, []), (65, 1, .ireturn, 0, 0, 0, []), (66, 1, .iconst 3, 3, 0, 0, []), (67, 1, .ireturn, 0, 0, 0, []), (68, 1, .iconst 4, 4, 0, 0, []), (69, 1, .ireturn, 0, 0, 0, []), (70, 1, .iconst 5, 5, 0, 0, []), (71, 1, .ireturn, 0, 0, 0, []), (72, 2, .bipush (-9), 9, 0, 0, []), (74, 1, .ireturn, 0, 0, 0, [])]
def mX4_byLetter : xM := (yX4_byLetter, cX4_byLetter, 1, (some FieldType.int), 1, 1, 0, 0, 0, 0, pX4_byLetter)
theorem dX4_byLetter : xDec cX4_byLetter pX4_byLetter = true := by decide +kernel
theorem hX4_byLetter : xHd mX4_byLetter := ⟨xg (w := (Jvm.Cond.code ({ cls := "SmellBurdens$Kind", name := "byLetter", desc := "(I)I" } : Jvm.MethodName) prog_6_method_2_code (1 : Nat) (Option.some Jvm.ClassFile.FieldType.int))) (xt2 (List.mem_of_getElem? (i := 118) (by decide +kernel))) rfl, xg (w := (Jvm.Cond.initialized "SmellBurdens$Kind")) (xt1 (List.mem_of_getElem? (i := 13) (by decide +kernel))) rfl, ⟨by decide +kernel, by decide +kernel, by decide +kernel⟩, xg (w := (Jvm.Cond.static ({ cls := "SmellBurdens$Kind", name := "byLetter", desc := "(I)I" } : Jvm.MethodName))) (xt2 (List.mem_of_getElem? (i := 117) (by decide +kernel))) rfl⟩
def pX4_isA : List xE := [(0, 1, .iload_n 1, 1, 0, 0, []), (1, 3, .ifCond .eq 28, 29, 0, 0, []), (4, 1, .iload_n 0, 0, 0, 0, []), (5, 1, .iload_n 1, 1, 0, 0, []), (6, 3, .if_icmp .eq 23, 29, 0, 0, []), (9, 1, .iload_n 1, 1, 0, 0, []), (10, 1, .iconst 1, 1, 0, 0, []), (11, 3, .if_icmp .ne 8, 19, 0, 0, []), (14, 1, .iload_n 0, 0, 0, 0, []), (15, 1, .iconst 4, 4, 0, 0, []), (16, 3, .if_icmp .eq 13, 29, 0, 0, []), (19, 1, .iload_n 1, 1, 0, 0, []), (20, 1, .iconst 3, 3, 0, 0, []), (21, 3, .if_icmp .ne 12, 33, 0, 0, []), (24, 1, .iload_n 0, 0, 0, 0, []), (25, 1, .iconst 5, 5, 0, 0, []), (26, 3, .if_icmp .ne 7, 33, 0, 0, []), (29, 1, .iconst 1, 1, 0, 0, []), (30, 3, .goto 4, 34, 0, 0, []), (33, 1, .iconst 0, 0, 0, 0, []), (34, 1, .ireturn, 0, 0, 0, [])]
def mX4_isA : xM := (yX4_isA, cX4_isA, 2, (some FieldType.boolean), 1, 2, 0, 0, 0, 0, pX4_isA)
theorem dX4_isA : xDec cX4_isA pX4_isA = true := by decide +kernel
theorem hX4_isA : xHd mX4_isA := ⟨xg (w := (Jvm.Cond.code ({ cls := "SmellBurdens$Kind", name := "isA", desc := "(II)Z" } : Jvm.MethodName) prog_6_method_3_code (2 : Nat) (Option.some Jvm.ClassFile.FieldType.boolean))) (xt3 (List.mem_of_getElem? (i := 2) (by decide +kernel))) rfl, xg (w := (Jvm.Cond.initialized "SmellBurdens$Kind")) (xt1 (List.mem_of_getElem? (i := 13) (by decide +kernel))) rfl, ⟨by decide +kernel, by decide +kernel, by decide +kernel⟩, xg (w := (Jvm.Cond.static ({ cls := "SmellBurdens$Kind", name := "isA", desc := "(II)Z" } : Jvm.MethodName))) (xt3 (List.mem_of_getElem? (i := 1) (by decide +kernel))) rfl⟩
theorem wdX4_11 : (Jvm.Cond.methodLink "SmellBurdens$Kind" (11 : Nat) ({ cls := "java/lang/Integer", name := "bitCount", desc := "(I)I" } : Jvm.MethodName)) ∈ xG := xg (xt2 (List.mem_of_getElem? (i := 201) (by decide +kernel))) rfl
def pX4_likeness : List xE := [(0, 1, .iload_n 0, 0, 0, 0, []), (1, 1, .iconst 1, 1, 0, 0, []), (2, 3, .if_icmp .eq 8, 10, 0, 0, []), (5, 1, .iload_n 0, 0, 0, 0, []), (6, 1, .iconst 4, 4, 0, 0, []), (7, 3, .if_icmp .ne 23, 30, 0, 0, []), (10, 1, .iload_n 1, 1, 0, 0, []), (11, 1, .iload_n 2, 2, 0, 0, []), (12, 1, .iand, 0, 0, 0, []), (13, 3, .invokestatic 11, 0, 0, 0, []), (16, 1, .istore_n 3, 3, 0, 0, []), (17, 1, .iload_n 0, 0, 0, 0, []), (18, 1, .iconst 4, 4, 0, 0, []), (19, 3, .if_icmp .ne 9, 28, 0, 0, []), (22, 1, .iconst 2, 2, 0, 0, []), (23, 1, .iload_n 3, 3, 0, 0, []), (24, 1, .imul, 0, 0, 0, []), (25, 3, .goto 4, 29, 0, 0, []), (28, 1, .iload_n 3, 3, 0, 0, []), (29, 1, .ireturn, 0, 0, 0, []), (30, 1, .iconst 4, 4, 0, 0, []), (31, 1, .iload_n 1, 1, 0, 0, []), (32, 1, .iload_n 2, 2, 0, 0, []), (33, 1, .ixor, 0, 0, 0, []), (34, 3, .invokestatic 11, 0, 0, 0, []), (37, 1, .isub, 0, 0, 0, []), (38, 1, .ireturn, 0, 0, 0, [])]
def mX4_likeness : xM := (yX4_likeness, cX4_likeness, 4, (some FieldType.int), 1, 3, 0, 1, 20, 0, pX4_likeness)
theorem dX4_likeness : xDec cX4_likeness pX4_likeness = true := by decide +kernel
theorem hX4_likeness : xHd mX4_likeness := ⟨xg (w := (Jvm.Cond.code ({ cls := "SmellBurdens$Kind", name := "likeness", desc := "(III)I" } : Jvm.MethodName) prog_6_method_4_code (4 : Nat) (Option.some Jvm.ClassFile.FieldType.int))) (xt2 (List.mem_of_getElem? (i := 200) (by decide +kernel))) rfl, xg (w := (Jvm.Cond.initialized "SmellBurdens$Kind")) (xt1 (List.mem_of_getElem? (i := 13) (by decide +kernel))) rfl, ⟨by decide +kernel, by decide +kernel, by decide +kernel⟩, xg (w := (Jvm.Cond.static ({ cls := "SmellBurdens$Kind", name := "likeness", desc := "(III)I" } : Jvm.MethodName))) (xt2 (List.mem_of_getElem? (i := 199) (by decide +kernel))) rfl⟩
def pX4_leastLike : List xE := [(0, 1, .iload_n 0, 0, 0, 0, []), (1, 1, .iconst 5, 5, 0, 0, []), (2, 3, .if_icmp .ne 5, 7, 0, 0, []), (5, 1, .iconst 4, 4, 0, 0, []), (6, 1, .ireturn, 0, 0, 0, []), (7, 1, .iload_n 0, 0, 0, 0, []), (8, 1, .iconst 3, 3, 0, 0, []), (9, 3, .if_icmp .ne 7, 16, 0, 0, []), (12, 1, .iconst 3, 3, 0, 0, []), (13, 3, .goto 4, 17, 0, 0, []), (16, 1, .iconst 1, 1, 0, 0, []), (17, 1, .ireturn, 0, 0, 0, [])]
def mX4_leastLike : xM := (yX4_leastLike, cX4_leastLike, 1, (some FieldType.int), 1, 1, 0, 0, 0, 0, pX4_leastLike)
theorem dX4_leastLike : xDec cX4_leastLike pX4_leastLike = true := by decide +kernel
theorem hX4_leastLike : xHd mX4_leastLike := ⟨xg (w := (Jvm.Cond.code ({ cls := "SmellBurdens$Kind", name := "leastLike", desc := "(I)I" } : Jvm.MethodName) prog_6_method_5_code (1 : Nat) (Option.some Jvm.ClassFile.FieldType.int))) (xt2 (List.mem_of_getElem? (i := 209) (by decide +kernel))) rfl, xg (w := (Jvm.Cond.initialized "SmellBurdens$Kind")) (xt1 (List.mem_of_getElem? (i := 13) (by decide +kernel))) rfl, ⟨by decide +kernel, by decide +kernel, by decide +kernel⟩, xg (w := (Jvm.Cond.static ({ cls := "SmellBurdens$Kind", name := "leastLike", desc := "(I)I" } : Jvm.MethodName))) (xt2 (List.mem_of_getElem? (i := 208) (by decide +kernel))) rfl⟩
theorem wdX4_17 : (Jvm.Cond.methodLink "SmellBurdens$Kind" (17 : Nat) ({ cls := "SmellBurdens$Kind", name := "likeness", desc := "(III)I" } : Jvm.MethodName)) ∈ xG := xg (xt3 (List.mem_of_getElem? (i := 19) (by decide +kernel))) rfl
theorem wdX4_21 : (Jvm.Cond.methodLink "SmellBurdens$Kind" (21 : Nat) ({ cls := "SmellBurdens$Kind", name := "leastLike", desc := "(I)I" } : Jvm.MethodName)) ∈ xG := xg (xt3 (List.mem_of_getElem? (i := 20) (by decide +kernel))) rfl
def pX4_wouldTake : List xE := [(0, 1, .iload_n 0, 0, 0, 0, []), (1, 1, .iload_n 1, 1, 0, 0, []), (2, 1, .iload_n 2, 2, 0, 0, []), (3, 3, .invokestatic 17, 0, 0, 0, []), (6, 1, .iload_n 0, 0, 0, 0, []), (7, 3, .invokestatic 21, 1, 0, 0, []), (10, 3, .if_icmp .lt 7, 17, 0, 0, []), (13, 1, .iconst 1, 1, 0, 0, []), (14, 3, .goto 4, 18, 0, 0, []), (17, 1, .iconst 0, 0, 0, 0, []), (18, 1, .ireturn, 0, 0, 0, [])]
def mX4_wouldTake : xM := (yX4_wouldTake, cX4_wouldTake, 3, (some FieldType.boolean), 1, 3, 0, 2, 43, 0, pX4_wouldTake)
theorem dX4_wouldTake : xDec cX4_wouldTake pX4_wouldTake = true := by decide +kernel
theorem hX4_wouldTake : xHd mX4_wouldTake := ⟨xg (w := (Jvm.Cond.code ({ cls := "SmellBurdens$Kind", name := "wouldTake", desc := "(III)Z" } : Jvm.MethodName) prog_6_method_6_code (3 : Nat) (Option.some Jvm.ClassFile.FieldType.boolean))) (xt3 (List.mem_of_getElem? (i := 18) (by decide +kernel))) rfl, xg (w := (Jvm.Cond.initialized "SmellBurdens$Kind")) (xt1 (List.mem_of_getElem? (i := 13) (by decide +kernel))) rfl, ⟨by decide +kernel, by decide +kernel, by decide +kernel⟩, xg (w := (Jvm.Cond.static ({ cls := "SmellBurdens$Kind", name := "wouldTake", desc := "(III)Z" } : Jvm.MethodName))) (xt3 (List.mem_of_getElem? (i := 17) (by decide +kernel))) rfl⟩
theorem wdX5_3 : (Jvm.Cond.methodLink "SmellBurdens$Plain" (3 : Nat) ({ cls := "java/lang/Object", name := "<init>", desc := "()V" } : Jvm.MethodName)) ∈ xG := xg (xt1 (List.mem_of_getElem? (i := 56) (by decide +kernel))) rfl
def pX5_init : List xE := [(0, 1, .aload_n 0, 0, 0, 0, []), (1, 3, .invokespecial 3, 0, 0, 1, []), (4, 1, .return_, 0, 0, 0, [])]
def mX5_init : xM := (yX5_init, cX5_init, 1, (none : Option FieldType), 2, 0, 3, 1, 20, 0, pX5_init)
theorem dX5_init : xDec cX5_init pX5_init = true := by decide +kernel
theorem hX5_init : xHd mX5_init := ⟨xg (w := (Jvm.Cond.code ({ cls := "SmellBurdens$Plain", name := "<init>", desc := "()V" } : Jvm.MethodName) prog_7_method_1_code (1 : Nat) (Option.none : Option Jvm.ClassFile.FieldType))) (xt1 (List.mem_of_getElem? (i := 55) (by decide +kernel))) rfl, xg (w := (Jvm.Cond.initialized "SmellBurdens$Plain")) (xt1 (List.mem_of_getElem? (i := 5) (by decide +kernel))) rfl, ⟨by decide +kernel, by decide +kernel, by decide +kernel⟩, xg (w := (Jvm.Cond.instanceMethod ({ cls := "SmellBurdens$Plain", name := "<init>", desc := "()V" } : Jvm.MethodName))) (xt1 (List.mem_of_getElem? (i := 54) (by decide +kernel))) rfl, rfl, rfl⟩
theorem wdX5_9 : (Jvm.Cond.fieldLink "SmellBurdens$Plain" (9 : Nat) "SmellBurdens$Plain" "asses" "I") ∈ xG := xg (xt1 (List.mem_of_getElem? (i := 57) (by decide +kernel))) rfl
theorem wdX5_15 : (Jvm.Cond.fieldLink "SmellBurdens$Plain" (15 : Nat) "SmellBurdens$Plain" "loads" "I") ∈ xG := xg (xt1 (List.mem_of_getElem? (i := 62) (by decide +kernel))) rfl
theorem wdX5_18 : (Jvm.Cond.fieldLink "SmellBurdens$Plain" (18 : Nat) "SmellBurdens$Plain" "kinds" "I") ∈ xG := xg (xt1 (List.mem_of_getElem? (i := 67) (by decide +kernel))) rfl
theorem wdX5_21 : (Jvm.Cond.fieldLink "SmellBurdens$Plain" (21 : Nat) "SmellBurdens$Plain" "roads" "I") ∈ xG := xg (xt1 (List.mem_of_getElem? (i := 68) (by decide +kernel))) rfl
theorem wdX5_24 : (Jvm.Cond.fieldLink "SmellBurdens$Plain" (24 : Nat) "SmellBurdens$Plain" "homes" "I") ∈ xG := xg (xt1 (List.mem_of_getElem? (i := 69) (by decide +kernel))) rfl
def pX5_clear : List xE := [(0, 1, .aload_n 0, 0, 0, 0, []), (1, 1, .iconst 0, 0, 0, 0, []), (2, 3, .putfield 9, 3, 0, 0, []), (5, 1, .aload_n 0, 0, 0, 0, []), (6, 1, .iconst 0, 0, 0, 0, []), (7, 3, .putfield 15, 3, 1, 0, []), (10, 1, .aload_n 0, 0, 0, 0, []), (11, 1, .iconst 0, 0, 0, 0, []), (12, 3, .putfield 18, 3, 2, 0, []), (15, 1, .aload_n 0, 0, 0, 0, []), (16, 1, .iconst 0, 0, 0, 0, []), (17, 3, .putfield 21, 3, 3, 0, []), (20, 1, .aload_n 0, 0, 0, 0, []), (21, 1, .iconst 0, 0, 0, 0, []), (22, 3, .putfield 24, 3, 4, 0, []), (25, 1, .return_, 0, 0, 0, [])]
def mX5_clear : xM := (yX5_clear, cX5_clear, 1, (none : Option FieldType), 0, 0, 3, 0, 0, 0, pX5_clear)
theorem dX5_clear : xDec cX5_clear pX5_clear = true := by decide +kernel
theorem hX5_clear : xHd mX5_clear := ⟨xg (w := (Jvm.Cond.code ({ cls := "SmellBurdens$Plain", name := "clear", desc := "()V" } : Jvm.MethodName) prog_7_method_2_code (1 : Nat) (Option.none : Option Jvm.ClassFile.FieldType))) (xt2 (List.mem_of_getElem? (i := 65) (by decide +kernel))) rfl, xg (w := (Jvm.Cond.initialized "SmellBurdens$Plain")) (xt1 (List.mem_of_getElem? (i := 5) (by decide +kernel))) rfl, ⟨by decide +kernel, by decide +kernel, by decide +kernel⟩, xg (w := (Jvm.Cond.instanceMethod ({ cls := "SmellBurdens$Plain", name := "clear", desc := "()V" } : Jvm.MethodName))) (xt2 (List.mem_of_getElem? (i := 63) (by decide +kernel))) rfl, xg (w := (Jvm.Cond.selects "SmellBurdens$Plain" ({ cls := "SmellBurdens$Plain", name := "clear", desc := "()V" } : Jvm.MethodName) ({ cls := "SmellBurdens$Plain", name := "clear", desc := "()V" } : Jvm.MethodName))) (xt2 (List.mem_of_getElem? (i := 64) (by decide +kernel))) rfl, rfl⟩
def pX5_become : List xE := [(0, 1, .aload_n 1, 1, 0, 0, []), (1, 3, .ifnonnull 4, 5, 0, 0, []), (4, 1, .return_, 0, 0, 0, []), (5, 1, .aload_n 0, 0, 0, 0, []), (6, 1, .aload_n 1, 1, 0, 0, []), (7, 3, .getfield 9, 3, 0, 0, []), (10, 3, .putfield 9, 3, 0, 0, []), (13, 1, .aload_n 0, 0, 0, 0, []), (14, 1, .aload_n 1, 1, 0, 0, []), (15, 3, .getfield 15, 3, 1, 0, []), (18, 3, .putfield 15, 3, 1, 0, []), (21, 1, .aload_n 0, 0, 0, 0, []), (22, 1, .aload_n 1, 1, 0, 0, []), (23, 3, .getfield 18, 3, 2, 0, []), (26, 3, .putfield 18, 3, 2, 0, []), (29, 1, .aload_n 0, 0, 0, 0, []), (30, 1, .aload_n 1, 1, 0, 0, []), (31, 3, .getfield 21, 3, 3, 0, []), (34, 3, .putfield 21, 3, 3, 0, []), (37, 1, .aload_n 0, 0, 0, 0, []), (38, 1, .aload_n 1, 1, 0, 0, []), (39, 3, .getfield 24, 3, 4, 0, []), (42, 3, .putfield 24, 3, 4, 0, []), (45, 1, .return_, 0, 0, 0, [])]
def mX5_become : xM := (yX5_become, cX5_become, 2, (none : Option FieldType), 0, 1, 3, 0, 0, 0, pX5_become)
theorem dX5_become : xDec cX5_become pX5_become = true := by decide +kernel
theorem hX5_become : xHd mX5_become := ⟨xg (w := (Jvm.Cond.code ({ cls := "SmellBurdens$Plain", name := "become", desc := "(LSmellBurdens$Plain;)V" } : Jvm.MethodName) prog_7_method_3_code (2 : Nat) (Option.none : Option Jvm.ClassFile.FieldType))) (xt2 (List.mem_of_getElem? (i := 136) (by decide +kernel))) rfl, xg (w := (Jvm.Cond.initialized "SmellBurdens$Plain")) (xt1 (List.mem_of_getElem? (i := 5) (by decide +kernel))) rfl, ⟨by decide +kernel, by decide +kernel, by decide +kernel⟩, xg (w := (Jvm.Cond.instanceMethod ({ cls := "SmellBurdens$Plain", name := "become", desc := "(LSmellBurdens$Plain;)V" } : Jvm.MethodName))) (xt2 (List.mem_of_getElem? (i := 134) (by decide +kernel))) rfl, xg (w := (Jvm.Cond.selects "SmellBurdens$Plain" ({ cls := "SmellBurdens$Plain", name := "become", desc := "(LSmellBurdens$Plain;)V" } : Jvm.MethodName) ({ cls := "SmellBurdens$Plain", name := "become", desc := "(LSmellBurdens$Plain;)V" } : Jvm.MethodName))) (xt2 (List.mem_of_getElem? (i := 135) (by decide +kernel))) rfl, rfl⟩
def pX5_addRoad : List xE := [(0, 1, .aload_n 0, 0, 0, 0, []), (1, 1, .dup, 0, 0, 0, []), (2, 3, .getfield 21, 3, 3, 0, []), (5, 1, .iload_n 2, 2, 0, 0, []), (6, 1, .iconst 3, 3, 0, 0, []), (7, 1, .iload_n 1, 1, 0, 0, []), (8, 1, .imul, 0, 0, 0, []), (9, 1, .ishl, 0, 0, 0, []), (10, 1, .ior, 0, 0, 0, []), (11, 3, .putfield 21, 3, 3, 0, []), (14, 1, .return_, 0, 0, 0, [])]
def mX5_addRoad : xM := (yX5_addRoad, cX5_addRoad, 3, (none : Option FieldType), 0, 2, 3, 0, 0, 0, pX5_addRoad)
theorem dX5_addRoad : xDec cX5_addRoad pX5_addRoad = true := by decide +kernel
theorem hX5_addRoad : xHd mX5_addRoad := ⟨xg (w := (Jvm.Cond.code ({ cls := "SmellBurdens$Plain", name := "addRoad", desc := "(II)V" } : Jvm.MethodName) prog_7_method_4_code (3 : Nat) (Option.none : Option Jvm.ClassFile.FieldType))) (xt2 (List.mem_of_getElem? (i := 85) (by decide +kernel))) rfl, xg (w := (Jvm.Cond.initialized "SmellBurdens$Plain")) (xt1 (List.mem_of_getElem? (i := 5) (by decide +kernel))) rfl, ⟨by decide +kernel, by decide +kernel, by decide +kernel⟩, xg (w := (Jvm.Cond.instanceMethod ({ cls := "SmellBurdens$Plain", name := "addRoad", desc := "(II)V" } : Jvm.MethodName))) (xt2 (List.mem_of_getElem? (i := 83) (by decide +kernel))) rfl, xg (w := (Jvm.Cond.selects "SmellBurdens$Plain" ({ cls := "SmellBurdens$Plain", name := "addRoad", desc := "(II)V" } : Jvm.MethodName) ({ cls := "SmellBurdens$Plain", name := "addRoad", desc := "(II)V" } : Jvm.MethodName))) (xt2 (List.mem_of_getElem? (i := 84) (by decide +kernel))) rfl, rfl⟩
def pX5_addAss : List xE := [(0, 1, .aload_n 0, 0, 0, 0, []), (1, 1, .dup, 0, 0, 0, []), (2, 3, .getfield 18, 3, 2, 0, []), (5, 1, .iload_n 1, 1, 0, 0, []), (6, 1, .iconst 3, 3, 0, 0, []), (7, 1, .aload_n 0, 0, 0, 0, []), (8, 3, .getfield 9, 3, 0, 0, []), (11, 1, .imul, 0, 0, 0, []), (12, 1, .ishl, 0, 0, 0, []), (13, 1, .ior, 0, 0, 0, []), (14, 3, .putfield 18, 3, 2, 0, []), (17, 1, .aload_n 0, 0, 0, 0, []), (18, 1, .dup, 0, 0, 0, []), (19, 3, .getfield 9, 3, 0, 0, []), (22, 1, .iconst 1, 1, 0, 0, []), (23, 1, .iadd, 0, 0, 0, []), (24, 3, .putfield 9, 3, 0, 0, []), (27, 1, .return_, 0, 0, 0, [])]
def mX5_addAss : xM := (yX5_addAss, cX5_addAss, 2, (none : Option FieldType), 0, 1, 3, 0, 0, 0, pX5_addAss)
theorem dX5_addAss : xDec cX5_addAss pX5_addAss = true := by decide +kernel
theorem hX5_addAss : xHd mX5_addAss := ⟨xg (w := (Jvm.Cond.code ({ cls := "SmellBurdens$Plain", name := "addAss", desc := "(I)V" } : Jvm.MethodName) prog_7_method_5_code (2 : Nat) (Option.none : Option Jvm.ClassFile.FieldType))) (xt2 (List.mem_of_getElem? (i := 128) (by decide +kernel))) rfl, xg (w := (Jvm.Cond.initialized "SmellBurdens$Plain")) (xt1 (List.mem_of_getElem? (i := 5) (by decide +kernel))) rfl, ⟨by decide +kernel, by decide +kernel, by decide +kernel⟩, xg (w := (Jvm.Cond.instanceMethod ({ cls := "SmellBurdens$Plain", name := "addAss", desc := "(I)V" } : Jvm.MethodName))) (xt2 (List.mem_of_getElem? (i := 126) (by decide +kernel))) rfl, xg (w := (Jvm.Cond.selects "SmellBurdens$Plain" ({ cls := "SmellBurdens$Plain", name := "addAss", desc := "(I)V" } : Jvm.MethodName) ({ cls := "SmellBurdens$Plain", name := "addAss", desc := "(I)V" } : Jvm.MethodName))) (xt2 (List.mem_of_getElem? (i := 127) (by decide +kernel))) rfl, rfl⟩
def pX5_addLoad : List xE := [(0, 1, .aload_n 0, 0, 0, 0, []), (1, 1, .dup, 0, 0, 0, []), (2, 3, .getfield 24, 3, 4, 0, []), (5, 1, .iload_n 1, 1, 0, 0, []), (6, 1, .iconst 3, 3, 0, 0, []), (7, 1, .aload_n 0, 0, 0, 0, []), (8, 3, .getfield 15, 3, 1, 0, []), (11, 1, .imul, 0, 0, 0, []), (12, 1, .ishl, 0, 0, 0, []), (13, 1, .ior, 0, 0, 0, []), (14, 3, .putfield 24, 3, 4, 0, []), (17, 1, .aload_n 0, 0, 0, 0, []), (18, 1, .dup, 0, 0, 0, []), (19, 3, .getfield 15, 3, 1, 0, []), (22, 1, .iconst 1, 1, 0, 0, []), (23, 1, .iadd, 0, 0, 0, []), (24, 3, .putfield 15, 3, 1, 0, []), (27, 1, .return_, 0, 0, 0, [])]
def mX5_addLoad : xM := (yX5_addLoad, cX5_addLoad, 2, (none : Option FieldType), 0, 1, 3, 0, 0, 0, pX5_addLoad)
theorem dX5_addLoad : xDec cX5_addLoad pX5_addLoad = true := by decide +kernel
theorem hX5_addLoad : xHd mX5_addLoad := ⟨xg (w := (Jvm.Cond.code ({ cls := "SmellBurdens$Plain", name := "addLoad", desc := "(I)V" } : Jvm.MethodName) prog_7_method_6_code (2 : Nat) (Option.none : Option Jvm.ClassFile.FieldType))) (xt2 (List.mem_of_getElem? (i := 111) (by decide +kernel))) rfl, xg (w := (Jvm.Cond.initialized "SmellBurdens$Plain")) (xt1 (List.mem_of_getElem? (i := 5) (by decide +kernel))) rfl, ⟨by decide +kernel, by decide +kernel, by decide +kernel⟩, xg (w := (Jvm.Cond.instanceMethod ({ cls := "SmellBurdens$Plain", name := "addLoad", desc := "(I)V" } : Jvm.MethodName))) (xt2 (List.mem_of_getElem? (i := 109) (by decide +kernel))) rfl, xg (w := (Jvm.Cond.selects "SmellBurdens$Plain" ({ cls := "SmellBurdens$Plain", name := "addLoad", desc := "(I)V" } : Jvm.MethodName) ({ cls := "SmellBurdens$Plain", name := "addLoad", desc := "(I)V" } : Jvm.MethodName))) (xt2 (List.mem_of_getElem? (i := 110) (by decide +kernel))) rfl, rfl⟩
def pX5_isAss : List xE := [(0, 1, .iload_n 1, 1, 0, 0, []), (1, 3, .ifCond .lt 15, 16, 0, 0, []), (4, 1, .iload_n 1, 1, 0, 0, []), (5, 1, .aload_n 0, 0, 0, 0, []), (6, 3, .getfield 9, 3, 0, 0, []), (9, 3, .if_icmp .ge 7, 16, 0, 0, []), (12, 1, .iconst 1, 1, 0, 0, []), (13, 3, .goto 4, 17, 0, 0, []), (16, 1, .iconst 0, 0, 0, 0, []), (17, 1, .ireturn, 0, 0, 0, [])]
def mX5_isAss : xM := (yX5_isAss, cX5_isAss, 2, (some FieldType.boolean), 0, 1, 3, 0, 0, 0, pX5_isAss)
theorem dX5_isAss : xDec cX5_isAss pX5_isAss = true := by decide +kernel
theorem hX5_isAss : xHd mX5_isAss := ⟨xg (w := (Jvm.Cond.code ({ cls := "SmellBurdens$Plain", name := "isAss", desc := "(I)Z" } : Jvm.MethodName) prog_7_method_7_code (2 : Nat) (Option.some Jvm.ClassFile.FieldType.boolean))) (xt2 (List.mem_of_getElem? (i := 152) (by decide +kernel))) rfl, xg (w := (Jvm.Cond.initialized "SmellBurdens$Plain")) (xt1 (List.mem_of_getElem? (i := 5) (by decide +kernel))) rfl, ⟨by decide +kernel, by decide +kernel, by decide +kernel⟩, xg (w := (Jvm.Cond.instanceMethod ({ cls := "SmellBurdens$Plain", name := "isAss", desc := "(I)Z" } : Jvm.MethodName))) (xt2 (List.mem_of_getElem? (i := 150) (by decide +kernel))) rfl, xg (w := (Jvm.Cond.selects "SmellBurdens$Plain" ({ cls := "SmellBurdens$Plain", name := "isAss", desc := "(I)Z" } : Jvm.MethodName) ({ cls := "SmellBurdens$Plain", name := "isAss", desc := "(I)Z" } : Jvm.MethodName))) (xt2 (List.mem_of_getElem? (i := 151) (by decide +kernel))) rfl, rfl⟩
def pX5_isLoad : List xE := [(0, 1, .iload_n 1, 1, 0, 0, []), (1, 3, .ifCond .lt 15, 16, 0, 0, []), (4, 1, .iload_n 1, 1, 0, 0, []), (5, 1, .aload_n 0, 0, 0, 0, []), (6, 3, .getfield 15, 3, 1, 0, []), (9, 3, .if_icmp .ge 7, 16, 0, 0, []), (12, 1, .iconst 1, 1, 0, 0, []), (13, 3, .goto 4, 17, 0, 0, []), (16, 1, .iconst 0, 0, 0, 0, []), (17, 1, .ireturn, 0, 0, 0, [])]
def mX5_isLoad : xM := (yX5_isLoad, cX5_isLoad, 2, (some FieldType.boolean), 0, 1, 3, 0, 0, 0, pX5_isLoad)
theorem dX5_isLoad : xDec cX5_isLoad pX5_isLoad = true := by decide +kernel
theorem hX5_isLoad : xHd mX5_isLoad := ⟨xg (w := (Jvm.Cond.code ({ cls := "SmellBurdens$Plain", name := "isLoad", desc := "(I)Z" } : Jvm.MethodName) prog_7_method_8_code (2 : Nat) (Option.some Jvm.ClassFile.FieldType.boolean))) (xt2 (List.mem_of_getElem? (i := 220) (by decide +kernel))) rfl, xg (w := (Jvm.Cond.initialized "SmellBurdens$Plain")) (xt1 (List.mem_of_getElem? (i := 5) (by decide +kernel))) rfl, ⟨by decide +kernel, by decide +kernel, by decide +kernel⟩, xg (w := (Jvm.Cond.instanceMethod ({ cls := "SmellBurdens$Plain", name := "isLoad", desc := "(I)Z" } : Jvm.MethodName))) (xt2 (List.mem_of_getElem? (i := 218) (by decide +kernel))) rfl, xg (w := (Jvm.Cond.selects "SmellBurdens$Plain" ({ cls := "SmellBurdens$Plain", name := "isLoad", desc := "(I)Z" } : Jvm.MethodName) ({ cls := "SmellBurdens$Plain", name := "isLoad", desc := "(I)Z" } : Jvm.MethodName))) (xt2 (List.mem_of_getElem? (i := 219) (by decide +kernel))) rfl, rfl⟩
def pX5_kindOf : List xE := [(0, 1, .aload_n 0, 0, 0, 0, []), (1, 3, .getfield 18, 3, 2, 0, []), (4, 1, .iconst 3, 3, 0, 0, []), (5, 1, .iload_n 1, 1, 0, 0, []), (6, 1, .imul, 0, 0, 0, []), (7, 1, .ishr, 0, 0, 0, []), (8, 2, .bipush 7, 7, 0, 0, []), (10, 1, .iand, 0, 0, 0, []), (11, 1, .ireturn, 0, 0, 0, [])]
def mX5_kindOf : xM := (yX5_kindOf, cX5_kindOf, 2, (some FieldType.int), 0, 1, 3, 0, 0, 0, pX5_kindOf)
theorem dX5_kindOf : xDec cX5_kindOf pX5_kindOf = true := by decide +kernel
theorem hX5_kindOf : xHd mX5_kindOf := ⟨xg (w := (Jvm.Cond.code ({ cls := "SmellBurdens$Plain", name := "kindOf", desc := "(I)I" } : Jvm.MethodName) prog_7_method_9_code (2 : Nat) (Option.some Jvm.ClassFile.FieldType.int))) (xt2 (List.mem_of_getElem? (i := 160) (by decide +kernel))) rfl, xg (w := (Jvm.Cond.initialized "SmellBurdens$Plain")) (xt1 (List.mem_of_getElem? (i := 5) (by decide +kernel))) rfl, ⟨by decide +kernel, by decide +kernel, by decide +kernel⟩, xg (w := (Jvm.Cond.instanceMethod ({ cls := "SmellBurdens$Plain", name := "kindOf", desc := "(I)I" } : Jvm.MethodName))) (xt2 (List.mem_of_getElem? (i := 158) (by decide +kernel))) rfl, xg (w := (Jvm.Cond.selects "SmellBurdens$Plain" ({ cls := "SmellBurdens$Plain", name := "kindOf", desc := "(I)I" } : Jvm.MethodName) ({ cls := "SmellBurdens$Plain", name := "kindOf", desc := "(I)I" } : Jvm.MethodName))) (xt2 (List.mem_of_getElem? (i := 159) (by decide +kernel))) rfl, rfl⟩
def pX5_homeOf : List xE := [(0, 1, .aload_n 0, 0, 0, 0, []), (1, 3, .getfield 24, 3, 4, 0, []), (4, 1, .iconst 3, 3, 0, 0, []), (5, 1, .iload_n 1, 1, 0, 0, []), (6, 1, .imul, 0, 0, 0, []), (7, 1, .ishr, 0, 0, 0, []), (8, 2, .bipush 7, 7, 0, 0, []), (10, 1, .iand, 0, 0, 0, []), (11, 1, .ireturn, 0, 0, 0, [])]
def mX5_homeOf : xM := (yX5_homeOf, cX5_homeOf, 2, (some FieldType.int), 0, 1, 3, 0, 0, 0, pX5_homeOf)
theorem dX5_homeOf : xDec cX5_homeOf pX5_homeOf = true := by decide +kernel
theorem hX5_homeOf : xHd mX5_homeOf := ⟨xg (w := (Jvm.Cond.code ({ cls := "SmellBurdens$Plain", name := "homeOf", desc := "(I)I" } : Jvm.MethodName) prog_7_method_10_code (2 : Nat) (Option.some Jvm.ClassFile.FieldType.int))) (xt2 (List.mem_of_getElem? (i := 192) (by decide +kernel))) rfl, xg (w := (Jvm.Cond.initialized "SmellBurdens$Plain")) (xt1 (List.mem_of_getElem? (i := 5) (by decide +kernel))) rfl, ⟨by decide +kernel, by decide +kernel, by decide +kernel⟩, xg (w := (Jvm.Cond.instanceMethod ({ cls := "SmellBurdens$Plain", name := "homeOf", desc := "(I)I" } : Jvm.MethodName))) (xt2 (List.mem_of_getElem? (i := 190) (by decide +kernel))) rfl, xg (w := (Jvm.Cond.selects "SmellBurdens$Plain" ({ cls := "SmellBurdens$Plain", name := "homeOf", desc := "(I)I" } : Jvm.MethodName) ({ cls := "SmellBurdens$Plain", name := "homeOf", desc := "(I)I" } : Jvm.MethodName))) (xt2 (List.mem_of_getElem? (i := 191) (by decide +kernel))) rfl, rfl⟩
def pX5_roadFrom : List xE := [(0, 1, .aload_n 0, 0, 0, 0, []), (1, 3, .getfield 21, 3, 3, 0, []), (4, 1, .iconst 3, 3, 0, 0, []), (5, 1, .iload_n 1, 1, 0, 0, []), (6, 1, .imul, 0, 0, 0, []), (7, 1, .ishr, 0, 0, 0, []), (8, 2, .bipush 7, 7, 0, 0, []), (10, 1, .iand, 0, 0, 0, []), (11, 1, .ireturn, 0, 0, 0, [])]
def mX5_roadFrom : xM := (yX5_roadFrom, cX5_roadFrom, 2, (some FieldType.int), 0, 1, 3, 0, 0, 0, pX5_roadFrom)
theorem dX5_roadFrom : xDec cX5_roadFrom pX5_roadFrom = true := by decide +kernel
theorem hX5_roadFrom : xHd mX5_roadFrom := ⟨xg (w := (Jvm.Cond.code ({ cls := "SmellBurdens$Plain", name := "roadFrom", desc := "(I)I" } : Jvm.MethodName) prog_7_method_11_code (2 : Nat) (Option.some Jvm.ClassFile.FieldType.int))) (xt3 (List.mem_of_getElem? (i := 50) (by decide +kernel))) rfl, xg (w := (Jvm.Cond.initialized "SmellBurdens$Plain")) (xt1 (List.mem_of_getElem? (i := 5) (by decide +kernel))) rfl, ⟨by decide +kernel, by decide +kernel, by decide +kernel⟩, xg (w := (Jvm.Cond.instanceMethod ({ cls := "SmellBurdens$Plain", name := "roadFrom", desc := "(I)I" } : Jvm.MethodName))) (xt3 (List.mem_of_getElem? (i := 48) (by decide +kernel))) rfl, xg (w := (Jvm.Cond.selects "SmellBurdens$Plain" ({ cls := "SmellBurdens$Plain", name := "roadFrom", desc := "(I)I" } : Jvm.MethodName) ({ cls := "SmellBurdens$Plain", name := "roadFrom", desc := "(I)I" } : Jvm.MethodName))) (xt3 (List.mem_of_getElem? (i := 49) (by decide +kernel))) rfl, rfl⟩
theorem wdX5_27 : (Jvm.Cond.methodLink "SmellBurdens$Plain" (27 : Nat) ({ cls := "SmellBurdens$Plain", name := "roadFrom", desc := "(I)I" } : Jvm.MethodName)) ∈ xG := xg (xt3 (List.mem_of_getElem? (i := 47) (by decide +kernel))) rfl
def pX5_roadsAsNumber : List xE := [(0, 1, .iconst 0, 0, 0, 0, []), (1, 1, .istore_n 1, 1, 0, 0, []), (2, 1, .iconst 0, 0, 0, 0, []), (3, 1, .istore_n 2, 2, 0, 0, []), (4, 1, .iload_n 2, 2, 0, 0, []), (5, 1, .iconst 5, 5, 0, 0, []), (6, 3, .if_icmp .ge 20, 26, 0, 0, []), (9, 2, .bipush 10, 10, 0, 0, []), (11, 1, .iload_n 1, 1, 0, 0, []), (12, 1, .imul, 0, 0, 0, []), (13, 1, .aload_n 0, 0, 0, 0, []), (14, 1, .iload_n 2, 2, 0, 0, []), (15, 3, .invokevirtual 27, 0, 0, 0, []), (18, 1, .iadd, 0, 0, 0, []), (19, 1, .istore_n 1, 1, 0, 0, []), (20, 3, .iinc 2 1, 2, 1, 0, []), (23, 3, .goto (-19), 4, 0, 0, []), (26, 1, .iload_n 1, 1, 0, 0, []), (27, 1, .ireturn, 0, 0, 0, [])]
def mX5_roadsAsNumber : xM := (yX5_roadsAsNumber, cX5_roadsAsNumber, 3, (some FieldType.int), 0, 0, 3, 1, 21, 0, pX5_roadsAsNumber)
theorem dX5_roadsAsNumber : xDec cX5_roadsAsNumber pX5_roadsAsNumber = true := by decide +kernel
theorem hX5_roadsAsNumber : xHd mX5_roadsAsNumber := ⟨xg (w := (Jvm.Cond.code ({ cls := "SmellBurdens$Plain", name := "roadsAsNumber", desc := "()I" } : Jvm.MethodName) prog_7_method_12_code (3 : Nat) (Option.some Jvm.ClassFile.FieldType.int))) (xt4 (List.mem_of_getElem? (i := 139) (by decide +kernel))) rfl, xg (w := (Jvm.Cond.initialized "SmellBurdens$Plain")) (xt1 (List.mem_of_getElem? (i := 5) (by decide +kernel))) rfl, ⟨by decide +kernel, by decide +kernel, by decide +kernel⟩, xg (w := (Jvm.Cond.instanceMethod ({ cls := "SmellBurdens$Plain", name := "roadsAsNumber", desc := "()I" } : Jvm.MethodName))) (xt4 (List.mem_of_getElem? (i := 137) (by decide +kernel))) rfl, xg (w := (Jvm.Cond.selects "SmellBurdens$Plain" ({ cls := "SmellBurdens$Plain", name := "roadsAsNumber", desc := "()I" } : Jvm.MethodName) ({ cls := "SmellBurdens$Plain", name := "roadsAsNumber", desc := "()I" } : Jvm.MethodName))) (xt4 (List.mem_of_getElem? (i := 138) (by decide +kernel))) rfl, rfl⟩
theorem wdX5_31 : (Jvm.Cond.methodLink "SmellBurdens$Plain" (31 : Nat) ({ cls := "SmellBurdens$Plain", name := "kindOf", desc := "(I)I" } : Jvm.MethodName)) ∈ xG := xg (xt2 (List.mem_of_getElem? (i := 193) (by decide +kernel))) rfl
theorem wdX5_34 : (Jvm.Cond.methodLink "SmellBurdens$Plain" (34 : Nat) ({ cls := "SmellBurdens$Kind", name := "isA", desc := "(II)Z" } : Jvm.MethodName)) ∈ xG := xg (xt4 (List.mem_of_getElem? (i := 144) (by decide +kernel))) rfl
def pX5_howManyAre : List xE := [(0, 1, .iconst 0, 0, 0, 0, []), (1, 1, .istore_n 2, 2, 0, 0, []), (2, 1, .iconst 0, 0, 0, 0, []), (3, 1, .istore_n 3, 3, 0, 0, []), (4, 1, .iload_n 3, 3, 0, 0, []), (5, 1, .aload_n 0, 0, 0, 0, []), (6, 3, .getfield 9, 3, 0, 0, []), (9, 3, .if_icmp .ge 29, 38, 0, 0, []), (12, 1, .iload_n 2, 2, 0, 0, []), (13, 1, .aload_n 0, 0, 0, 0, []), (14, 1, .iload_n 3, 3, 0, 0, []), (15, 3, .invokevirtual 31, 0, 0, 0, []), (18, 1, .iload_n 1, 1, 0, 0, []), (19, 3, .invokestatic 34, 1, 0, 0, []), (22, 3, .ifCond .eq 7, 29, 0, 0, []), (25, 1, .iconst 1, 1, 0, 0, []), (26, 3, .goto 4, 30, 0, 0, []), (29, 1, .iconst 0, 0, 0, 0, []), (30, 1, .iadd, 0, 0, 0, []), (31, 1, .istore_n 2, 2, 0, 0, []), (32, 3, .iinc 3 1, 3, 1, 0, []), (35, 3, .goto (-31), 4, 0, 0, []), (38, 1, .iload_n 2, 2, 0, 0, []), (39, 1, .ireturn, 0, 0, 0, [])]
def mX5_howManyAre : xM := (yX5_howManyAre, cX5_howManyAre, 4, (some FieldType.int), 0, 1, 3, 1, 21, 0, pX5_howManyAre)
theorem dX5_howManyAre : xDec cX5_howManyAre pX5_howManyAre = true := by decide +kernel
theorem hX5_howManyAre : xHd mX5_howManyAre := ⟨xg (w := (Jvm.Cond.code ({ cls := "SmellBurdens$Plain", name := "howManyAre", desc := "(I)I" } : Jvm.MethodName) prog_7_method_13_code (4 : Nat) (Option.some Jvm.ClassFile.FieldType.int))) (xt4 (List.mem_of_getElem? (i := 143) (by decide +kernel))) rfl, xg (w := (Jvm.Cond.initialized "SmellBurdens$Plain")) (xt1 (List.mem_of_getElem? (i := 5) (by decide +kernel))) rfl, ⟨by decide +kernel, by decide +kernel, by decide +kernel⟩, xg (w := (Jvm.Cond.instanceMethod ({ cls := "SmellBurdens$Plain", name := "howManyAre", desc := "(I)I" } : Jvm.MethodName))) (xt4 (List.mem_of_getElem? (i := 141) (by decide +kernel))) rfl, xg (w := (Jvm.Cond.selects "SmellBurdens$Plain" ({ cls := "SmellBurdens$Plain", name := "howManyAre", desc := "(I)I" } : Jvm.MethodName) ({ cls := "SmellBurdens$Plain", name := "howManyAre", desc := "(I)I" } : Jvm.MethodName))) (xt4 (List.mem_of_getElem? (i := 142) (by decide +kernel))) rfl, rfl⟩
theorem wdX5_40 : (Jvm.Cond.methodLink "SmellBurdens$Plain" (40 : Nat) ({ cls := "SmellBurdens$Scene", name := "placeOf", desc := "(JI)I" } : Jvm.MethodName)) ∈ xG := xg (xt2 (List.mem_of_getElem? (i := 185) (by decide +kernel))) rfl
theorem wdX5_46 : (Jvm.Cond.methodLink "SmellBurdens$Plain" (46 : Nat) ({ cls := "SmellBurdens$Plain", name := "homeOf", desc := "(I)I" } : Jvm.MethodName)) ∈ xG := xg (xt2 (List.mem_of_getElem? (i := 189) (by decide +kernel))) rfl
def pX5_isHome : List xE := [(0, 1, .lload_n 1, 1, 0, 0, []), (1, 1, .iload_n 3, 3, 0, 0, []), (2, 3, .invokestatic 40, 0, 0, 0, []), (5, 1, .aload_n 0, 0, 0, 0, []), (6, 1, .iload_n 3, 3, 0, 0, []), (7, 3, .invokevirtual 46, 1, 0, 0, []), (10, 3, .if_icmp .ne 7, 17, 0, 0, []), (13, 1, .iconst 1, 1, 0, 0, []), (14, 3, .goto 4, 18, 0, 0, []), (17, 1, .iconst 0, 0, 0, 0, []), (18, 1, .ireturn, 0, 0, 0, [])]
def mX5_isHome : xM := (yX5_isHome, cX5_isHome, 4, (some FieldType.boolean), 0, 2, 3, 2, 45, 0, pX5_isHome)
theorem dX5_isHome : xDec cX5_isHome pX5_isHome = true := by decide +kernel
theorem hX5_isHome : xHd mX5_isHome := ⟨xg (w := (Jvm.Cond.code ({ cls := "SmellBurdens$Plain", name := "isHome", desc := "(JI)Z" } : Jvm.MethodName) prog_7_method_14_code (4 : Nat) (Option.some Jvm.ClassFile.FieldType.boolean))) (xt2 (List.mem_of_getElem? (i := 231) (by decide +kernel))) rfl, xg (w := (Jvm.Cond.initialized "SmellBurdens$Plain")) (xt1 (List.mem_of_getElem? (i := 5) (by decide +kernel))) rfl, ⟨by decide +kernel, by decide +kernel, by decide +kernel⟩, xg (w := (Jvm.Cond.instanceMethod ({ cls := "SmellBurdens$Plain", name := "isHome", desc := "(JI)Z" } : Jvm.MethodName))) (xt2 (List.mem_of_getElem? (i := 229) (by decide +kernel))) rfl, xg (w := (Jvm.Cond.selects "SmellBurdens$Plain" ({ cls := "SmellBurdens$Plain", name := "isHome", desc := "(JI)Z" } : Jvm.MethodName) ({ cls := "SmellBurdens$Plain", name := "isHome", desc := "(JI)Z" } : Jvm.MethodName))) (xt2 (List.mem_of_getElem? (i := 230) (by decide +kernel))) rfl, rfl⟩
theorem wdX5_49 : (Jvm.Cond.methodLink "SmellBurdens$Plain" (49 : Nat) ({ cls := "SmellBurdens$Plain", name := "isHome", desc := "(JI)Z" } : Jvm.MethodName)) ∈ xG := xg (xt3 (List.mem_of_getElem? (i := 143) (by decide +kernel))) rfl
def pX5_atHomes : List xE := [(0, 1, .iconst 0, 0, 0, 0, []), (1, 1, .istore_n 3, 3, 0, 0, []), (2, 1, .iconst 0, 0, 0, 0, []), (3, 2, .istore 4, 4, 0, 0, []), (5, 2, .iload 4, 4, 0, 0, []), (7, 1, .aload_n 0, 0, 0, 0, []), (8, 3, .getfield 15, 3, 1, 0, []), (11, 3, .if_icmp .ge 30, 41, 0, 0, []), (14, 1, .iload_n 3, 3, 0, 0, []), (15, 1, .aload_n 0, 0, 0, 0, []), (16, 1, .lload_n 1, 1, 0, 0, []), (17, 2, .iload 4, 4, 0, 0, []), (19, 3, .invokevirtual 49, 0, 0, 0, []), (22, 3, .ifCond .eq 10, 32, 0, 0, []), (25, 1, .iconst 1, 1, 0, 0, []), (26, 2, .iload 4, 4, 0, 0, []), (28, 1, .ishl, 0, 0, 0, []), (29, 3, .goto 4, 33, 0, 0, []), (32, 1, .iconst 0, 0, 0, 0, []), (33, 1, .ior, 0, 0, 0, []), (34, 1, .istore_n 3, 3, 0, 0, []), (35, 3, .iinc 4 1, 4, 1, 0, []), (38, 3, .goto (-33), 5, 0, 0, []), (41, 1, .iload_n 3, 3, 0, 0, []), (42, 1, .ireturn, 0, 0, 0, [])]
def mX5_atHomes : xM := (yX5_atHomes, cX5_atHomes, 5, (some FieldType.int), 0, 1, 3, 3, 68, 0, pX5_atHomes)
theorem dX5_atHomes : xDec cX5_atHomes pX5_atHomes = true := by decide +kernel
theorem hX5_atHomes : xHd mX5_atHomes := ⟨xg (w := (Jvm.Cond.code ({ cls := "SmellBurdens$Plain", name := "atHomes", desc := "(J)I" } : Jvm.MethodName) prog_7_method_15_code (5 : Nat) (Option.some Jvm.ClassFile.FieldType.int))) (xt3 (List.mem_of_getElem? (i := 142) (by decide +kernel))) rfl, xg (w := (Jvm.Cond.initialized "SmellBurdens$Plain")) (xt1 (List.mem_of_getElem? (i := 5) (by decide +kernel))) rfl, ⟨by decide +kernel, by decide +kernel, by decide +kernel⟩, xg (w := (Jvm.Cond.instanceMethod ({ cls := "SmellBurdens$Plain", name := "atHomes", desc := "(J)I" } : Jvm.MethodName))) (xt3 (List.mem_of_getElem? (i := 140) (by decide +kernel))) rfl, xg (w := (Jvm.Cond.selects "SmellBurdens$Plain" ({ cls := "SmellBurdens$Plain", name := "atHomes", desc := "(J)I" } : Jvm.MethodName) ({ cls := "SmellBurdens$Plain", name := "atHomes", desc := "(J)I" } : Jvm.MethodName))) (xt3 (List.mem_of_getElem? (i := 141) (by decide +kernel))) rfl, rfl⟩
theorem wdX5_53 : (Jvm.Cond.methodLink "SmellBurdens$Plain" (53 : Nat) ({ cls := "SmellBurdens$Scene", name := "memoryOf", desc := "(JI)I" } : Jvm.MethodName)) ∈ xG := xg (xt2 (List.mem_of_getElem? (i := 194) (by decide +kernel))) rfl
theorem wdX5_56 : (Jvm.Cond.methodLink "SmellBurdens$Plain" (56 : Nat) ({ cls := "SmellBurdens$Kind", name := "likeness", desc := "(III)I" } : Jvm.MethodName)) ∈ xG := xg (xt2 (List.mem_of_getElem? (i := 198) (by decide +kernel))) rfl
def pX5_likeness : List xE := [(0, 1, .aload_n 0, 0, 0, 0, []), (1, 1, .iload_n 3, 3, 0, 0, []), (2, 3, .invokevirtual 31, 0, 0, 0, []), (5, 1, .lload_n 1, 1, 0, 0, []), (6, 1, .iload_n 3, 3, 0, 0, []), (7, 3, .invokestatic 53, 1, 0, 0, []), (10, 2, .iload 4, 4, 0, 0, []), (12, 3, .invokestatic 56, 2, 0, 0, []), (15, 1, .ireturn, 0, 0, 0, [])]
def mX5_likeness : xM := (yX5_likeness, cX5_likeness, 5, (some FieldType.int), 0, 3, 3, 2, 45, 0, pX5_likeness)
theorem dX5_likeness : xDec cX5_likeness pX5_likeness = true := by decide +kernel
theorem hX5_likeness : xHd mX5_likeness := ⟨xg (w := (Jvm.Cond.code ({ cls := "SmellBurdens$Plain", name := "likeness", desc := "(JII)I" } : Jvm.MethodName) prog_7_method_16_code (5 : Nat) (Option.some Jvm.ClassFile.FieldType.int))) (xt3 (List.mem_of_getElem? (i := 28) (by decide +kernel))) rfl, xg (w := (Jvm.Cond.initialized "SmellBurdens$Plain")) (xt1 (List.mem_of_getElem? (i := 5) (by decide +kernel))) rfl, ⟨by decide +kernel, by decide +kernel, by decide +kernel⟩, xg (w := (Jvm.Cond.instanceMethod ({ cls := "SmellBurdens$Plain", name := "likeness", desc := "(JII)I" } : Jvm.MethodName))) (xt3 (List.mem_of_getElem? (i := 26) (by decide +kernel))) rfl, xg (w := (Jvm.Cond.selects "SmellBurdens$Plain" ({ cls := "SmellBurdens$Plain", name := "likeness", desc := "(JII)I" } : Jvm.MethodName) ({ cls := "SmellBurdens$Plain", name := "likeness", desc := "(JII)I" } : Jvm.MethodName))) (xt3 (List.mem_of_getElem? (i := 27) (by decide +kernel))) rfl, rfl⟩
theorem wdX5_60 : (Jvm.Cond.methodLink "SmellBurdens$Plain" (60 : Nat) ({ cls := "SmellBurdens$Kind", name := "wouldTake", desc := "(III)Z" } : Jvm.MethodName)) ∈ xG := xg (xt3 (List.mem_of_getElem? (i := 16) (by decide +kernel))) rfl
def pX5_wouldTake : List xE := [(0, 1, .aload_n 0, 0, 0, 0, []), (1, 1, .iload_n 3, 3, 0, 0, []), (2, 3, .invokevirtual 31, 0, 0, 0, []), (5, 1, .lload_n 1, 1, 0, 0, []), (6, 1, .iload_n 3, 3, 0, 0, []), (7, 3, .invokestatic 53, 1, 0, 0, []), (10, 2, .iload 4, 4, 0, 0, []), (12, 3, .invokestatic 60, 2, 0, 0, []), (15, 1, .ireturn, 0, 0, 0, [])]
def mX5_wouldTake : xM := (yX5_wouldTake, cX5_wouldTake, 5, (some FieldType.boolean), 0, 3, 3, 3, 65, 0, pX5_wouldTake)
theorem dX5_wouldTake : xDec cX5_wouldTake pX5_wouldTake = true := by decide +kernel
theorem hX5_wouldTake : xHd mX5_wouldTake := ⟨xg (w := (Jvm.Cond.code ({ cls := "SmellBurdens$Plain", name := "wouldTake", desc := "(JII)Z" } : Jvm.MethodName) prog_7_method_17_code (5 : Nat) (Option.some Jvm.ClassFile.FieldType.boolean))) (xt3 (List.mem_of_getElem? (i := 15) (by decide +kernel))) rfl, xg (w := (Jvm.Cond.initialized "SmellBurdens$Plain")) (xt1 (List.mem_of_getElem? (i := 5) (by decide +kernel))) rfl, ⟨by decide +kernel, by decide +kernel, by decide +kernel⟩, xg (w := (Jvm.Cond.instanceMethod ({ cls := "SmellBurdens$Plain", name := "wouldTake", desc := "(JII)Z" } : Jvm.MethodName))) (xt3 (List.mem_of_getElem? (i := 13) (by decide +kernel))) rfl, xg (w := (Jvm.Cond.selects "SmellBurdens$Plain" ({ cls := "SmellBurdens$Plain", name := "wouldTake", desc := "(JII)Z" } : Jvm.MethodName) ({ cls := "SmellBurdens$Plain", name := "wouldTake", desc := "(JII)Z" } : Jvm.MethodName))) (xt3 (List.mem_of_getElem? (i := 14) (by decide +kernel))) rfl, rfl⟩
theorem wdX5_64 : (Jvm.Cond.methodLink "SmellBurdens$Plain" (64 : Nat) ({ cls := "SmellBurdens$Plain", name := "wouldTake", desc := "(JII)Z" } : Jvm.MethodName)) ∈ xG := xg (xt3 (List.mem_of_getElem? (i := 12) (by decide +kernel))) rfl
def pX5_takersOf : List xE := [(0, 1, .iconst 0, 0, 0, 0, []), (1, 2, .istore 4, 4, 0, 0, []), (3, 1, .iconst 0, 0, 0, 0, []), (4, 2, .istore 5, 5, 0, 0, []), (6, 2, .iload 5, 5, 0, 0, []), (8, 1, .aload_n 0, 0, 0, 0, []), (9, 3, .getfield 9, 3, 0, 0, []), (12, 3, .if_icmp .ge 33, 45, 0, 0, []), (15, 2, .iload 4, 4, 0, 0, []), (17, 1, .aload_n 0, 0, 0, 0, []), (18, 1, .lload_n 1, 1, 0, 0, []), (19, 2, .iload 5, 5, 0, 0, []), (21, 1, .iload_n 3, 3, 0, 0, []), (22, 3, .invokevirtual 64, 0, 0, 0, []), (25, 3, .ifCond .eq 10, 35, 0, 0, []), (28, 1, .iconst 1, 1, 0, 0, []), (29, 2, .iload 5, 5, 0, 0, []), (31, 1, .ishl, 0, 0, 0, []), (32, 3, .goto 4, 36, 0, 0, []), (35, 1, .iconst 0, 0, 0, 0, []), (36, 1, .ior, 0, 0, 0, []), (37, 2, .istore 4, 4, 0, 0, []), (39, 3, .iinc 5 1, 5, 1, 0, []), (42, 3, .goto (-36), 6, 0, 0, []), (45, 2, .iload 4, 4, 0, 0, []), (47, 1, .ireturn, 0, 0, 0, [])]
def mX5_takersOf : xM := (yX5_takersOf, cX5_takersOf, 6, (some FieldType.int), 0, 2, 3, 4, 89, 0, pX5_takersOf)
theorem dX5_takersOf : xDec cX5_takersOf pX5_takersOf = true := by decide +kernel
theorem hX5_takersOf : xHd mX5_takersOf := ⟨xg (w := (Jvm.Cond.code ({ cls := "SmellBurdens$Plain", name := "takersOf", desc := "(JI)I" } : Jvm.MethodName) prog_7_method_18_code (6 : Nat) (Option.some Jvm.ClassFile.FieldType.int))) (xt3 (List.mem_of_getElem? (i := 119) (by decide +kernel))) rfl, xg (w := (Jvm.Cond.initialized "SmellBurdens$Plain")) (xt1 (List.mem_of_getElem? (i := 5) (by decide +kernel))) rfl, ⟨by decide +kernel, by decide +kernel, by decide +kernel⟩, xg (w := (Jvm.Cond.instanceMethod ({ cls := "SmellBurdens$Plain", name := "takersOf", desc := "(JI)I" } : Jvm.MethodName))) (xt3 (List.mem_of_getElem? (i := 117) (by decide +kernel))) rfl, xg (w := (Jvm.Cond.selects "SmellBurdens$Plain" ({ cls := "SmellBurdens$Plain", name := "takersOf", desc := "(JI)I" } : Jvm.MethodName) ({ cls := "SmellBurdens$Plain", name := "takersOf", desc := "(JI)I" } : Jvm.MethodName))) (xt3 (List.mem_of_getElem? (i := 118) (by decide +kernel))) rfl, rfl⟩
theorem wdX5_67 : (Jvm.Cond.methodLink "SmellBurdens$Plain" (67 : Nat) ({ cls := "SmellBurdens$Scene", name := "marksOf", desc := "(JI)I" } : Jvm.MethodName)) ∈ xG := xg (xt2 (List.mem_of_getElem? (i := 195) (by decide +kernel))) rfl
def pX5_loadsLikeMemory : List xE := [(0, 1, .iconst 0, 0, 0, 0, []), (1, 2, .istore 4, 4, 0, 0, []), (3, 1, .iconst 0, 0, 0, 0, []), (4, 2, .istore 5, 5, 0, 0, []), (6, 2, .iload 5, 5, 0, 0, []), (8, 1, .aload_n 0, 0, 0, 0, []), (9, 3, .getfield 15, 3, 1, 0, []), (12, 3, .if_icmp .ge 33, 45, 0, 0, []), (15, 2, .iload 4, 4, 0, 0, []), (17, 1, .lload_n 1, 1, 0, 0, []), (18, 2, .iload 5, 5, 0, 0, []), (20, 3, .invokestatic 67, 0, 0, 0, []), (23, 1, .lload_n 1, 1, 0, 0, []), (24, 1, .iload_n 3, 3, 0, 0, []), (25, 3, .invokestatic 53, 1, 0, 0, []), (28, 3, .if_icmp .ne 7, 35, 0, 0, []), (31, 1, .iconst 1, 1, 0, 0, []), (32, 3, .goto 4, 36, 0, 0, []), (35, 1, .iconst 0, 0, 0, 0, []), (36, 1, .iadd, 0, 0, 0, []), (37, 2, .istore 4, 4, 0, 0, []), (39, 3, .iinc 5 1, 5, 1, 0, []), (42, 3, .goto (-36), 6, 0, 0, []), (45, 2, .iload 4, 4, 0, 0, []), (47, 1, .ireturn, 0, 0, 0, [])]
def mX5_loadsLikeMemory : xM := (yX5_loadsLikeMemory, cX5_loadsLikeMemory, 6, (some FieldType.int), 0, 2, 3, 2, 45, 0, pX5_loadsLikeMemory)
theorem dX5_loadsLikeMemory : xDec cX5_loadsLikeMemory pX5_loadsLikeMemory = true := by decide +kernel
theorem hX5_loadsLikeMemory : xHd mX5_loadsLikeMemory := ⟨xg (w := (Jvm.Cond.code ({ cls := "SmellBurdens$Plain", name := "loadsLikeMemory", desc := "(JI)I" } : Jvm.MethodName) prog_7_method_19_code (6 : Nat) (Option.some Jvm.ClassFile.FieldType.int))) (xt3 (List.mem_of_getElem? (i := 7) (by decide +kernel))) rfl, xg (w := (Jvm.Cond.initialized "SmellBurdens$Plain")) (xt1 (List.mem_of_getElem? (i := 5) (by decide +kernel))) rfl, ⟨by decide +kernel, by decide +kernel, by decide +kernel⟩, xg (w := (Jvm.Cond.instanceMethod ({ cls := "SmellBurdens$Plain", name := "loadsLikeMemory", desc := "(JI)I" } : Jvm.MethodName))) (xt3 (List.mem_of_getElem? (i := 5) (by decide +kernel))) rfl, xg (w := (Jvm.Cond.selects "SmellBurdens$Plain" ({ cls := "SmellBurdens$Plain", name := "loadsLikeMemory", desc := "(JI)I" } : Jvm.MethodName) ({ cls := "SmellBurdens$Plain", name := "loadsLikeMemory", desc := "(JI)I" } : Jvm.MethodName))) (xt3 (List.mem_of_getElem? (i := 6) (by decide +kernel))) rfl, rfl⟩
def pX5_loadsRefused : List xE := [(0, 1, .iconst 0, 0, 0, 0, []), (1, 2, .istore 4, 4, 0, 0, []), (3, 1, .iconst 0, 0, 0, 0, []), (4, 2, .istore 5, 5, 0, 0, []), (6, 2, .iload 5, 5, 0, 0, []), (8, 1, .aload_n 0, 0, 0, 0, []), (9, 3, .getfield 15, 3, 1, 0, []), (12, 3, .if_icmp .ge 34, 46, 0, 0, []), (15, 2, .iload 4, 4, 0, 0, []), (17, 1, .aload_n 0, 0, 0, 0, []), (18, 1, .lload_n 1, 1, 0, 0, []), (19, 1, .iload_n 3, 3, 0, 0, []), (20, 1, .lload_n 1, 1, 0, 0, []), (21, 2, .iload 5, 5, 0, 0, []), (23, 3, .invokestatic 67, 0, 0, 0, []), (26, 3, .invokevirtual 64, 1, 0, 0, []), (29, 3, .ifCond .eq 7, 36, 0, 0, []), (32, 1, .iconst 0, 0, 0, 0, []), (33, 3, .goto 4, 37, 0, 0, []), (36, 1, .iconst 1, 1, 0, 0, []), (37, 1, .iadd, 0, 0, 0, []), (38, 2, .istore 4, 4, 0, 0, []), (40, 3, .iinc 5 1, 5, 1, 0, []), (43, 3, .goto (-37), 6, 0, 0, []), (46, 2, .iload 4, 4, 0, 0, []), (48, 1, .ireturn, 0, 0, 0, [])]
def mX5_loadsRefused : xM := (yX5_loadsRefused, cX5_loadsRefused, 6, (some FieldType.int), 0, 2, 3, 4, 89, 0, pX5_loadsRefused)
theorem dX5_loadsRefused : xDec cX5_loadsRefused pX5_loadsRefused = true := by decide +kernel
theorem hX5_loadsRefused : xHd mX5_loadsRefused := ⟨xg (w := (Jvm.Cond.code ({ cls := "SmellBurdens$Plain", name := "loadsRefused", desc := "(JI)I" } : Jvm.MethodName) prog_7_method_20_code (6 : Nat) (Option.some Jvm.ClassFile.FieldType.int))) (xt3 (List.mem_of_getElem? (i := 11) (by decide +kernel))) rfl, xg (w := (Jvm.Cond.initialized "SmellBurdens$Plain")) (xt1 (List.mem_of_getElem? (i := 5) (by decide +kernel))) rfl, ⟨by decide +kernel, by decide +kernel, by decide +kernel⟩, xg (w := (Jvm.Cond.instanceMethod ({ cls := "SmellBurdens$Plain", name := "loadsRefused", desc := "(JI)I" } : Jvm.MethodName))) (xt3 (List.mem_of_getElem? (i := 9) (by decide +kernel))) rfl, xg (w := (Jvm.Cond.selects "SmellBurdens$Plain" ({ cls := "SmellBurdens$Plain", name := "loadsRefused", desc := "(JI)I" } : Jvm.MethodName) ({ cls := "SmellBurdens$Plain", name := "loadsRefused", desc := "(JI)I" } : Jvm.MethodName))) (xt3 (List.mem_of_getElem? (i := 10) (by decide +kernel))) rfl, rfl⟩
theorem wdX5_70 : (Jvm.Cond.methodLink "SmellBurdens$Plain" (70 : Nat) ({ cls := "SmellBurdens$Plain", name := "likeness", desc := "(JII)I" } : Jvm.MethodName)) ∈ xG := xg (xt3 (List.mem_of_getElem? (i := 25) (by decide +kernel))) rfl
theorem wdX5_73 : (Jvm.Cond.methodLink "SmellBurdens$Plain" (73 : Nat) ({ cls := "java/lang/Math", name := "max", desc := "(II)I" } : Jvm.MethodName)) ∈ xG := xg (xt3 (List.mem_of_getElem? (i := 29) (by decide +kernel))) rfl
def pX5_mostLikeness : List xE := [(0, 1, .iconst 0, 0, 0, 0, []), (1, 2, .istore 4, 4, 0, 0, []), (3, 1, .iconst 0, 0, 0, 0, []), (4, 2, .istore 5, 5, 0, 0, []), (6, 2, .iload 5, 5, 0, 0, []), (8, 1, .aload_n 0, 0, 0, 0, []), (9, 3, .getfield 15, 3, 1, 0, []), (12, 3, .if_icmp .ge 28, 40, 0, 0, []), (15, 2, .iload 4, 4, 0, 0, []), (17, 1, .aload_n 0, 0, 0, 0, []), (18, 1, .lload_n 1, 1, 0, 0, []), (19, 1, .iload_n 3, 3, 0, 0, []), (20, 1, .lload_n 1, 1, 0, 0, []), (21, 2, .iload 5, 5, 0, 0, []), (23, 3, .invokestatic 67, 0, 0, 0, []), (26, 3, .invokevirtual 70, 1, 0, 0, []), (29, 3, .invokestatic 73, 0, 0, 1, []), (32, 2, .istore 4, 4, 0, 0, []), (34, 3, .iinc 5 1, 5, 1, 0, []), (37, 3, .goto (-31), 6, 0, 0, []), (40, 2, .iload 4, 4, 0, 0, []), (42, 1, .ireturn, 0, 0, 0, [])]
def mX5_mostLikeness : xM := (yX5_mostLikeness, cX5_mostLikeness, 6, (some FieldType.int), 0, 2, 3, 3, 69, 0, pX5_mostLikeness)
theorem dX5_mostLikeness : xDec cX5_mostLikeness pX5_mostLikeness = true := by decide +kernel
theorem hX5_mostLikeness : xHd mX5_mostLikeness := ⟨xg (w := (Jvm.Cond.code ({ cls := "SmellBurdens$Plain", name := "mostLikeness", desc := "(JI)I" } : Jvm.MethodName) prog_7_method_21_code (6 : Nat) (Option.some Jvm.ClassFile.FieldType.int))) (xt3 (List.mem_of_getElem? (i := 24) (by decide +kernel))) rfl, xg (w := (Jvm.Cond.initialized "SmellBurdens$Plain")) (xt1 (List.mem_of_getElem? (i := 5) (by decide +kernel))) rfl, ⟨by decide +kernel, by decide +kernel, by decide +kernel⟩, xg (w := (Jvm.Cond.instanceMethod ({ cls := "SmellBurdens$Plain", name := "mostLikeness", desc := "(JI)I" } : Jvm.MethodName))) (xt3 (List.mem_of_getElem? (i := 22) (by decide +kernel))) rfl, xg (w := (Jvm.Cond.selects "SmellBurdens$Plain" ({ cls := "SmellBurdens$Plain", name := "mostLikeness", desc := "(JI)I" } : Jvm.MethodName) ({ cls := "SmellBurdens$Plain", name := "mostLikeness", desc := "(JI)I" } : Jvm.MethodName))) (xt3 (List.mem_of_getElem? (i := 23) (by decide +kernel))) rfl, rfl⟩
theorem wdX5_79 : (Jvm.Cond.methodLink "SmellBurdens$Plain" (79 : Nat) ({ cls := "SmellBurdens$Scene", name := "innOf", desc := "(JI)I" } : Jvm.MethodName)) ∈ xG := xg (xt2 (List.mem_of_getElem? (i := 188) (by decide +kernel))) rfl
theorem wdX5_82 : (Jvm.Cond.methodLink "SmellBurdens$Plain" (82 : Nat) ({ cls := "SmellBurdens$Kind", name := "leastLike", desc := "(I)I" } : Jvm.MethodName)) ∈ xG := xg (xt2 (List.mem_of_getElem? (i := 207) (by decide +kernel))) rfl
def pX5_pull : List xE := [(0, 1, .lload_n 1, 1, 0, 0, []), (1, 2, .iload 4, 4, 0, 0, []), (3, 3, .invokestatic 40, 0, 0, 0, []), (6, 2, .istore 5, 5, 0, 0, []), (8, 2, .iload 5, 5, 0, 0, []), (10, 1, .lload_n 1, 1, 0, 0, []), (11, 1, .iload_n 3, 3, 0, 0, []), (12, 3, .invokestatic 79, 1, 0, 0, []), (15, 3, .if_icmp .ne 14, 29, 0, 0, []), (18, 2, .iload 5, 5, 0, 0, []), (20, 1, .aload_n 0, 0, 0, 0, []), (21, 2, .iload 4, 4, 0, 0, []), (23, 3, .invokevirtual 46, 2, 0, 0, []), (26, 3, .if_icmp .ne 5, 31, 0, 0, []), (29, 1, .iconst 0, 0, 0, 0, []), (30, 1, .ireturn, 0, 0, 0, []), (31, 1, .aload_n 0, 0, 0, 0, []), (32, 1, .iload_n 3, 3, 0, 0, []), (33, 3, .invokevirtual 31, 3, 0, 0, []), (36, 2, .istore 6, 6, 0, 0, []), (38, 2, .iload 6, 6, 0, 0, []), (40, 1, .lload_n 1, 1, 0, 0, []), (41, 1, .iload_n 3, 3, 0, 0, []), (42, 3, .invokestatic 53, 4, 0, 0, []), (45, 1, .lload_n 1, 1, 0, 0, []), (46, 2, .iload 4, 4, 0, 0, []), (48, 3, .invokestatic 67, 5, 0, 0, []), (51, 3, .invokestatic 56, 6, 0, 0, []), (54, 2, .istore 7, 7, 0, 0, []), (56, 2, .iload 7, 7, 0, 0, []), (58, 2, .iload 6, 6, 0, 0, []), (60, 3, .invokestatic 82, 7, 0, 0, []), (63, 3, .if_icmp .ge 7, 70, 0, 0, []), (66, 1, .iconst 0, 0, 0, 0, []), (67, 3, .goto 5, 72, 0, 0, []), (70, 2, .iload 7, 7, 0, 0, []), (72, 1, .ireturn, 0, 0, 0, [])]
def mX5_pull : xM := (yX5_pull, cX5_pull, 8, (some FieldType.int), 0, 3, 3, 2, 45, 0, pX5_pull)
theorem dX5_pull : xDec cX5_pull pX5_pull = true := by decide +kernel
theorem hX5_pull : xHd mX5_pull := ⟨xg (w := (Jvm.Cond.code ({ cls := "SmellBurdens$Plain", name := "pull", desc := "(JII)I" } : Jvm.MethodName) prog_7_method_22_code (8 : Nat) (Option.some Jvm.ClassFile.FieldType.int))) (xt2 (List.mem_of_getElem? (i := 184) (by decide +kernel))) rfl, xg (w := (Jvm.Cond.initialized "SmellBurdens$Plain")) (xt1 (List.mem_of_getElem? (i := 5) (by decide +kernel))) rfl, ⟨by decide +kernel, by decide +kernel, by decide +kernel⟩, xg (w := (Jvm.Cond.instanceMethod ({ cls := "SmellBurdens$Plain", name := "pull", desc := "(JII)I" } : Jvm.MethodName))) (xt2 (List.mem_of_getElem? (i := 182) (by decide +kernel))) rfl, xg (w := (Jvm.Cond.selects "SmellBurdens$Plain" ({ cls := "SmellBurdens$Plain", name := "pull", desc := "(JII)I" } : Jvm.MethodName) ({ cls := "SmellBurdens$Plain", name := "pull", desc := "(JII)I" } : Jvm.MethodName))) (xt2 (List.mem_of_getElem? (i := 183) (by decide +kernel))) rfl, rfl⟩
theorem wdX5_85 : (Jvm.Cond.methodLink "SmellBurdens$Plain" (85 : Nat) ({ cls := "SmellBurdens$Plain", name := "assInLine", desc := "(II)I" } : Jvm.MethodName)) ∈ xG := xg (xt2 (List.mem_of_getElem? (i := 174) (by decide +kernel))) rfl
theorem wdX5_88 : (Jvm.Cond.methodLink "SmellBurdens$Plain" (88 : Nat) ({ cls := "SmellBurdens$Plain", name := "choiceOf", desc := "(JII)I" } : Jvm.MethodName)) ∈ xG := xg (xt2 (List.mem_of_getElem? (i := 177) (by decide +kernel))) rfl
def pX5_takesOf : List xE := [(0, 1, .iconst 0, 0, 0, 0, []), (1, 2, .istore 5, 5, 0, 0, []), (3, 1, .iconst 0, 0, 0, 0, []), (4, 2, .istore 6, 6, 0, 0, []), (6, 1, .iconst 0, 0, 0, 0, []), (7, 2, .istore 7, 7, 0, 0, []), (9, 2, .iload 7, 7, 0, 0, []), (11, 1, .aload_n 0, 0, 0, 0, []), (12, 3, .getfield 9, 3, 0, 0, []), (15, 3, .if_icmp .ge 74, 89, 0, 0, []), (18, 1, .iload_n 3, 3, 0, 0, []), (19, 2, .iload 7, 7, 0, 0, []), (21, 3, .invokestatic 85, 0, 0, 0, []), (24, 2, .istore 8, 8, 0, 0, []), (26, 2, .iload 4, 4, 0, 0, []), (28, 2, .iload 8, 8, 0, 0, []), (30, 1, .ishr, 0, 0, 0, []), (31, 1, .iconst 1, 1, 0, 0, []), (32, 1, .iand, 0, 0, 0, []), (33, 1, .iconst 1, 1, 0, 0, []), (34, 3, .if_icmp .ne 15, 49, 0, 0, []), (37, 1, .aload_n 0, 0, 0, 0, []), (38, 1, .lload_n 1, 1, 0, 0, []), (39, 2, .iload 8, 8, 0, 0, []), (41, 2, .iload 6, 6, 0, 0, []), (43, 3, .invokevirtual 88, 1, 0, 0, []), (46, 3, .goto 5, 51, 0, 0, []), (49, 2, .bipush (-9), 9, 0, 0, []), (51, 2, .istore 9, 9, 0, 0, []), (53, 2, .iload 9, 9, 0, 0, []), (55, 2, .bipush (-9), 9, 0, 0, []), (57, 3, .if_icmp .eq 26, 83, 0, 0, []), (60, 2, .iload 6, 6, 0, 0, []), (62, 1, .iconst 1, 1, 0, 0, []), (63, 2, .iload 9, 9, 0, 0, []), (65, 1, .ishl, 0, 0, 0, []), (66, 1, .ior, 0, 0, 0, []), (67, 2, .istore 6, 6, 0, 0, []), (69, 2, .iload 5, 5, 0, 0, []), (71, 2, .iload 9, 9, 0, 0, []), (73, 1, .iconst 1, 1, 0, 0, []), (74, 1, .iadd, 0, 0, 0, []), (75, 1, .iconst 3, 3, 0, 0, []), (76, 2, .iload 8, 8, 0, 0, []), (78, 1, .imul, 0, 0, 0, []), (79, 1, .ishl, 0, 0, 0, []), (80, 1, .ior, 0, 0, 0, []), (81, 2, .istore 5, 5, 0, 0, []), (83, 3, .iinc 7 1, 7, 1, 0, []), (86, 3, .goto (-77), 9, 0, 0, []), (89, 2, .iload 5, 5, 0, 0, []), (91, 1, .ireturn, 0, 0, 0, [])]
def mX5_takesOf : xM := (yX5_takesOf, cX5_takesOf, 10, (some FieldType.int), 0, 3, 3, 4, 100, 0, pX5_takesOf)
theorem dX5_takesOf : xDec cX5_takesOf pX5_takesOf = true := by decide +kernel
theorem hX5_takesOf : xHd mX5_takesOf := ⟨xg (w := (Jvm.Cond.code ({ cls := "SmellBurdens$Plain", name := "takesOf", desc := "(JII)I" } : Jvm.MethodName) prog_7_method_23_code (10 : Nat) (Option.some Jvm.ClassFile.FieldType.int))) (xt2 (List.mem_of_getElem? (i := 173) (by decide +kernel))) rfl, xg (w := (Jvm.Cond.initialized "SmellBurdens$Plain")) (xt1 (List.mem_of_getElem? (i := 5) (by decide +kernel))) rfl, ⟨by decide +kernel, by decide +kernel, by decide +kernel⟩, xg (w := (Jvm.Cond.instanceMethod ({ cls := "SmellBurdens$Plain", name := "takesOf", desc := "(JII)I" } : Jvm.MethodName))) (xt2 (List.mem_of_getElem? (i := 171) (by decide +kernel))) rfl, xg (w := (Jvm.Cond.selects "SmellBurdens$Plain" ({ cls := "SmellBurdens$Plain", name := "takesOf", desc := "(JII)I" } : Jvm.MethodName) ({ cls := "SmellBurdens$Plain", name := "takesOf", desc := "(JII)I" } : Jvm.MethodName))) (xt2 (List.mem_of_getElem? (i := 172) (by decide +kernel))) rfl, rfl⟩
theorem wdX5_91 : (Jvm.Cond.methodLink "SmellBurdens$Plain" (91 : Nat) ({ cls := "SmellBurdens$Plain", name := "pull", desc := "(JII)I" } : Jvm.MethodName)) ∈ xG := xg (xt2 (List.mem_of_getElem? (i := 181) (by decide +kernel))) rfl
def pX5_choiceOf : List xE := [(0, 2, .bipush (-9), 9, 0, 0, []), (2, 2, .istore 5, 5, 0, 0, []), (4, 1, .iconst 0, 0, 0, 0, []), (5, 2, .istore 6, 6, 0, 0, []), (7, 1, .iconst 0, 0, 0, 0, []), (8, 2, .istore 7, 7, 0, 0, []), (10, 2, .iload 7, 7, 0, 0, []), (12, 1, .aload_n 0, 0, 0, 0, []), (13, 3, .getfield 15, 3, 1, 0, []), (16, 3, .if_icmp .ge 49, 65, 0, 0, []), (19, 2, .iload 4, 4, 0, 0, []), (21, 2, .iload 7, 7, 0, 0, []), (23, 1, .ishr, 0, 0, 0, []), (24, 1, .iconst 1, 1, 0, 0, []), (25, 1, .iand, 0, 0, 0, []), (26, 1, .iconst 1, 1, 0, 0, []), (27, 3, .if_icmp .ne 7, 34, 0, 0, []), (30, 1, .iconst 0, 0, 0, 0, []), (31, 3, .goto 11, 42, 0, 0, []), (34, 1, .aload_n 0, 0, 0, 0, []), (35, 1, .lload_n 1, 1, 0, 0, []), (36, 1, .iload_n 3, 3, 0, 0, []), (37, 2, .iload 7, 7, 0, 0, []), (39, 3, .invokevirtual 91, 0, 0, 0, []), (42, 2, .istore 8, 8, 0, 0, []), (44, 2, .iload 8, 8, 0, 0, []), (46, 2, .iload 6, 6, 0, 0, []), (48, 3, .if_icmp .le 11, 59, 0, 0, []), (51, 2, .iload 8, 8, 0, 0, []), (53, 2, .istore 6, 6, 0, 0, []), (55, 2, .iload 7, 7, 0, 0, []), (57, 2, .istore 5, 5, 0, 0, []), (59, 3, .iinc 7 1, 7, 1, 0, []), (62, 3, .goto (-52), 10, 0, 0, []), (65, 2, .iload 5, 5, 0, 0, []), (67, 1, .ireturn, 0, 0, 0, [])]
def mX5_choiceOf : xM := (yX5_choiceOf, cX5_choiceOf, 9, (some FieldType.int), 0, 3, 3, 3, 72, 0, pX5_choiceOf)
theorem dX5_choiceOf : xDec cX5_choiceOf pX5_choiceOf = true := by decide +kernel
theorem hX5_choiceOf : xHd mX5_choiceOf := ⟨xg (w := (Jvm.Cond.code ({ cls := "SmellBurdens$Plain", name := "choiceOf", desc := "(JII)I" } : Jvm.MethodName) prog_7_method_24_code (9 : Nat) (Option.some Jvm.ClassFile.FieldType.int))) (xt2 (List.mem_of_getElem? (i := 180) (by decide +kernel))) rfl, xg (w := (Jvm.Cond.initialized "SmellBurdens$Plain")) (xt1 (List.mem_of_getElem? (i := 5) (by decide +kernel))) rfl, ⟨by decide +kernel, by decide +kernel, by decide +kernel⟩, xg (w := (Jvm.Cond.instanceMethod ({ cls := "SmellBurdens$Plain", name := "choiceOf", desc := "(JII)I" } : Jvm.MethodName))) (xt2 (List.mem_of_getElem? (i := 179) (by decide +kernel))) rfl, xg (w := (Jvm.Cond.selects "SmellBurdens$Plain" ({ cls := "SmellBurdens$Plain", name := "choiceOf", desc := "(JII)I" } : Jvm.MethodName) ({ cls := "SmellBurdens$Plain", name := "choiceOf", desc := "(JII)I" } : Jvm.MethodName))) (xsl (List.mem_of_getElem? (i := 12) (by decide +kernel))) rfl, rfl⟩
theorem wdX5_94 : (Jvm.Cond.methodLink "SmellBurdens$Plain" (94 : Nat) ({ cls := "SmellBurdens$Plain", name := "loadTaken", desc := "(II)I" } : Jvm.MethodName)) ∈ xG := xg (xt2 (List.mem_of_getElem? (i := 235) (by decide +kernel))) rfl
theorem wdX5_97 : (Jvm.Cond.methodLink "SmellBurdens$Plain" (97 : Nat) ({ cls := "SmellBurdens$Scene", name := "withInn", desc := "(JII)J" } : Jvm.MethodName)) ∈ xG := xg (xt3 (List.mem_of_getElem? (i := 51) (by decide +kernel))) rfl
theorem wdX5_101 : (Jvm.Cond.methodLink "SmellBurdens$Plain" (101 : Nat) ({ cls := "SmellBurdens$Scene", name := "withPlace", desc := "(JII)J" } : Jvm.MethodName)) ∈ xG := xg (xt3 (List.mem_of_getElem? (i := 52) (by decide +kernel))) rfl
theorem wdX5_104 : (Jvm.Cond.methodLink "SmellBurdens$Plain" (104 : Nat) ({ cls := "SmellBurdens$Scene", name := "withMemory", desc := "(JII)J" } : Jvm.MethodName)) ∈ xG := xg (xt3 (List.mem_of_getElem? (i := 53) (by decide +kernel))) rfl
def pX5_gone : List xE := [(0, 1, .lload_n 1, 1, 0, 0, []), (1, 2, .lstore 4, 4, 0, 0, []), (3, 1, .iconst 0, 0, 0, 0, []), (4, 2, .istore 6, 6, 0, 0, []), (6, 2, .iload 6, 6, 0, 0, []), (8, 1, .aload_n 0, 0, 0, 0, []), (9, 3, .getfield 9, 3, 0, 0, []), (12, 3, .if_icmp .ge 79, 91, 0, 0, []), (15, 1, .iload_n 3, 3, 0, 0, []), (16, 2, .iload 6, 6, 0, 0, []), (18, 3, .invokestatic 94, 0, 0, 0, []), (21, 2, .istore 7, 7, 0, 0, []), (23, 2, .iload 7, 7, 0, 0, []), (25, 2, .bipush (-9), 9, 0, 0, []), (27, 3, .if_icmp .eq 58, 85, 0, 0, []), (30, 1, .aload_n 0, 0, 0, 0, []), (31, 1, .lload_n 1, 1, 0, 0, []), (32, 2, .iload 6, 6, 0, 0, []), (34, 3, .invokestatic 79, 1, 0, 0, []), (37, 3, .invokevirtual 27, 2, 0, 0, []), (40, 2, .istore 8, 8, 0, 0, []), (42, 2, .lload 4, 4, 0, 0, []), (44, 2, .iload 6, 6, 0, 0, []), (46, 2, .iload 8, 8, 0, 0, []), (48, 3, .invokestatic 97, 3, 0, 0, []), (51, 2, .iload 7, 7, 0, 0, []), (53, 2, .iload 8, 8, 0, 0, []), (55, 3, .invokestatic 101, 4, 0, 0, []), (58, 2, .lstore 4, 4, 0, 0, []), (60, 1, .aload_n 0, 0, 0, 0, []), (61, 2, .iload 6, 6, 0, 0, []), (63, 3, .invokevirtual 31, 5, 0, 0, []), (66, 1, .iconst 2, 2, 0, 0, []), (67, 3, .if_icmp .ne 18, 85, 0, 0, []), (70, 2, .lload 4, 4, 0, 0, []), (72, 2, .iload 6, 6, 0, 0, []), (74, 1, .lload_n 1, 1, 0, 0, []), (75, 2, .iload 7, 7, 0, 0, []), (77, 3, .invokestatic 67, 6, 0, 0, []), (80, 3, .invokestatic 104, 7, 0, 0, []), (83, 2, .lstore 4, 4, 0, 0, []), (85, 3, .iinc 6 1, 6, 1, 0, []), (88, 3, .goto (-82), 6, 0, 0, []), (91, 2, .lload 4, 4, 0, 0, []), (93, 1, .lreturn, 0, 0, 0, [])]
def mX5_gone : xM := (yX5_gone, cX5_gone, 9, (some FieldType.long), 0, 2, 3, 2, 47, 0, pX5_gone)
theorem dX5_gone : xDec cX5_gone pX5_gone = true := by decide +kernel
theorem hX5_gone : xHd mX5_gone := ⟨xg (w := (Jvm.Cond.code ({ cls := "SmellBurdens$Plain", name := "gone", desc := "(JI)J" } : Jvm.MethodName) prog_7_method_25_code (9 : Nat) (Option.some Jvm.ClassFile.FieldType.long))) (xt3 (List.mem_of_getElem? (i := 46) (by decide +kernel))) rfl, xg (w := (Jvm.Cond.initialized "SmellBurdens$Plain")) (xt1 (List.mem_of_getElem? (i := 5) (by decide +kernel))) rfl, ⟨by decide +kernel, by decide +kernel, by decide +kernel⟩, xg (w := (Jvm.Cond.instanceMethod ({ cls := "SmellBurdens$Plain", name := "gone", desc := "(JI)J" } : Jvm.MethodName))) (xt3 (List.mem_of_getElem? (i := 44) (by decide +kernel))) rfl, xg (w := (Jvm.Cond.selects "SmellBurdens$Plain" ({ cls := "SmellBurdens$Plain", name := "gone", desc := "(JI)J" } : Jvm.MethodName) ({ cls := "SmellBurdens$Plain", name := "gone", desc := "(JI)J" } : Jvm.MethodName))) (xt3 (List.mem_of_getElem? (i := 45) (by decide +kernel))) rfl, rfl⟩
def pX5_assInLine : List xE := [(0, 1, .iload_n 0, 0, 0, 0, []), (1, 1, .iconst 2, 2, 0, 0, []), (2, 1, .iconst 3, 3, 0, 0, []), (3, 1, .iload_n 1, 1, 0, 0, []), (4, 1, .isub, 0, 0, 0, []), (5, 1, .imul, 0, 0, 0, []), (6, 1, .ishr, 0, 0, 0, []), (7, 1, .iconst 3, 3, 0, 0, []), (8, 1, .iand, 0, 0, 0, []), (9, 1, .ireturn, 0, 0, 0, [])]
def mX5_assInLine : xM := (yX5_assInLine, cX5_assInLine, 2, (some FieldType.int), 1, 2, 3, 0, 0, 0, pX5_assInLine)
theorem dX5_assInLine : xDec cX5_assInLine pX5_assInLine = true := by decide +kernel
theorem hX5_assInLine : xHd mX5_assInLine := ⟨xg (w := (Jvm.Cond.code ({ cls := "SmellBurdens$Plain", name := "assInLine", desc := "(II)I" } : Jvm.MethodName) prog_7_method_26_code (2 : Nat) (Option.some Jvm.ClassFile.FieldType.int))) (xt2 (List.mem_of_getElem? (i := 176) (by decide +kernel))) rfl, xg (w := (Jvm.Cond.initialized "SmellBurdens$Plain")) (xt1 (List.mem_of_getElem? (i := 5) (by decide +kernel))) rfl, ⟨by decide +kernel, by decide +kernel, by decide +kernel⟩, xg (w := (Jvm.Cond.static ({ cls := "SmellBurdens$Plain", name := "assInLine", desc := "(II)I" } : Jvm.MethodName))) (xt2 (List.mem_of_getElem? (i := 175) (by decide +kernel))) rfl⟩
def pX5_loadTaken : List xE := [(0, 1, .iload_n 0, 0, 0, 0, []), (1, 1, .iconst 3, 3, 0, 0, []), (2, 1, .iload_n 1, 1, 0, 0, []), (3, 1, .imul, 0, 0, 0, []), (4, 1, .ishr, 0, 0, 0, []), (5, 2, .bipush 7, 7, 0, 0, []), (7, 1, .iand, 0, 0, 0, []), (8, 1, .istore_n 2, 2, 0, 0, []), (9, 1, .iload_n 2, 2, 0, 0, []), (10, 3, .ifCond .ne 8, 18, 0, 0, []), (13, 2, .bipush (-9), 9, 0, 0, []), (15, 3, .goto 6, 21, 0, 0, []), (18, 1, .iload_n 2, 2, 0, 0, []), (19, 1, .iconst 1, 1, 0, 0, []), (20, 1, .isub, 0, 0, 0, []), (21, 1, .ireturn, 0, 0, 0, [])]
def mX5_loadTaken : xM := (yX5_loadTaken, cX5_loadTaken, 3, (some FieldType.int), 1, 2, 3, 0, 0, 0, pX5_loadTaken)
theorem dX5_loadTaken : xDec cX5_loadTaken pX5_loadTaken = true := by decide +kernel
theorem hX5_loadTaken : xHd mX5_loadTaken := ⟨xg (w := (Jvm.Cond.code ({ cls := "SmellBurdens$Plain", name := "loadTaken", desc := "(II)I" } : Jvm.MethodName) prog_7_method_27_code (3 : Nat) (Option.some Jvm.ClassFile.FieldType.int))) (xt2 (List.mem_of_getElem? (i := 212) (by decide +kernel))) rfl, xg (w := (Jvm.Cond.initialized "SmellBurdens$Plain")) (xt1 (List.mem_of_getElem? (i := 5) (by decide +kernel))) rfl, ⟨by decide +kernel, by decide +kernel, by decide +kernel⟩, xg (w := (Jvm.Cond.static ({ cls := "SmellBurdens$Plain", name := "loadTaken", desc := "(II)I" } : Jvm.MethodName))) (xt2 (List.mem_of_getElem? (i := 211) (by decide +kernel))) rfl⟩
def pX5_takerOf : List xE := [(0, 1, .iconst 0, 0, 0, 0, []), (1, 1, .istore_n 2, 2, 0, 0, []), (2, 1, .iload_n 2, 2, 0, 0, []), (3, 1, .iconst 4, 4, 0, 0, []), (4, 3, .if_icmp .ge 20, 24, 0, 0, []), (7, 1, .iload_n 0, 0, 0, 0, []), (8, 1, .iload_n 2, 2, 0, 0, []), (9, 3, .invokestatic 94, 0, 0, 0, []), (12, 1, .iload_n 1, 1, 0, 0, []), (13, 3, .if_icmp .ne 5, 18, 0, 0, []), (16, 1, .iload_n 2, 2, 0, 0, []), (17, 1, .ireturn, 0, 0, 0, []), (18, 3, .iinc 2 1, 2, 1, 0, []), (21, 3, .goto (-19), 2, 0, 0, []), (24, 2, .bipush (-9), 9, 0, 0, []), (26, 1, .ireturn, 0, 0, 0, [])]
def mX5_takerOf : xM := (yX5_takerOf, cX5_takerOf, 3, (some FieldType.int), 1, 2, 3, 1, 22, 0, pX5_takerOf)
theorem dX5_takerOf : xDec cX5_takerOf pX5_takerOf = true := by decide +kernel
theorem hX5_takerOf : xHd mX5_takerOf := ⟨xg (w := (Jvm.Cond.code ({ cls := "SmellBurdens$Plain", name := "takerOf", desc := "(II)I" } : Jvm.MethodName) prog_7_method_28_code (3 : Nat) (Option.some Jvm.ClassFile.FieldType.int))) (xt2 (List.mem_of_getElem? (i := 234) (by decide +kernel))) rfl, xg (w := (Jvm.Cond.initialized "SmellBurdens$Plain")) (xt1 (List.mem_of_getElem? (i := 5) (by decide +kernel))) rfl, ⟨by decide +kernel, by decide +kernel, by decide +kernel⟩, xg (w := (Jvm.Cond.static ({ cls := "SmellBurdens$Plain", name := "takerOf", desc := "(II)I" } : Jvm.MethodName))) (xt2 (List.mem_of_getElem? (i := 233) (by decide +kernel))) rfl⟩
def pX5_howManyTaken : List xE := [(0, 1, .iconst 0, 0, 0, 0, []), (1, 1, .istore_n 1, 1, 0, 0, []), (2, 1, .iconst 0, 0, 0, 0, []), (3, 1, .istore_n 2, 2, 0, 0, []), (4, 1, .iload_n 2, 2, 0, 0, []), (5, 1, .iconst 4, 4, 0, 0, []), (6, 3, .if_icmp .ge 27, 33, 0, 0, []), (9, 1, .iload_n 1, 1, 0, 0, []), (10, 1, .iload_n 0, 0, 0, 0, []), (11, 1, .iload_n 2, 2, 0, 0, []), (12, 3, .invokestatic 94, 0, 0, 0, []), (15, 2, .bipush (-9), 9, 0, 0, []), (17, 3, .if_icmp .ne 7, 24, 0, 0, []), (20, 1, .iconst 0, 0, 0, 0, []), (21, 3, .goto 4, 25, 0, 0, []), (24, 1, .iconst 1, 1, 0, 0, []), (25, 1, .iadd, 0, 0, 0, []), (26, 1, .istore_n 1, 1, 0, 0, []), (27, 3, .iinc 2 1, 2, 1, 0, []), (30, 3, .goto (-26), 4, 0, 0, []), (33, 1, .iload_n 1, 1, 0, 0, []), (34, 1, .ireturn, 0, 0, 0, [])]
def mX5_howManyTaken : xM := (yX5_howManyTaken, cX5_howManyTaken, 3, (some FieldType.int), 1, 1, 3, 1, 22, 0, pX5_howManyTaken)
theorem dX5_howManyTaken : xDec cX5_howManyTaken pX5_howManyTaken = true := by decide +kernel
theorem hX5_howManyTaken : xHd mX5_howManyTaken := ⟨xg (w := (Jvm.Cond.code ({ cls := "SmellBurdens$Plain", name := "howManyTaken", desc := "(I)I" } : Jvm.MethodName) prog_7_method_29_code (3 : Nat) (Option.some Jvm.ClassFile.FieldType.int))) (xt3 (List.mem_of_getElem? (i := 60) (by decide +kernel))) rfl, xg (w := (Jvm.Cond.initialized "SmellBurdens$Plain")) (xt1 (List.mem_of_getElem? (i := 5) (by decide +kernel))) rfl, ⟨by decide +kernel, by decide +kernel, by decide +kernel⟩, xg (w := (Jvm.Cond.static ({ cls := "SmellBurdens$Plain", name := "howManyTaken", desc := "(I)I" } : Jvm.MethodName))) (xt3 (List.mem_of_getElem? (i := 59) (by decide +kernel))) rfl⟩
theorem wdX6_3 : (Jvm.Cond.methodLink "SmellBurdens$Reader" (3 : Nat) ({ cls := "java/lang/Object", name := "<init>", desc := "()V" } : Jvm.MethodName)) ∈ xG := xg (xt1 (List.mem_of_getElem? (i := 50) (by decide +kernel))) rfl
theorem wdX6_9 : (Jvm.Cond.fieldLink "SmellBurdens$Reader" (9 : Nat) "SmellBurdens$Reader" "signs" "[I") ∈ xG := xg (xt1 (List.mem_of_getElem? (i := 81) (by decide +kernel))) rfl
theorem wdX6_15 : (Jvm.Cond.classLink "SmellBurdens$Reader" (15 : Nat) "SmellBurdens$Plain") ∈ xG := xg (xt1 (List.mem_of_getElem? (i := 51) (by decide +kernel))) rfl
theorem wdX6_17 : (Jvm.Cond.methodLinkNest "SmellBurdens$Reader" (17 : Nat) ({ cls := "SmellBurdens$Plain", name := "<init>", desc := "()V" } : Jvm.MethodName) "SmellBurdens") ∈ xNest := by decide +kernel
theorem wdX6_18 : (Jvm.Cond.fieldLink "SmellBurdens$Reader" (18 : Nat) "SmellBurdens$Reader" "draft" "LSmellBurdens$Plain;") ∈ xG := xg (xt1 (List.mem_of_getElem? (i := 82) (by decide +kernel))) rfl
def pX6_init : List xE := [(0, 1, .aload_n 0, 0, 0, 0, []), (1, 3, .invokespecial 3, 0, 0, 1, []), (4, 1, .aload_n 0, 0, 0, 0, []), (5, 2, .bipush 60, 60, 0, 0, []), (7, 2, .newarray .int, 0, 0, 1, []), (9, 3, .putfield 9, 4, 0, 0, []), (12, 1, .aload_n 0, 0, 0, 0, []), (13, 3, .new 15, 3, 0, 0, []), (16, 1, .dup, 0, 0, 0, []), (17, 3, .invokespecial 17, 0, 1, 0, []), (20, 3, .putfield 18, 4, 1, 0, []), (23, 1, .return_, 0, 0, 0, [])]
def mX6_init : xM := (yX6_init, cX6_init, 1, (none : Option FieldType), 2, 0, 4, 2, 40, 2, pX6_init)
theorem dX6_init : xDec cX6_init pX6_init = true := by decide +kernel
theorem hX6_init : xHd mX6_init := ⟨xg (w := (Jvm.Cond.code ({ cls := "SmellBurdens$Reader", name := "<init>", desc := "()V" } : Jvm.MethodName) prog_8_method_1_code (1 : Nat) (Option.none : Option Jvm.ClassFile.FieldType))) (xt1 (List.mem_of_getElem? (i := 49) (by decide +kernel))) rfl, xg (w := (Jvm.Cond.initialized "SmellBurdens$Reader")) (xt1 (List.mem_of_getElem? (i := 4) (by decide +kernel))) rfl, ⟨by decide +kernel, by decide +kernel, by decide +kernel⟩, xg (w := (Jvm.Cond.instanceMethod ({ cls := "SmellBurdens$Reader", name := "<init>", desc := "()V" } : Jvm.MethodName))) (xt1 (List.mem_of_getElem? (i := 48) (by decide +kernel))) rfl, rfl, rfl⟩
theorem wdX6_22 : (Jvm.Cond.methodLink "SmellBurdens$Reader" (22 : Nat) ({ cls := "SmellBurdens$Shelf", name := "sizeOf", desc := "(I)I" } : Jvm.MethodName)) ∈ xG := xg (xt2 (List.mem_of_getElem? (i := 60) (by decide +kernel))) rfl
theorem wdX6_28 : (Jvm.Cond.fieldLink "SmellBurdens$Reader" (28 : Nat) "SmellBurdens$Reader" "size" "I") ∈ xG := xg (xt1 (List.mem_of_getElem? (i := 86) (by decide +kernel))) rfl
theorem wdX6_32 : (Jvm.Cond.methodLink "SmellBurdens$Reader" (32 : Nat) ({ cls := "SmellBurdens$Shelf", name := "get", desc := "(II)I" } : Jvm.MethodName)) ∈ xG := xg (xt2 (List.mem_of_getElem? (i := 61) (by decide +kernel))) rfl
theorem wdX6_36 : (Jvm.Cond.fieldLink "SmellBurdens$Reader" (36 : Nat) "SmellBurdens$Reader" "spot" "I") ∈ xG := xg (xt1 (List.mem_of_getElem? (i := 87) (by decide +kernel))) rfl
theorem wdX6_39 : (Jvm.Cond.fieldLink "SmellBurdens$Reader" (39 : Nat) "SmellBurdens$Reader" "state" "J") ∈ xG := xg (xt1 (List.mem_of_getElem? (i := 84) (by decide +kernel))) rfl
theorem wdX6_43 : (Jvm.Cond.methodLink "SmellBurdens$Reader" (43 : Nat) ({ cls := "SmellBurdens$Plain", name := "clear", desc := "()V" } : Jvm.MethodName)) ∈ xG := xg (xt2 (List.mem_of_getElem? (i := 62) (by decide +kernel))) rfl
theorem wdX6_46 : (Jvm.Cond.methodLink "SmellBurdens$Reader" (46 : Nat) ({ cls := "SmellBurdens$Reader", name := "readRoads", desc := "()Z" } : Jvm.MethodName)) ∈ xG := xg (xt2 (List.mem_of_getElem? (i := 66) (by decide +kernel))) rfl
theorem wdX6_50 : (Jvm.Cond.methodLink "SmellBurdens$Reader" (50 : Nat) ({ cls := "SmellBurdens$Reader", name := "readItems", desc := "()Z" } : Jvm.MethodName)) ∈ xG := xg (xt2 (List.mem_of_getElem? (i := 86) (by decide +kernel))) rfl
def pX6_read : List xE := [(0, 1, .aload_n 0, 0, 0, 0, []), (1, 1, .aload_n 1, 1, 0, 0, []), (2, 1, .iload_n 2, 2, 0, 0, []), (3, 3, .invokevirtual 22, 0, 0, 0, []), (6, 3, .putfield 28, 4, 3, 0, []), (9, 1, .iconst 0, 0, 0, 0, []), (10, 1, .istore_n 3, 3, 0, 0, []), (11, 1, .iload_n 3, 3, 0, 0, []), (12, 1, .aload_n 0, 0, 0, 0, []), (13, 3, .getfield 28, 4, 3, 0, []), (16, 3, .if_icmp .ge 30, 46, 0, 0, []), (19, 1, .iload_n 3, 3, 0, 0, []), (20, 1, .aload_n 0, 0, 0, 0, []), (21, 3, .getfield 9, 4, 0, 0, []), (24, 1, .arraylength, 0, 0, 0, []), (25, 3, .if_icmp .ge 21, 46, 0, 0, []), (28, 1, .aload_n 0, 0, 0, 0, []), (29, 3, .getfield 9, 4, 0, 0, []), (32, 1, .iload_n 3, 3, 0, 0, []), (33, 1, .aload_n 1, 1, 0, 0, []), (34, 1, .iload_n 2, 2, 0, 0, []), (35, 1, .iload_n 3, 3, 0, 0, []), (36, 3, .invokevirtual 32, 1, 0, 0, []), (39, 1, .iastore, 0, 0, 0, []), (40, 3, .iinc 3 1, 3, 1, 0, []), (43, 3, .goto (-32), 11, 0, 0, []), (46, 1, .aload_n 0, 0, 0, 0, []), (47, 1, .iconst 0, 0, 0, 0, []), (48, 3, .putfield 36, 4, 4, 0, []), (51, 1, .aload_n 0, 0, 0, 0, []), (52, 1, .lconst 0, 0, 0, 0, []), (53, 3, .putfield 39, 4, 2, 0, []), (56, 1, .aload_n 0, 0, 0, 0, []), (57, 3, .getfield 18, 4, 1, 0, []), (60, 3, .invokevirtual 43, 2, 0, 0, []), (63, 1, .aload_n 0, 0, 0, 0, []), (64, 3, .invokevirtual 46, 3, 0, 0, []), (67, 3, .ifCond .eq 15, 82, 0, 0, []), (70, 1, .aload_n 0, 0, 0, 0, []), (71, 3, .invokevirtual 50, 4, 0, 0, []), (74, 3, .ifCond .eq 8, 82, 0, 0, []), (77, 2, .bipush (-9), 9, 0, 0, []), (79, 3, .goto 7, 86, 0, 0, []), (82, 1, .aload_n 0, 0, 0, 0, []), (83, 3, .getfield 36, 4, 4, 0, []), (86, 1, .ireturn, 0, 0, 0, [])]
def mX6_read : xM := (yX6_read, cX6_read, 4, (some FieldType.int), 0, 2, 4, 5, 110, 0, pX6_read)
theorem dX6_read : xDec cX6_read pX6_read = true := by decide +kernel
theorem hX6_read : xHd mX6_read := ⟨xg (w := (Jvm.Cond.code ({ cls := "SmellBurdens$Reader", name := "read", desc := "(LSmellBurdens$Shelf;I)I" } : Jvm.MethodName) prog_8_method_2_code (4 : Nat) (Option.some Jvm.ClassFile.FieldType.int))) (xt2 (List.mem_of_getElem? (i := 59) (by decide +kernel))) rfl, xg (w := (Jvm.Cond.initialized "SmellBurdens$Reader")) (xt1 (List.mem_of_getElem? (i := 4) (by decide +kernel))) rfl, ⟨by decide +kernel, by decide +kernel, by decide +kernel⟩, xg (w := (Jvm.Cond.instanceMethod ({ cls := "SmellBurdens$Reader", name := "read", desc := "(LSmellBurdens$Shelf;I)I" } : Jvm.MethodName))) (xt2 (List.mem_of_getElem? (i := 57) (by decide +kernel))) rfl, xg (w := (Jvm.Cond.selects "SmellBurdens$Reader" ({ cls := "SmellBurdens$Reader", name := "read", desc := "(LSmellBurdens$Shelf;I)I" } : Jvm.MethodName) ({ cls := "SmellBurdens$Reader", name := "read", desc := "(LSmellBurdens$Shelf;I)I" } : Jvm.MethodName))) (xt2 (List.mem_of_getElem? (i := 58) (by decide +kernel))) rfl, rfl⟩
def pX6_sign : List xE := [(0, 1, .aload_n 0, 0, 0, 0, []), (1, 3, .getfield 36, 4, 4, 0, []), (4, 3, .ifCond .lt 38, 42, 0, 0, []), (7, 1, .aload_n 0, 0, 0, 0, []), (8, 3, .getfield 36, 4, 4, 0, []), (11, 1, .aload_n 0, 0, 0, 0, []), (12, 3, .getfield 28, 4, 3, 0, []), (15, 3, .if_icmp .ge 27, 42, 0, 0, []), (18, 1, .aload_n 0, 0, 0, 0, []), (19, 3, .getfield 36, 4, 4, 0, []), (22, 1, .aload_n 0, 0, 0, 0, []), (23, 3, .getfield 9, 4, 0, 0, []), (26, 1, .arraylength, 0, 0, 0, []), (27, 3, .if_icmp .ge 15, 42, 0, 0, []), (30, 1, .aload_n 0, 0, 0, 0, []), (31, 3, .getfield 9, 4, 0, 0, []), (34, 1, .aload_n 0, 0, 0, 0, []), (35, 3, .getfield 36, 4, 4, 0, []), (38, 1, .iaload, 0, 0, 0, []), (39, 3, .goto 6, 45, 0, 0, []), (42, 3, .sipush (-1000), 1000, 0, 0, []), (45, 1, .ireturn, 0, 0, 0, [])]
def mX6_sign : xM := (yX6_sign, cX6_sign, 1, (some FieldType.int), 0, 0, 4, 0, 0, 0, pX6_sign)
theorem dX6_sign : xDec cX6_sign pX6_sign = true := by decide +kernel
theorem hX6_sign : xHd mX6_sign := ⟨xg (w := (Jvm.Cond.code ({ cls := "SmellBurdens$Reader", name := "sign", desc := "()I" } : Jvm.MethodName) prog_8_method_3_code (1 : Nat) (Option.some Jvm.ClassFile.FieldType.int))) (xt2 (List.mem_of_getElem? (i := 77) (by decide +kernel))) rfl, xg (w := (Jvm.Cond.initialized "SmellBurdens$Reader")) (xt1 (List.mem_of_getElem? (i := 4) (by decide +kernel))) rfl, ⟨by decide +kernel, by decide +kernel, by decide +kernel⟩, xg (w := (Jvm.Cond.instanceMethod ({ cls := "SmellBurdens$Reader", name := "sign", desc := "()I" } : Jvm.MethodName))) (xt2 (List.mem_of_getElem? (i := 76) (by decide +kernel))) rfl, xg (w := (Jvm.Cond.selects "SmellBurdens$Reader" ({ cls := "SmellBurdens$Reader", name := "sign", desc := "()I" } : Jvm.MethodName) ({ cls := "SmellBurdens$Reader", name := "sign", desc := "()I" } : Jvm.MethodName))) (xsl (List.mem_of_getElem? (i := 4) (by decide +kernel))) rfl, rfl⟩
theorem wdX6_53 : (Jvm.Cond.methodLink "SmellBurdens$Reader" (53 : Nat) ({ cls := "SmellBurdens$Reader", name := "sign", desc := "()I" } : Jvm.MethodName)) ∈ xG := xg (xt2 (List.mem_of_getElem? (i := 74) (by decide +kernel))) rfl
def pX6_skipBlanks : List xE := [(0, 1, .iconst 0, 0, 0, 0, []), (1, 1, .istore_n 1, 1, 0, 0, []), (2, 1, .iload_n 1, 1, 0, 0, []), (3, 2, .bipush 60, 60, 0, 0, []), (5, 3, .if_icmp .ge 28, 33, 0, 0, []), (8, 1, .aload_n 0, 0, 0, 0, []), (9, 3, .invokevirtual 53, 0, 0, 0, []), (12, 2, .bipush 32, 32, 0, 0, []), (14, 3, .if_icmp .ne 19, 33, 0, 0, []), (17, 1, .aload_n 0, 0, 0, 0, []), (18, 1, .dup, 0, 0, 0, []), (19, 3, .getfield 36, 4, 4, 0, []), (22, 1, .iconst 1, 1, 0, 0, []), (23, 1, .iadd, 0, 0, 0, []), (24, 3, .putfield 36, 4, 4, 0, []), (27, 3, .iinc 1 1, 1, 1, 0, []), (30, 3, .goto (-28), 2, 0, 0, []), (33, 1, .return_, 0, 0, 0, [])]
def mX6_skipBlanks : xM := (yX6_skipBlanks, cX6_skipBlanks, 2, (none : Option FieldType), 0, 0, 4, 1, 20, 0, pX6_skipBlanks)
theorem dX6_skipBlanks : xDec cX6_skipBlanks pX6_skipBlanks = true := by decide +kernel
theorem hX6_skipBlanks : xHd mX6_skipBlanks := ⟨xg (w := (Jvm.Cond.code ({ cls := "SmellBurdens$Reader", name := "skipBlanks", desc := "()V" } : Jvm.MethodName) prog_8_method_4_code (2 : Nat) (Option.none : Option Jvm.ClassFile.FieldType))) (xt2 (List.mem_of_getElem? (i := 73) (by decide +kernel))) rfl, xg (w := (Jvm.Cond.initialized "SmellBurdens$Reader")) (xt1 (List.mem_of_getElem? (i := 4) (by decide +kernel))) rfl, ⟨by decide +kernel, by decide +kernel, by decide +kernel⟩, xg (w := (Jvm.Cond.instanceMethod ({ cls := "SmellBurdens$Reader", name := "skipBlanks", desc := "()V" } : Jvm.MethodName))) (xt2 (List.mem_of_getElem? (i := 72) (by decide +kernel))) rfl, xg (w := (Jvm.Cond.selects "SmellBurdens$Reader" ({ cls := "SmellBurdens$Reader", name := "skipBlanks", desc := "()V" } : Jvm.MethodName) ({ cls := "SmellBurdens$Reader", name := "skipBlanks", desc := "()V" } : Jvm.MethodName))) (xsl (List.mem_of_getElem? (i := 3) (by decide +kernel))) rfl, rfl⟩
theorem wdX6_57 : (Jvm.Cond.methodLink "SmellBurdens$Reader" (57 : Nat) ({ cls := "SmellBurdens$Reader", name := "skipBlanks", desc := "()V" } : Jvm.MethodName)) ∈ xG := xg (xt2 (List.mem_of_getElem? (i := 70) (by decide +kernel))) rfl
theorem wdX6_60 : (Jvm.Cond.methodLink "SmellBurdens$Reader" (60 : Nat) ({ cls := "SmellBurdens$Reader", name := "readFigure", desc := "(I)I" } : Jvm.MethodName)) ∈ xG := xg (xt2 (List.mem_of_getElem? (i := 78) (by decide +kernel))) rfl
theorem wdX6_63 : (Jvm.Cond.methodLink "SmellBurdens$Reader" (63 : Nat) ({ cls := "SmellBurdens$Plain", name := "addRoad", desc := "(II)V" } : Jvm.MethodName)) ∈ xG := xg (xt2 (List.mem_of_getElem? (i := 82) (by decide +kernel))) rfl
def pX6_readRoads : List xE := [(0, 1, .aload_n 0, 0, 0, 0, []), (1, 3, .invokevirtual 57, 0, 0, 0, []), (4, 1, .aload_n 0, 0, 0, 0, []), (5, 3, .invokevirtual 53, 1, 0, 0, []), (8, 2, .bipush 110, 110, 0, 0, []), (10, 3, .if_icmp .eq 5, 15, 0, 0, []), (13, 1, .iconst 0, 0, 0, 0, []), (14, 1, .ireturn, 0, 0, 0, []), (15, 1, .aload_n 0, 0, 0, 0, []), (16, 1, .dup, 0, 0, 0, []), (17, 3, .getfield 36, 4, 4, 0, []), (20, 1, .iconst 1, 1, 0, 0, []), (21, 1, .iadd, 0, 0, 0, []), (22, 3, .putfield 36, 4, 4, 0, []), (25, 1, .iconst 0, 0, 0, 0, []), (26, 1, .istore_n 1, 1, 0, 0, []), (27, 1, .iload_n 1, 1, 0, 0, []), (28, 1, .iconst 5, 5, 0, 0, []), (29, 3, .if_icmp .ge 31, 60, 0, 0, []), (32, 1, .aload_n 0, 0, 0, 0, []), (33, 1, .iconst 4, 4, 0, 0, []), (34, 3, .invokevirtual 60, 2, 0, 0, []), (37, 1, .istore_n 2, 2, 0, 0, []), (38, 1, .iload_n 2, 2, 0, 0, []), (39, 1, .iconst (-1), 1, 0, 0, []), (40, 3, .if_icmp .ne 5, 45, 0, 0, []), (43, 1, .iconst 0, 0, 0, 0, []), (44, 1, .ireturn, 0, 0, 0, []), (45, 1, .aload_n 0, 0, 0, 0, []), (46, 3, .getfield 18, 4, 1, 0, []), (49, 1, .iload_n 1, 1, 0, 0, []), (50, 1, .iload_n 2, 2, 0, 0, []), (51, 3, .invokevirtual 63, 3, 0, 0, []), (54, 3, .iinc 1 1, 1, 1, 0, []), (57, 3, .goto (-30), 27, 0, 0, []), (60, 1, .iconst 1, 1, 0, 0, []), (61, 1, .ireturn, 0, 0, 0, [])]
def mX6_readRoads : xM := (yX6_readRoads, cX6_readRoads, 3, (some FieldType.boolean), 0, 0, 4, 2, 42, 0, pX6_readRoads)
theorem dX6_readRoads : xDec cX6_readRoads pX6_readRoads = true := by decide +kernel
theorem hX6_readRoads : xHd mX6_readRoads := ⟨xg (w := (Jvm.Cond.code ({ cls := "SmellBurdens$Reader", name := "readRoads", desc := "()Z" } : Jvm.MethodName) prog_8_method_5_code (3 : Nat) (Option.some Jvm.ClassFile.FieldType.boolean))) (xt2 (List.mem_of_getElem? (i := 69) (by decide +kernel))) rfl, xg (w := (Jvm.Cond.initialized "SmellBurdens$Reader")) (xt1 (List.mem_of_getElem? (i := 4) (by decide +kernel))) rfl, ⟨by decide +kernel, by decide +kernel, by decide +kernel⟩, xg (w := (Jvm.Cond.instanceMethod ({ cls := "SmellBurdens$Reader", name := "readRoads", desc := "()Z" } : Jvm.MethodName))) (xt2 (List.mem_of_getElem? (i := 68) (by decide +kernel))) rfl, xg (w := (Jvm.Cond.selects "SmellBurdens$Reader" ({ cls := "SmellBurdens$Reader", name := "readRoads", desc := "()Z" } : Jvm.MethodName) ({ cls := "SmellBurdens$Reader", name := "readRoads", desc := "()Z" } : Jvm.MethodName))) (xsl (List.mem_of_getElem? (i := 2) (by decide +kernel))) rfl, rfl⟩
theorem wdX6_67 : (Jvm.Cond.fieldLinkNest "SmellBurdens$Reader" (67 : Nat) "SmellBurdens$Plain" "loads" "I" "SmellBurdens") ∈ xNest := by decide +kernel
theorem wdX6_70 : (Jvm.Cond.methodLink "SmellBurdens$Reader" (70 : Nat) ({ cls := "SmellBurdens$Reader", name := "readLoad", desc := "()Z" } : Jvm.MethodName)) ∈ xG := xg (xt2 (List.mem_of_getElem? (i := 90) (by decide +kernel))) rfl
theorem wdX6_73 : (Jvm.Cond.methodLink "SmellBurdens$Reader" (73 : Nat) ({ cls := "SmellBurdens$Reader", name := "readAss", desc := "()Z" } : Jvm.MethodName)) ∈ xG := xg (xt2 (List.mem_of_getElem? (i := 112) (by decide +kernel))) rfl
def pX6_readItems : List xE := [(0, 1, .iconst 0, 0, 0, 0, []), (1, 1, .istore_n 1, 1, 0, 0, []), (2, 1, .iload_n 1, 1, 0, 0, []), (3, 2, .bipush 60, 60, 0, 0, []), (5, 3, .if_icmp .gt 66, 71, 0, 0, []), (8, 1, .aload_n 0, 0, 0, 0, []), (9, 3, .invokevirtual 57, 0, 0, 0, []), (12, 1, .aload_n 0, 0, 0, 0, []), (13, 3, .invokevirtual 53, 1, 0, 0, []), (16, 3, .sipush (-1000), 1000, 0, 0, []), (19, 3, .if_icmp .ne 19, 38, 0, 0, []), (22, 1, .aload_n 0, 0, 0, 0, []), (23, 3, .getfield 18, 4, 1, 0, []), (26, 3, .getfield 67, 3, 1, 1, []), (29, 3, .ifCond .le 7, 36, 0, 0, []), (32, 1, .iconst 1, 1, 0, 0, []), (33, 3, .goto 4, 37, 0, 0, []), (36, 1, .iconst 0, 0, 0, 0, []), (37, 1, .ireturn, 0, 0, 0, []), (38, 1, .aload_n 0, 0, 0, 0, []), (39, 3, .invokevirtual 53, 1, 0, 0, []), (42, 2, .bipush 108, 108, 0, 0, []), (44, 3, .if_icmp .ne 10, 54, 0, 0, []), (47, 1, .aload_n 0, 0, 0, 0, []), (48, 3, .invokevirtual 70, 2, 0, 0, []), (51, 3, .goto 7, 58, 0, 0, []), (54, 1, .aload_n 0, 0, 0, 0, []), (55, 3, .invokevirtual 73, 3, 0, 0, []), (58, 1, .istore_n 2, 2, 0, 0, []), (59, 1, .iload_n 2, 2, 0, 0, []), (60, 3, .ifCond .ne 5, 65, 0, 0, []), (63, 1, .iconst 0, 0, 0, 0, []), (64, 1, .ireturn, 0, 0, 0, []), (65, 3, .iinc 1 1, 1, 1, 0, []), (68, 3, .goto (-66), 2, 0, 0, []), (71, 1, .iconst 0, 0, 0, 0, []), (72, 1, .ireturn, 0, 0, 0, [])]
def mX6_readItems : xM := (yX6_readItems, cX6_readItems, 3, (some FieldType.boolean), 0, 0, 4, 4, 88, 0, pX6_readItems)
theorem dX6_readItems : xDec cX6_readItems pX6_readItems = true := by decide +kernel
theorem hX6_readItems : xHd mX6_readItems := ⟨xg (w := (Jvm.Cond.code ({ cls := "SmellBurdens$Reader", name := "readItems", desc := "()Z" } : Jvm.MethodName) prog_8_method_6_code (3 : Nat) (Option.some Jvm.ClassFile.FieldType.boolean))) (xt2 (List.mem_of_getElem? (i := 89) (by decide +kernel))) rfl, xg (w := (Jvm.Cond.initialized "SmellBurdens$Reader")) (xt1 (List.mem_of_getElem? (i := 4) (by decide +kernel))) rfl, ⟨by decide +kernel, by decide +kernel, by decide +kernel⟩, xg (w := (Jvm.Cond.instanceMethod ({ cls := "SmellBurdens$Reader", name := "readItems", desc := "()Z" } : Jvm.MethodName))) (xt2 (List.mem_of_getElem? (i := 88) (by decide +kernel))) rfl, xg (w := (Jvm.Cond.selects "SmellBurdens$Reader" ({ cls := "SmellBurdens$Reader", name := "readItems", desc := "()Z" } : Jvm.MethodName) ({ cls := "SmellBurdens$Reader", name := "readItems", desc := "()Z" } : Jvm.MethodName))) (xsl (List.mem_of_getElem? (i := 6) (by decide +kernel))) rfl, rfl⟩
theorem wdX6_76 : (Jvm.Cond.methodLink "SmellBurdens$Reader" (76 : Nat) ({ cls := "SmellBurdens$Kind", name := "byLetter", desc := "(I)I" } : Jvm.MethodName)) ∈ xG := xg (xt2 (List.mem_of_getElem? (i := 116) (by decide +kernel))) rfl
theorem wdX6_81 : (Jvm.Cond.fieldLinkNest "SmellBurdens$Reader" (81 : Nat) "SmellBurdens$Plain" "asses" "I" "SmellBurdens") ∈ xNest := by decide +kernel
theorem wdX6_84 : (Jvm.Cond.methodLink "SmellBurdens$Reader" (84 : Nat) ({ cls := "SmellBurdens$Reader", name := "readSet", desc := "()I" } : Jvm.MethodName)) ∈ xG := xg (xt2 (List.mem_of_getElem? (i := 94) (by decide +kernel))) rfl
theorem wdX6_87 : (Jvm.Cond.methodLink "SmellBurdens$Reader" (87 : Nat) ({ cls := "SmellBurdens$Scene", name := "withMemory", desc := "(JII)J" } : Jvm.MethodName)) ∈ xG := xg (xt2 (List.mem_of_getElem? (i := 119) (by decide +kernel))) rfl
theorem wdX6_93 : (Jvm.Cond.methodLink "SmellBurdens$Reader" (93 : Nat) ({ cls := "SmellBurdens$Scene", name := "withInn", desc := "(JII)J" } : Jvm.MethodName)) ∈ xG := xg (xt2 (List.mem_of_getElem? (i := 122) (by decide +kernel))) rfl
theorem wdX6_96 : (Jvm.Cond.methodLink "SmellBurdens$Reader" (96 : Nat) ({ cls := "SmellBurdens$Plain", name := "addAss", desc := "(I)V" } : Jvm.MethodName)) ∈ xG := xg (xt2 (List.mem_of_getElem? (i := 125) (by decide +kernel))) rfl
def pX6_readAss : List xE := [(0, 1, .aload_n 0, 0, 0, 0, []), (1, 3, .invokevirtual 53, 0, 0, 0, []), (4, 3, .invokestatic 76, 1, 0, 0, []), (7, 1, .istore_n 1, 1, 0, 0, []), (8, 1, .iload_n 1, 1, 0, 0, []), (9, 2, .bipush (-9), 9, 0, 0, []), (11, 3, .if_icmp .eq 24, 35, 0, 0, []), (14, 1, .aload_n 0, 0, 0, 0, []), (15, 3, .getfield 18, 4, 1, 0, []), (18, 3, .getfield 81, 3, 0, 1, []), (21, 1, .iconst 4, 4, 0, 0, []), (22, 3, .if_icmp .eq 13, 35, 0, 0, []), (25, 1, .aload_n 0, 0, 0, 0, []), (26, 3, .getfield 18, 4, 1, 0, []), (29, 3, .getfield 67, 3, 1, 1, []), (32, 3, .ifCond .le 5, 37, 0, 0, []), (35, 1, .iconst 0, 0, 0, 0, []), (36, 1, .ireturn, 0, 0, 0, []), (37, 1, .aload_n 0, 0, 0, 0, []), (38, 1, .dup, 0, 0, 0, []), (39, 3, .getfield 36, 4, 4, 0, []), (42, 1, .iconst 1, 1, 0, 0, []), (43, 1, .iadd, 0, 0, 0, []), (44, 3, .putfield 36, 4, 4, 0, []), (47, 1, .aload_n 0, 0, 0, 0, []), (48, 3, .invokevirtual 84, 2, 0, 0, []), (51, 1, .istore_n 2, 2, 0, 0, []), (52, 1, .iload_n 2, 2, 0, 0, []), (53, 1, .iconst (-1), 1, 0, 0, []), (54, 3, .if_icmp .ne 7, 61, 0, 0, []), (57, 1, .iconst (-1), 1, 0, 0, []), (58, 3, .goto 8, 66, 0, 0, []), (61, 1, .aload_n 0, 0, 0, 0, []), (62, 1, .iconst 4, 4, 0, 0, []), (63, 3, .invokevirtual 60, 3, 0, 0, []), (66, 1, .istore_n 3, 3, 0, 0, []), (67, 1, .iload_n 3, 3, 0, 0, []), (68, 1, .iconst (-1), 1, 0, 0, []), (69, 3, .if_icmp .ne 5, 74, 0, 0, []), (72, 1, .iconst 0, 0, 0, 0, []), (73, 1, .ireturn, 0, 0, 0, []), (74, 1, .aload_n 0, 0, 0, 0, []), (75, 1, .aload_n 0, 0, 0, 0, []), (76, 3, .getfield 39, 4, 2, 0, []), (79, 1, .aload_n 0, 0, 0, 0, []), (80, 3, .getfield 18, 4, 1, 0, []), (83, 3, .getfield 81, 3, 0, 1, []), (86, 1, .iload_n 2, 2, 0, 0, []), (87, 3, .invokestatic 87, 4, 0, 0, []), (90, 3, .putfield 39, 4, 2, 0, []), (93, 1, .aload_n 0, 0, 0, 0, []), (94, 1, .aload_n 0, 0, 0, 0, []), (95, 3, .getfield 39, 4, 2, 0, []), (98, 1, .aload_n 0, 0, 0, 0, []), (99, 3, .getfield 18, 4, 1, 0, []), (102, 3, .getfield 81, 3, 0, 1, []), (105, 1, .iload_n 3, 3, 0, 0, []), (106, 3, .invokestatic 93, 5, 0, 0, []), (109, 3, .putfield 39, 4, 2, 0, []), (112, 1, .aload_n 0, 0, 0, 0, []), (113, 3, .getfield 18, 4, 1, 0, []), (116, 1, .iload_n 1, 1, 0, 0, []), (117, 3, .invokevirtual 96, 6, 0, 0, []), (120, 1, .iconst 1, 1, 0, 0, []), (121, 1, .ireturn, 0, 0, 0, [])]
def mX6_readAss : xM := (yX6_readAss, cX6_readAss, 4, (some FieldType.boolean), 0, 0, 4, 3, 65, 0, pX6_readAss)
theorem dX6_readAss : xDec cX6_readAss pX6_readAss = true := by decide +kernel
theorem hX6_readAss : xHd mX6_readAss := ⟨xg (w := (Jvm.Cond.code ({ cls := "SmellBurdens$Reader", name := "readAss", desc := "()Z" } : Jvm.MethodName) prog_8_method_7_code (4 : Nat) (Option.some Jvm.ClassFile.FieldType.boolean))) (xt2 (List.mem_of_getElem? (i := 115) (by decide +kernel))) rfl, xg (w := (Jvm.Cond.initialized "SmellBurdens$Reader")) (xt1 (List.mem_of_getElem? (i := 4) (by decide +kernel))) rfl, ⟨by decide +kernel, by decide +kernel, by decide +kernel⟩, xg (w := (Jvm.Cond.instanceMethod ({ cls := "SmellBurdens$Reader", name := "readAss", desc := "()Z" } : Jvm.MethodName))) (xt2 (List.mem_of_getElem? (i := 114) (by decide +kernel))) rfl, xg (w := (Jvm.Cond.selects "SmellBurdens$Reader" ({ cls := "SmellBurdens$Reader", name := "readAss", desc := "()Z" } : Jvm.MethodName) ({ cls := "SmellBurdens$Reader", name := "readAss", desc := "()Z" } : Jvm.MethodName))) (xsl (List.mem_of_getElem? (i := 9) (by decide +kernel))) rfl, rfl⟩
theorem wdX6_100 : (Jvm.Cond.methodLink "SmellBurdens$Reader" (100 : Nat) ({ cls := "SmellBurdens$Scene", name := "withMarks", desc := "(JII)J" } : Jvm.MethodName)) ∈ xG := xg (xt2 (List.mem_of_getElem? (i := 98) (by decide +kernel))) rfl
theorem wdX6_103 : (Jvm.Cond.methodLink "SmellBurdens$Reader" (103 : Nat) ({ cls := "SmellBurdens$Scene", name := "withPlace", desc := "(JII)J" } : Jvm.MethodName)) ∈ xG := xg (xt2 (List.mem_of_getElem? (i := 105) (by decide +kernel))) rfl
theorem wdX6_106 : (Jvm.Cond.methodLink "SmellBurdens$Reader" (106 : Nat) ({ cls := "SmellBurdens$Plain", name := "addLoad", desc := "(I)V" } : Jvm.MethodName)) ∈ xG := xg (xt2 (List.mem_of_getElem? (i := 108) (by decide +kernel))) rfl
def pX6_readLoad : List xE := [(0, 1, .aload_n 0, 0, 0, 0, []), (1, 3, .getfield 18, 4, 1, 0, []), (4, 3, .getfield 81, 3, 0, 1, []), (7, 3, .ifCond .eq 14, 21, 0, 0, []), (10, 1, .aload_n 0, 0, 0, 0, []), (11, 3, .getfield 18, 4, 1, 0, []), (14, 3, .getfield 67, 3, 1, 1, []), (17, 1, .iconst 5, 5, 0, 0, []), (18, 3, .if_icmp .ne 5, 23, 0, 0, []), (21, 1, .iconst 0, 0, 0, 0, []), (22, 1, .ireturn, 0, 0, 0, []), (23, 1, .aload_n 0, 0, 0, 0, []), (24, 1, .dup, 0, 0, 0, []), (25, 3, .getfield 36, 4, 4, 0, []), (28, 1, .iconst 1, 1, 0, 0, []), (29, 1, .iadd, 0, 0, 0, []), (30, 3, .putfield 36, 4, 4, 0, []), (33, 1, .aload_n 0, 0, 0, 0, []), (34, 3, .invokevirtual 84, 0, 0, 0, []), (37, 1, .istore_n 1, 1, 0, 0, []), (38, 1, .iload_n 1, 1, 0, 0, []), (39, 1, .iconst (-1), 1, 0, 0, []), (40, 3, .if_icmp .ne 7, 47, 0, 0, []), (43, 1, .iconst (-1), 1, 0, 0, []), (44, 3, .goto 8, 52, 0, 0, []), (47, 1, .aload_n 0, 0, 0, 0, []), (48, 1, .iconst 4, 4, 0, 0, []), (49, 3, .invokevirtual 60, 1, 0, 0, []), (52, 1, .istore_n 2, 2, 0, 0, []), (53, 1, .iload_n 2, 2, 0, 0, []), (54, 1, .iconst (-1), 1, 0, 0, []), (55, 3, .if_icmp .ne 7, 62, 0, 0, []), (58, 1, .iconst (-1), 1, 0, 0, []), (59, 3, .goto 8, 67, 0, 0, []), (62, 1, .aload_n 0, 0, 0, 0, []), (63, 1, .iconst 4, 4, 0, 0, []), (64, 3, .invokevirtual 60, 1, 0, 0, []), (67, 1, .istore_n 3, 3, 0, 0, []), (68, 1, .iload_n 3, 3, 0, 0, []), (69, 1, .iconst (-1), 1, 0, 0, []), (70, 3, .if_icmp .ne 5, 75, 0, 0, []), (73, 1, .iconst 0, 0, 0, 0, []), (74, 1, .ireturn, 0, 0, 0, []), (75, 1, .aload_n 0, 0, 0, 0, []), (76, 1, .aload_n 0, 0, 0, 0, []), (77, 3, .getfield 39, 4, 2, 0, []), (80, 1, .aload_n 0, 0, 0, 0, []), (81, 3, .getfield 18, 4, 1, 0, []), (84, 3, .getfield 67, 3, 1, 1, []), (87, 1, .iload_n 1, 1, 0, 0, []), (88, 3, .invokestatic 100, 2, 0, 0, []), (91, 3, .putfield 39, 4, 2, 0, []), (94, 1, .aload_n 0, 0, 0, 0, []), (95, 1, .aload_n 0, 0, 0, 0, []), (96, 3, .getfield 39, 4, 2, 0, []), (99, 1, .aload_n 0, 0, 0, 0, []), (100, 3, .getfield 18, 4, 1, 0, []), (103, 3, .getfield 67, 3, 1, 1, []), (106, 1, .iload_n 2, 2, 0, 0, []), (107, 3, .invokestatic 103, 3, 0, 0, []), (110, 3, .putfield 39, 4, 2, 0, []), (113, 1, .aload_n 0, 0, 0, 0, []), (114, 3, .getfield 18, 4, 1, 0, []), (117, 1, .iload_n 3, 3, 0, 0, []), (118, 3, .invokevirtual 106, 4, 0, 0, []), (121, 1, .iconst 1, 1, 0, 0, []), (122, 1, .ireturn, 0, 0, 0, [])]
def mX6_readLoad : xM := (yX6_readLoad, cX6_readLoad, 4, (some FieldType.boolean), 0, 0, 4, 3, 65, 0, pX6_readLoad)
theorem dX6_readLoad : xDec cX6_readLoad pX6_readLoad = true := by decide +kernel
theorem hX6_readLoad : xHd mX6_readLoad := ⟨xg (w := (Jvm.Cond.code ({ cls := "SmellBurdens$Reader", name := "readLoad", desc := "()Z" } : Jvm.MethodName) prog_8_method_8_code (4 : Nat) (Option.some Jvm.ClassFile.FieldType.boolean))) (xt2 (List.mem_of_getElem? (i := 93) (by decide +kernel))) rfl, xg (w := (Jvm.Cond.initialized "SmellBurdens$Reader")) (xt1 (List.mem_of_getElem? (i := 4) (by decide +kernel))) rfl, ⟨by decide +kernel, by decide +kernel, by decide +kernel⟩, xg (w := (Jvm.Cond.instanceMethod ({ cls := "SmellBurdens$Reader", name := "readLoad", desc := "()Z" } : Jvm.MethodName))) (xt2 (List.mem_of_getElem? (i := 92) (by decide +kernel))) rfl, xg (w := (Jvm.Cond.selects "SmellBurdens$Reader" ({ cls := "SmellBurdens$Reader", name := "readLoad", desc := "()Z" } : Jvm.MethodName) ({ cls := "SmellBurdens$Reader", name := "readLoad", desc := "()Z" } : Jvm.MethodName))) (xsl (List.mem_of_getElem? (i := 7) (by decide +kernel))) rfl, rfl⟩
def pX6_readFigure : List xE := [(0, 1, .aload_n 0, 0, 0, 0, []), (1, 3, .invokevirtual 53, 0, 0, 0, []), (4, 2, .bipush 48, 48, 0, 0, []), (6, 1, .isub, 0, 0, 0, []), (7, 1, .istore_n 2, 2, 0, 0, []), (8, 1, .iload_n 2, 2, 0, 0, []), (9, 3, .ifCond .lt 8, 17, 0, 0, []), (12, 1, .iload_n 2, 2, 0, 0, []), (13, 1, .iload_n 1, 1, 0, 0, []), (14, 3, .if_icmp .le 5, 19, 0, 0, []), (17, 1, .iconst (-1), 1, 0, 0, []), (18, 1, .ireturn, 0, 0, 0, []), (19, 1, .aload_n 0, 0, 0, 0, []), (20, 1, .dup, 0, 0, 0, []), (21, 3, .getfield 36, 4, 4, 0, []), (24, 1, .iconst 1, 1, 0, 0, []), (25, 1, .iadd, 0, 0, 0, []), (26, 3, .putfield 36, 4, 4, 0, []), (29, 1, .iload_n 2, 2, 0, 0, []), (30, 1, .ireturn, 0, 0, 0, [])]
def mX6_readFigure : xM := (yX6_readFigure, cX6_readFigure, 3, (some FieldType.int), 0, 1, 4, 1, 20, 0, pX6_readFigure)
theorem dX6_readFigure : xDec cX6_readFigure pX6_readFigure = true := by decide +kernel
theorem hX6_readFigure : xHd mX6_readFigure := ⟨xg (w := (Jvm.Cond.code ({ cls := "SmellBurdens$Reader", name := "readFigure", desc := "(I)I" } : Jvm.MethodName) prog_8_method_9_code (3 : Nat) (Option.some Jvm.ClassFile.FieldType.int))) (xt2 (List.mem_of_getElem? (i := 81) (by decide +kernel))) rfl, xg (w := (Jvm.Cond.initialized "SmellBurdens$Reader")) (xt1 (List.mem_of_getElem? (i := 4) (by decide +kernel))) rfl, ⟨by decide +kernel, by decide +kernel, by decide +kernel⟩, xg (w := (Jvm.Cond.instanceMethod ({ cls := "SmellBurdens$Reader", name := "readFigure", desc := "(I)I" } : Jvm.MethodName))) (xt2 (List.mem_of_getElem? (i := 80) (by decide +kernel))) rfl, xg (w := (Jvm.Cond.selects "SmellBurdens$Reader" ({ cls := "SmellBurdens$Reader", name := "readFigure", desc := "(I)I" } : Jvm.MethodName) ({ cls := "SmellBurdens$Reader", name := "readFigure", desc := "(I)I" } : Jvm.MethodName))) (xsl (List.mem_of_getElem? (i := 5) (by decide +kernel))) rfl, rfl⟩
def pX6_readSet : List xE := [(0, 1, .aload_n 0, 0, 0, 0, []), (1, 2, .bipush 9, 9, 0, 0, []), (3, 3, .invokevirtual 60, 0, 0, 0, []), (6, 1, .istore_n 1, 1, 0, 0, []), (7, 1, .iload_n 1, 1, 0, 0, []), (8, 1, .iconst (-1), 1, 0, 0, []), (9, 3, .if_icmp .ne 7, 16, 0, 0, []), (12, 1, .iconst (-1), 1, 0, 0, []), (13, 3, .goto 9, 22, 0, 0, []), (16, 1, .aload_n 0, 0, 0, 0, []), (17, 2, .bipush 9, 9, 0, 0, []), (19, 3, .invokevirtual 60, 0, 0, 0, []), (22, 1, .istore_n 2, 2, 0, 0, []), (23, 1, .iload_n 2, 2, 0, 0, []), (24, 1, .iconst (-1), 1, 0, 0, []), (25, 3, .if_icmp .ne 5, 30, 0, 0, []), (28, 1, .iconst (-1), 1, 0, 0, []), (29, 1, .ireturn, 0, 0, 0, []), (30, 2, .bipush 10, 10, 0, 0, []), (32, 1, .iload_n 1, 1, 0, 0, []), (33, 1, .imul, 0, 0, 0, []), (34, 1, .iload_n 2, 2, 0, 0, []), (35, 1, .iadd, 0, 0, 0, []), (36, 1, .istore_n 3, 3, 0, 0, []), (37, 1, .iload_n 3, 3, 0, 0, []), (38, 2, .bipush 16, 16, 0, 0, []), (40, 3, .if_icmp .ge 5, 45, 0, 0, []), (43, 1, .iload_n 3, 3, 0, 0, []), (44, 1, .ireturn, 0, 0, 0, []), (45, 1, .aload_n 0, 0, 0, 0, []), (46, 1, .dup, 0, 0, 0, []), (47, 3, .getfield 36, 4, 4, 0, []), (50, 1, .iconst 2, 2, 0, 0, []), (51, 1, .isub, 0, 0, 0, []), (52, 3, .putfield 36, 4, 4, 0, []), (55, 1, .iconst (-1), 1, 0, 0, []), (56, 1, .ireturn, 0, 0, 0, [])]
def mX6_readSet : xM := (yX6_readSet, cX6_readSet, 4, (some FieldType.int), 0, 0, 4, 2, 42, 0, pX6_readSet)
theorem dX6_readSet : xDec cX6_readSet pX6_readSet = true := by decide +kernel
theorem hX6_readSet : xHd mX6_readSet := ⟨xg (w := (Jvm.Cond.code ({ cls := "SmellBurdens$Reader", name := "readSet", desc := "()I" } : Jvm.MethodName) prog_8_method_10_code (4 : Nat) (Option.some Jvm.ClassFile.FieldType.int))) (xt2 (List.mem_of_getElem? (i := 97) (by decide +kernel))) rfl, xg (w := (Jvm.Cond.initialized "SmellBurdens$Reader")) (xt1 (List.mem_of_getElem? (i := 4) (by decide +kernel))) rfl, ⟨by decide +kernel, by decide +kernel, by decide +kernel⟩, xg (w := (Jvm.Cond.instanceMethod ({ cls := "SmellBurdens$Reader", name := "readSet", desc := "()I" } : Jvm.MethodName))) (xt2 (List.mem_of_getElem? (i := 96) (by decide +kernel))) rfl, xg (w := (Jvm.Cond.selects "SmellBurdens$Reader" ({ cls := "SmellBurdens$Reader", name := "readSet", desc := "()I" } : Jvm.MethodName) ({ cls := "SmellBurdens$Reader", name := "readSet", desc := "()I" } : Jvm.MethodName))) (xsl (List.mem_of_getElem? (i := 8) (by decide +kernel))) rfl, rfl⟩
theorem wdX7_11 : (Jvm.Cond.methodLink "SmellBurdens$Scene" (11 : Nat) ({ cls := "SmellBurdens$Scene", name := "part", desc := "(JII)I" } : Jvm.MethodName)) ∈ xG := xg (xt2 (List.mem_of_getElem? (i := 164) (by decide +kernel))) rfl
def pX7_memoryOf : List xE := [(0, 1, .lload_n 0, 0, 0, 0, []), (1, 2, .bipush 7, 7, 0, 0, []), (3, 1, .iload_n 2, 2, 0, 0, []), (4, 1, .imul, 0, 0, 0, []), (5, 2, .bipush 15, 15, 0, 0, []), (7, 3, .invokestatic 11, 0, 0, 0, []), (10, 1, .ireturn, 0, 0, 0, [])]
def mX7_memoryOf : xM := (yX7_memoryOf, cX7_memoryOf, 3, (some FieldType.int), 1, 2, 0, 1, 23, 0, pX7_memoryOf)
theorem dX7_memoryOf : xDec cX7_memoryOf pX7_memoryOf = true := by decide +kernel
theorem hX7_memoryOf : xHd mX7_memoryOf := ⟨xg (w := (Jvm.Cond.code ({ cls := "SmellBurdens$Scene", name := "memoryOf", desc := "(JI)I" } : Jvm.MethodName) prog_9_method_2_code (3 : Nat) (Option.some Jvm.ClassFile.FieldType.int))) (xt2 (List.mem_of_getElem? (i := 163) (by decide +kernel))) rfl, xg (w := (Jvm.Cond.initialized "SmellBurdens$Scene")) (xt1 (List.mem_of_getElem? (i := 12) (by decide +kernel))) rfl, ⟨by decide +kernel, by decide +kernel, by decide +kernel⟩, xg (w := (Jvm.Cond.static ({ cls := "SmellBurdens$Scene", name := "memoryOf", desc := "(JI)I" } : Jvm.MethodName))) (xt2 (List.mem_of_getElem? (i := 162) (by decide +kernel))) rfl⟩
def pX7_innOf : List xE := [(0, 1, .lload_n 0, 0, 0, 0, []), (1, 2, .bipush 7, 7, 0, 0, []), (3, 1, .iload_n 2, 2, 0, 0, []), (4, 1, .imul, 0, 0, 0, []), (5, 1, .iconst 4, 4, 0, 0, []), (6, 1, .iadd, 0, 0, 0, []), (7, 2, .bipush 7, 7, 0, 0, []), (9, 3, .invokestatic 11, 0, 0, 0, []), (12, 1, .ireturn, 0, 0, 0, [])]
def mX7_innOf : xM := (yX7_innOf, cX7_innOf, 3, (some FieldType.int), 1, 2, 0, 1, 23, 0, pX7_innOf)
theorem dX7_innOf : xDec cX7_innOf pX7_innOf = true := by decide +kernel
theorem hX7_innOf : xHd mX7_innOf := ⟨xg (w := (Jvm.Cond.code ({ cls := "SmellBurdens$Scene", name := "innOf", desc := "(JI)I" } : Jvm.MethodName) prog_9_method_3_code (3 : Nat) (Option.some Jvm.ClassFile.FieldType.int))) (xt2 (List.mem_of_getElem? (i := 169) (by decide +kernel))) rfl, xg (w := (Jvm.Cond.initialized "SmellBurdens$Scene")) (xt1 (List.mem_of_getElem? (i := 12) (by decide +kernel))) rfl, ⟨by decide +kernel, by decide +kernel, by decide +kernel⟩, xg (w := (Jvm.Cond.static ({ cls := "SmellBurdens$Scene", name := "innOf", desc := "(JI)I" } : Jvm.MethodName))) (xt2 (List.mem_of_getElem? (i := 168) (by decide +kernel))) rfl⟩
def pX7_marksOf : List xE := [(0, 1, .lload_n 0, 0, 0, 0, []), (1, 2, .bipush 28, 28, 0, 0, []), (3, 2, .bipush 7, 7, 0, 0, []), (5, 1, .iload_n 2, 2, 0, 0, []), (6, 1, .imul, 0, 0, 0, []), (7, 1, .iadd, 0, 0, 0, []), (8, 2, .bipush 15, 15, 0, 0, []), (10, 3, .invokestatic 11, 0, 0, 0, []), (13, 1, .ireturn, 0, 0, 0, [])]
def mX7_marksOf : xM := (yX7_marksOf, cX7_marksOf, 3, (some FieldType.int), 1, 2, 0, 1, 23, 0, pX7_marksOf)
theorem dX7_marksOf : xDec cX7_marksOf pX7_marksOf = true := by decide +kernel
theorem hX7_marksOf : xHd mX7_marksOf := ⟨xg (w := (Jvm.Cond.code ({ cls := "SmellBurdens$Scene", name := "marksOf", desc := "(JI)I" } : Jvm.MethodName) prog_9_method_4_code (3 : Nat) (Option.some Jvm.ClassFile.FieldType.int))) (xt2 (List.mem_of_getElem? (i := 197) (by decide +kernel))) rfl, xg (w := (Jvm.Cond.initialized "SmellBurdens$Scene")) (xt1 (List.mem_of_getElem? (i := 12) (by decide +kernel))) rfl, ⟨by decide +kernel, by decide +kernel, by decide +kernel⟩, xg (w := (Jvm.Cond.static ({ cls := "SmellBurdens$Scene", name := "marksOf", desc := "(JI)I" } : Jvm.MethodName))) (xt2 (List.mem_of_getElem? (i := 196) (by decide +kernel))) rfl⟩
def pX7_placeOf : List xE := [(0, 1, .lload_n 0, 0, 0, 0, []), (1, 2, .bipush 28, 28, 0, 0, []), (3, 2, .bipush 7, 7, 0, 0, []), (5, 1, .iload_n 2, 2, 0, 0, []), (6, 1, .imul, 0, 0, 0, []), (7, 1, .iadd, 0, 0, 0, []), (8, 1, .iconst 4, 4, 0, 0, []), (9, 1, .iadd, 0, 0, 0, []), (10, 2, .bipush 7, 7, 0, 0, []), (12, 3, .invokestatic 11, 0, 0, 0, []), (15, 1, .ireturn, 0, 0, 0, [])]
def mX7_placeOf : xM := (yX7_placeOf, cX7_placeOf, 3, (some FieldType.int), 1, 2, 0, 1, 23, 0, pX7_placeOf)
theorem dX7_placeOf : xDec cX7_placeOf pX7_placeOf = true := by decide +kernel
theorem hX7_placeOf : xHd mX7_placeOf := ⟨xg (w := (Jvm.Cond.code ({ cls := "SmellBurdens$Scene", name := "placeOf", desc := "(JI)I" } : Jvm.MethodName) prog_9_method_5_code (3 : Nat) (Option.some Jvm.ClassFile.FieldType.int))) (xt2 (List.mem_of_getElem? (i := 187) (by decide +kernel))) rfl, xg (w := (Jvm.Cond.initialized "SmellBurdens$Scene")) (xt1 (List.mem_of_getElem? (i := 12) (by decide +kernel))) rfl, ⟨by decide +kernel, by decide +kernel, by decide +kernel⟩, xg (w := (Jvm.Cond.static ({ cls := "SmellBurdens$Scene", name := "placeOf", desc := "(JI)I" } : Jvm.MethodName))) (xt2 (List.mem_of_getElem? (i := 186) (by decide +kernel))) rfl⟩
theorem wdX7_15 : (Jvm.Cond.methodLink "SmellBurdens$Scene" (15 : Nat) ({ cls := "SmellBurdens$Scene", name := "withPart", desc := "(JIII)J" } : Jvm.MethodName)) ∈ xG := xg (xt2 (List.mem_of_getElem? (i := 101) (by decide +kernel))) rfl
def pX7_withMemory : List xE := [(0, 1, .lload_n 0, 0, 0, 0, []), (1, 2, .bipush 7, 7, 0, 0, []), (3, 1, .iload_n 2, 2, 0, 0, []), (4, 1, .imul, 0, 0, 0, []), (5, 2, .bipush 15, 15, 0, 0, []), (7, 1, .iload_n 3, 3, 0, 0, []), (8, 3, .invokestatic 15, 0, 0, 0, []), (11, 1, .lreturn, 0, 0, 0, [])]
def mX7_withMemory : xM := (yX7_withMemory, cX7_withMemory, 4, (some FieldType.long), 1, 3, 0, 1, 24, 0, pX7_withMemory)
theorem dX7_withMemory : xDec cX7_withMemory pX7_withMemory = true := by decide +kernel
theorem hX7_withMemory : xHd mX7_withMemory := ⟨xg (w := (Jvm.Cond.code ({ cls := "SmellBurdens$Scene", name := "withMemory", desc := "(JII)J" } : Jvm.MethodName) prog_9_method_6_code (4 : Nat) (Option.some Jvm.ClassFile.FieldType.long))) (xt2 (List.mem_of_getElem? (i := 121) (by decide +kernel))) rfl, xg (w := (Jvm.Cond.initialized "SmellBurdens$Scene")) (xt1 (List.mem_of_getElem? (i := 12) (by decide +kernel))) rfl, ⟨by decide +kernel, by decide +kernel, by decide +kernel⟩, xg (w := (Jvm.Cond.static ({ cls := "SmellBurdens$Scene", name := "withMemory", desc := "(JII)J" } : Jvm.MethodName))) (xt2 (List.mem_of_getElem? (i := 120) (by decide +kernel))) rfl⟩
def pX7_withInn : List xE := [(0, 1, .lload_n 0, 0, 0, 0, []), (1, 2, .bipush 7, 7, 0, 0, []), (3, 1, .iload_n 2, 2, 0, 0, []), (4, 1, .imul, 0, 0, 0, []), (5, 1, .iconst 4, 4, 0, 0, []), (6, 1, .iadd, 0, 0, 0, []), (7, 2, .bipush 7, 7, 0, 0, []), (9, 1, .iload_n 3, 3, 0, 0, []), (10, 3, .invokestatic 15, 0, 0, 0, []), (13, 1, .lreturn, 0, 0, 0, [])]
def mX7_withInn : xM := (yX7_withInn, cX7_withInn, 4, (some FieldType.long), 1, 3, 0, 1, 24, 0, pX7_withInn)
theorem dX7_withInn : xDec cX7_withInn pX7_withInn = true := by decide +kernel
theorem hX7_withInn : xHd mX7_withInn := ⟨xg (w := (Jvm.Cond.code ({ cls := "SmellBurdens$Scene", name := "withInn", desc := "(JII)J" } : Jvm.MethodName) prog_9_method_7_code (4 : Nat) (Option.some Jvm.ClassFile.FieldType.long))) (xt2 (List.mem_of_getElem? (i := 124) (by decide +kernel))) rfl, xg (w := (Jvm.Cond.initialized "SmellBurdens$Scene")) (xt1 (List.mem_of_getElem? (i := 12) (by decide +kernel))) rfl, ⟨by decide +kernel, by decide +kernel, by decide +kernel⟩, xg (w := (Jvm.Cond.static ({ cls := "SmellBurdens$Scene", name := "withInn", desc := "(JII)J" } : Jvm.MethodName))) (xt2 (List.mem_of_getElem? (i := 123) (by decide +kernel))) rfl⟩
def pX7_withMarks : List xE := [(0, 1, .lload_n 0, 0, 0, 0, []), (1, 2, .bipush 28, 28, 0, 0, []), (3, 2, .bipush 7, 7, 0, 0, []), (5, 1, .iload_n 2, 2, 0, 0, []), (6, 1, .imul, 0, 0, 0, []), (7, 1, .iadd, 0, 0, 0, []), (8, 2, .bipush 15, 15, 0, 0, []), (10, 1, .iload_n 3, 3, 0, 0, []), (11, 3, .invokestatic 15, 0, 0, 0, []), (14, 1, .lreturn, 0, 0, 0, [])]
def mX7_withMarks : xM := (yX7_withMarks, cX7_withMarks, 4, (some FieldType.long), 1, 3, 0, 1, 24, 0, pX7_withMarks)
theorem dX7_withMarks : xDec cX7_withMarks pX7_withMarks = true := by decide +kernel
theorem hX7_withMarks : xHd mX7_withMarks := ⟨xg (w := (Jvm.Cond.code ({ cls := "SmellBurdens$Scene", name := "withMarks", desc := "(JII)J" } : Jvm.MethodName) prog_9_method_8_code (4 : Nat) (Option.some Jvm.ClassFile.FieldType.long))) (xt2 (List.mem_of_getElem? (i := 100) (by decide +kernel))) rfl, xg (w := (Jvm.Cond.initialized "SmellBurdens$Scene")) (xt1 (List.mem_of_getElem? (i := 12) (by decide +kernel))) rfl, ⟨by decide +kernel, by decide +kernel, by decide +kernel⟩, xg (w := (Jvm.Cond.static ({ cls := "SmellBurdens$Scene", name := "withMarks", desc := "(JII)J" } : Jvm.MethodName))) (xt2 (List.mem_of_getElem? (i := 99) (by decide +kernel))) rfl⟩
def pX7_withPlace : List xE := [(0, 1, .lload_n 0, 0, 0, 0, []), (1, 2, .bipush 28, 28, 0, 0, []), (3, 2, .bipush 7, 7, 0, 0, []), (5, 1, .iload_n 2, 2, 0, 0, []), (6, 1, .imul, 0, 0, 0, []), (7, 1, .iadd, 0, 0, 0, []), (8, 1, .iconst 4, 4, 0, 0, []), (9, 1, .iadd, 0, 0, 0, []), (10, 2, .bipush 7, 7, 0, 0, []), (12, 1, .iload_n 3, 3, 0, 0, []), (13, 3, .invokestatic 15, 0, 0, 0, []), (16, 1, .lreturn, 0, 0, 0, [])]
def mX7_withPlace : xM := (yX7_withPlace, cX7_withPlace, 4, (some FieldType.long), 1, 3, 0, 1, 24, 0, pX7_withPlace)
theorem dX7_withPlace : xDec cX7_withPlace pX7_withPlace = true := by decide +kernel
theorem hX7_withPlace : xHd mX7_withPlace := ⟨xg (w := (Jvm.Cond.code ({ cls := "SmellBurdens$Scene", name := "withPlace", desc := "(JII)J" } : Jvm.MethodName) prog_9_method_9_code (4 : Nat) (Option.some Jvm.ClassFile.FieldType.long))) (xt2 (List.mem_of_getElem? (i := 107) (by decide +kernel))) rfl, xg (w := (Jvm.Cond.initialized "SmellBurdens$Scene")) (xt1 (List.mem_of_getElem? (i := 12) (by decide +kernel))) rfl, ⟨by decide +kernel, by decide +kernel, by decide +kernel⟩, xg (w := (Jvm.Cond.static ({ cls := "SmellBurdens$Scene", name := "withPlace", desc := "(JII)J" } : Jvm.MethodName))) (xt2 (List.mem_of_getElem? (i := 106) (by decide +kernel))) rfl⟩
def pX7_part : List xE := [(0, 1, .lload_n 0, 0, 0, 0, []), (1, 1, .iload_n 2, 2, 0, 0, []), (2, 1, .lushr, 0, 0, 0, []), (3, 1, .l2i, 0, 0, 0, []), (4, 1, .iload_n 3, 3, 0, 0, []), (5, 1, .iand, 0, 0, 0, []), (6, 1, .ireturn, 0, 0, 0, [])]
def mX7_part : xM := (yX7_part, cX7_part, 4, (some FieldType.int), 1, 3, 0, 0, 0, 0, pX7_part)
theorem dX7_part : xDec cX7_part pX7_part = true := by decide +kernel
theorem hX7_part : xHd mX7_part := ⟨xg (w := (Jvm.Cond.code ({ cls := "SmellBurdens$Scene", name := "part", desc := "(JII)I" } : Jvm.MethodName) prog_9_method_10_code (4 : Nat) (Option.some Jvm.ClassFile.FieldType.int))) (xt2 (List.mem_of_getElem? (i := 166) (by decide +kernel))) rfl, xg (w := (Jvm.Cond.initialized "SmellBurdens$Scene")) (xt1 (List.mem_of_getElem? (i := 12) (by decide +kernel))) rfl, ⟨by decide +kernel, by decide +kernel, by decide +kernel⟩, xg (w := (Jvm.Cond.static ({ cls := "SmellBurdens$Scene", name := "part", desc := "(JII)I" } : Jvm.MethodName))) (xt2 (List.mem_of_getElem? (i := 165) (by decide +kernel))) rfl⟩
theorem wdX7_19 : (Jvm.Cond.constantLong "SmellBurdens$Scene" (19 : Nat) (-1 : Int64)) ∈ xG := xg (xt2 (List.mem_of_getElem? (i := 104) (by decide +kernel))) rfl
def pX7_withPart : List xE := [(0, 1, .lload_n 0, 0, 0, 0, []), (1, 1, .iload_n 3, 3, 0, 0, []), (2, 1, .i2l, 0, 0, 0, []), (3, 1, .iload_n 2, 2, 0, 0, []), (4, 1, .lshl, 0, 0, 0, []), (5, 3, .ldc2_w 19, 1, 0, 1, []), (8, 1, .lxor, 0, 0, 0, []), (9, 1, .land, 0, 0, 0, []), (10, 2, .iload 4, 4, 0, 0, []), (12, 1, .iload_n 3, 3, 0, 0, []), (13, 1, .iand, 0, 0, 0, []), (14, 1, .i2l, 0, 0, 0, []), (15, 1, .iload_n 2, 2, 0, 0, []), (16, 1, .lshl, 0, 0, 0, []), (17, 1, .lor, 0, 0, 0, []), (18, 1, .lreturn, 0, 0, 0, [])]
def mX7_withPart : xM := (yX7_withPart, cX7_withPart, 5, (some FieldType.long), 1, 4, 0, 0, 0, 0, pX7_withPart)
theorem dX7_withPart : xDec cX7_withPart pX7_withPart = true := by decide +kernel
theorem hX7_withPart : xHd mX7_withPart := ⟨xg (w := (Jvm.Cond.code ({ cls := "SmellBurdens$Scene", name := "withPart", desc := "(JIII)J" } : Jvm.MethodName) prog_9_method_11_code (5 : Nat) (Option.some Jvm.ClassFile.FieldType.long))) (xt2 (List.mem_of_getElem? (i := 103) (by decide +kernel))) rfl, xg (w := (Jvm.Cond.initialized "SmellBurdens$Scene")) (xt1 (List.mem_of_getElem? (i := 12) (by decide +kernel))) rfl, ⟨by decide +kernel, by decide +kernel, by decide +kernel⟩, xg (w := (Jvm.Cond.static ({ cls := "SmellBurdens$Scene", name := "withPart", desc := "(JIII)J" } : Jvm.MethodName))) (xt2 (List.mem_of_getElem? (i := 102) (by decide +kernel))) rfl⟩
theorem wdX8_3 : (Jvm.Cond.methodLink "SmellBurdens$Shelf" (3 : Nat) ({ cls := "java/lang/Object", name := "<init>", desc := "()V" } : Jvm.MethodName)) ∈ xG := xg (xt1 (List.mem_of_getElem? (i := 30) (by decide +kernel))) rfl
theorem wdX8_9 : (Jvm.Cond.methodLink "SmellBurdens$Shelf" (9 : Nat) ({ cls := "java/lang/Math", name := "max", desc := "(II)I" } : Jvm.MethodName)) ∈ xG := xg (xt1 (List.mem_of_getElem? (i := 31) (by decide +kernel))) rfl
theorem wdX8_15 : (Jvm.Cond.fieldLink "SmellBurdens$Shelf" (15 : Nat) "SmellBurdens$Shelf" "most" "I") ∈ xG := xg (xt1 (List.mem_of_getElem? (i := 34) (by decide +kernel))) rfl
theorem wdX8_21 : (Jvm.Cond.fieldLink "SmellBurdens$Shelf" (21 : Nat) "SmellBurdens$Shelf" "sizes" "[I") ∈ xG := xg (xt1 (List.mem_of_getElem? (i := 35) (by decide +kernel))) rfl
theorem wdX8_25 : (Jvm.Cond.fieldLink "SmellBurdens$Shelf" (25 : Nat) "SmellBurdens$Shelf" "cells" "[I") ∈ xG := xg (xt1 (List.mem_of_getElem? (i := 36) (by decide +kernel))) rfl
def pX8_init : List xE := [(0, 1, .aload_n 0, 0, 0, 0, []), (1, 3, .invokespecial 3, 0, 0, 1, []), (4, 1, .aload_n 0, 0, 0, 0, []), (5, 1, .iconst 0, 0, 0, 0, []), (6, 1, .iload_n 2, 2, 0, 0, []), (7, 3, .invokestatic 9, 0, 0, 1, []), (10, 3, .putfield 15, 5, 0, 0, []), (13, 1, .aload_n 0, 0, 0, 0, []), (14, 1, .iconst 0, 0, 0, 0, []), (15, 1, .iload_n 1, 1, 0, 0, []), (16, 3, .invokestatic 9, 0, 0, 1, []), (19, 2, .newarray .int, 0, 0, 1, []), (21, 3, .putfield 21, 5, 1, 0, []), (24, 1, .aload_n 0, 0, 0, 0, []), (25, 1, .iconst 0, 0, 0, 0, []), (26, 1, .aload_n 0, 0, 0, 0, []), (27, 3, .getfield 21, 5, 1, 0, []), (30, 1, .arraylength, 0, 0, 0, []), (31, 1, .aload_n 0, 0, 0, 0, []), (32, 3, .getfield 15, 5, 0, 0, []), (35, 1, .imul, 0, 0, 0, []), (36, 3, .invokestatic 9, 0, 0, 1, []), (39, 2, .newarray .int, 0, 0, 1, []), (41, 3, .putfield 25, 5, 2, 0, []), (44, 1, .iconst 0, 0, 0, 0, []), (45, 1, .istore_n 3, 3, 0, 0, []), (46, 1, .iload_n 3, 3, 0, 0, []), (47, 1, .aload_n 0, 0, 0, 0, []), (48, 3, .getfield 21, 5, 1, 0, []), (51, 1, .arraylength, 0, 0, 0, []), (52, 3, .if_icmp .ge 16, 68, 0, 0, []), (55, 1, .aload_n 0, 0, 0, 0, []), (56, 3, .getfield 21, 5, 1, 0, []), (59, 1, .iload_n 3, 3, 0, 0, []), (60, 1, .iconst (-1), 1, 0, 0, []), (61, 1, .iastore, 0, 0, 0, []), (62, 3, .iinc 3 1, 3, 1, 0, []), (65, 3, .goto (-19), 46, 0, 0, []), (68, 1, .return_, 0, 0, 0, [])]
def mX8_init : xM := (yX8_init, cX8_init, 4, (none : Option FieldType), 2, 2, 5, 1, 21, 2, pX8_init)
theorem dX8_init : xDec cX8_init pX8_init = true := by decide +kernel
theorem hX8_init : xHd mX8_init := ⟨xg (w := (Jvm.Cond.code ({ cls := "SmellBurdens$Shelf", name := "<init>", desc := "(II)V" } : Jvm.MethodName) prog_10_method_1_code (4 : Nat) (Option.none : Option Jvm.ClassFile.FieldType))) (xt1 (List.mem_of_getElem? (i := 29) (by decide +kernel))) rfl, xg (w := (Jvm.Cond.initialized "SmellBurdens$Shelf")) (xt1 (List.mem_of_getElem? (i := 2) (by decide +kernel))) rfl, ⟨by decide +kernel, by decide +kernel, by decide +kernel⟩, xg (w := (Jvm.Cond.instanceMethod ({ cls := "SmellBurdens$Shelf", name := "<init>", desc := "(II)V" } : Jvm.MethodName))) (xt1 (List.mem_of_getElem? (i := 28) (by decide +kernel))) rfl, rfl, rfl⟩
def pX8_isNumber : List xE := [(0, 1, .iload_n 1, 1, 0, 0, []), (1, 3, .ifCond .lt 16, 17, 0, 0, []), (4, 1, .iload_n 1, 1, 0, 0, []), (5, 1, .aload_n 0, 0, 0, 0, []), (6, 3, .getfield 21, 5, 1, 0, []), (9, 1, .arraylength, 0, 0, 0, []), (10, 3, .if_icmp .ge 7, 17, 0, 0, []), (13, 1, .iconst 1, 1, 0, 0, []), (14, 3, .goto 4, 18, 0, 0, []), (17, 1, .iconst 0, 0, 0, 0, []), (18, 1, .ireturn, 0, 0, 0, [])]
def mX8_isNumber : xM := (yX8_isNumber, cX8_isNumber, 2, (some FieldType.boolean), 0, 1, 5, 0, 0, 0, pX8_isNumber)
theorem dX8_isNumber : xDec cX8_isNumber pX8_isNumber = true := by decide +kernel
theorem hX8_isNumber : xHd mX8_isNumber := ⟨xg (w := (Jvm.Cond.code ({ cls := "SmellBurdens$Shelf", name := "isNumber", desc := "(I)Z" } : Jvm.MethodName) prog_10_method_2_code (2 : Nat) (Option.some Jvm.ClassFile.FieldType.boolean))) (xt1 (List.mem_of_getElem? (i := 207) (by decide +kernel))) rfl, xg (w := (Jvm.Cond.initialized "SmellBurdens$Shelf")) (xt1 (List.mem_of_getElem? (i := 2) (by decide +kernel))) rfl, ⟨by decide +kernel, by decide +kernel, by decide +kernel⟩, xg (w := (Jvm.Cond.instanceMethod ({ cls := "SmellBurdens$Shelf", name := "isNumber", desc := "(I)Z" } : Jvm.MethodName))) (xt1 (List.mem_of_getElem? (i := 205) (by decide +kernel))) rfl, xg (w := (Jvm.Cond.selects "SmellBurdens$Shelf" ({ cls := "SmellBurdens$Shelf", name := "isNumber", desc := "(I)Z" } : Jvm.MethodName) ({ cls := "SmellBurdens$Shelf", name := "isNumber", desc := "(I)Z" } : Jvm.MethodName))) (xt1 (List.mem_of_getElem? (i := 206) (by decide +kernel))) rfl, rfl⟩
def pX8_sizeOf : List xE := [(0, 1, .iload_n 1, 1, 0, 0, []), (1, 3, .ifCond .lt 21, 22, 0, 0, []), (4, 1, .iload_n 1, 1, 0, 0, []), (5, 1, .aload_n 0, 0, 0, 0, []), (6, 3, .getfield 21, 5, 1, 0, []), (9, 1, .arraylength, 0, 0, 0, []), (10, 3, .if_icmp .ge 12, 22, 0, 0, []), (13, 1, .aload_n 0, 0, 0, 0, []), (14, 3, .getfield 21, 5, 1, 0, []), (17, 1, .iload_n 1, 1, 0, 0, []), (18, 1, .iaload, 0, 0, 0, []), (19, 3, .goto 4, 23, 0, 0, []), (22, 1, .iconst (-1), 1, 0, 0, []), (23, 1, .ireturn, 0, 0, 0, [])]
def mX8_sizeOf : xM := (yX8_sizeOf, cX8_sizeOf, 2, (some FieldType.int), 0, 1, 5, 0, 0, 0, pX8_sizeOf)
theorem dX8_sizeOf : xDec cX8_sizeOf pX8_sizeOf = true := by decide +kernel
theorem hX8_sizeOf : xHd mX8_sizeOf := ⟨xg (w := (Jvm.Cond.code ({ cls := "SmellBurdens$Shelf", name := "sizeOf", desc := "(I)I" } : Jvm.MethodName) prog_10_method_3_code (2 : Nat) (Option.some Jvm.ClassFile.FieldType.int))) (xt1 (List.mem_of_getElem? (i := 231) (by decide +kernel))) rfl, xg (w := (Jvm.Cond.initialized "SmellBurdens$Shelf")) (xt1 (List.mem_of_getElem? (i := 2) (by decide +kernel))) rfl, ⟨by decide +kernel, by decide +kernel, by decide +kernel⟩, xg (w := (Jvm.Cond.instanceMethod ({ cls := "SmellBurdens$Shelf", name := "sizeOf", desc := "(I)I" } : Jvm.MethodName))) (xt1 (List.mem_of_getElem? (i := 229) (by decide +kernel))) rfl, xg (w := (Jvm.Cond.selects "SmellBurdens$Shelf" ({ cls := "SmellBurdens$Shelf", name := "sizeOf", desc := "(I)I" } : Jvm.MethodName) ({ cls := "SmellBurdens$Shelf", name := "sizeOf", desc := "(I)I" } : Jvm.MethodName))) (xt1 (List.mem_of_getElem? (i := 230) (by decide +kernel))) rfl, rfl⟩
theorem wdX8_28 : (Jvm.Cond.methodLink "SmellBurdens$Shelf" (28 : Nat) ({ cls := "SmellBurdens$Shelf", name := "sizeOf", desc := "(I)I" } : Jvm.MethodName)) ∈ xG := xg (xt1 (List.mem_of_getElem? (i := 228) (by decide +kernel))) rfl
def pX8_isThere : List xE := [(0, 1, .aload_n 0, 0, 0, 0, []), (1, 1, .iload_n 1, 1, 0, 0, []), (2, 3, .invokevirtual 28, 0, 0, 0, []), (5, 3, .ifCond .lt 7, 12, 0, 0, []), (8, 1, .iconst 1, 1, 0, 0, []), (9, 3, .goto 4, 13, 0, 0, []), (12, 1, .iconst 0, 0, 0, 0, []), (13, 1, .ireturn, 0, 0, 0, [])]
def mX8_isThere : xM := (yX8_isThere, cX8_isThere, 2, (some FieldType.boolean), 0, 1, 5, 1, 21, 0, pX8_isThere)
theorem dX8_isThere : xDec cX8_isThere pX8_isThere = true := by decide +kernel
theorem hX8_isThere : xHd mX8_isThere := ⟨xg (w := (Jvm.Cond.code ({ cls := "SmellBurdens$Shelf", name := "isThere", desc := "(I)Z" } : Jvm.MethodName) prog_10_method_4_code (2 : Nat) (Option.some Jvm.ClassFile.FieldType.boolean))) (xt2 (List.mem_of_getElem? (i := 3) (by decide +kernel))) rfl, xg (w := (Jvm.Cond.initialized "SmellBurdens$Shelf")) (xt1 (List.mem_of_getElem? (i := 2) (by decide +kernel))) rfl, ⟨by decide +kernel, by decide +kernel, by decide +kernel⟩, xg (w := (Jvm.Cond.instanceMethod ({ cls := "SmellBurdens$Shelf", name := "isThere", desc := "(I)Z" } : Jvm.MethodName))) (xt2 (List.mem_of_getElem? (i := 1) (by decide +kernel))) rfl, xg (w := (Jvm.Cond.selects "SmellBurdens$Shelf" ({ cls := "SmellBurdens$Shelf", name := "isThere", desc := "(I)Z" } : Jvm.MethodName) ({ cls := "SmellBurdens$Shelf", name := "isThere", desc := "(I)Z" } : Jvm.MethodName))) (xt2 (List.mem_of_getElem? (i := 2) (by decide +kernel))) rfl, rfl⟩
def pX8_holds : List xE := [(0, 1, .aload_n 0, 0, 0, 0, []), (1, 1, .iload_n 1, 1, 0, 0, []), (2, 3, .invokevirtual 28, 0, 0, 0, []), (5, 2, .istore 4, 4, 0, 0, []), (7, 1, .iload_n 2, 2, 0, 0, []), (8, 3, .ifCond .lt 25, 33, 0, 0, []), (11, 1, .iload_n 3, 3, 0, 0, []), (12, 3, .ifCond .lt 21, 33, 0, 0, []), (15, 1, .iload_n 2, 2, 0, 0, []), (16, 2, .iload 4, 4, 0, 0, []), (18, 3, .if_icmp .gt 15, 33, 0, 0, []), (21, 1, .iload_n 3, 3, 0, 0, []), (22, 2, .iload 4, 4, 0, 0, []), (24, 1, .iload_n 2, 2, 0, 0, []), (25, 1, .isub, 0, 0, 0, []), (26, 3, .if_icmp .gt 7, 33, 0, 0, []), (29, 1, .iconst 1, 1, 0, 0, []), (30, 3, .goto 4, 34, 0, 0, []), (33, 1, .iconst 0, 0, 0, 0, []), (34, 1, .ireturn, 0, 0, 0, [])]
def mX8_holds : xM := (yX8_holds, cX8_holds, 5, (some FieldType.boolean), 0, 3, 5, 1, 21, 0, pX8_holds)
theorem dX8_holds : xDec cX8_holds pX8_holds = true := by decide +kernel
theorem hX8_holds : xHd mX8_holds := ⟨xg (w := (Jvm.Cond.code ({ cls := "SmellBurdens$Shelf", name := "holds", desc := "(III)Z" } : Jvm.MethodName) prog_10_method_5_code (5 : Nat) (Option.some Jvm.ClassFile.FieldType.boolean))) (xt1 (List.mem_of_getElem? (i := 227) (by decide +kernel))) rfl, xg (w := (Jvm.Cond.initialized "SmellBurdens$Shelf")) (xt1 (List.mem_of_getElem? (i := 2) (by decide +kernel))) rfl, ⟨by decide +kernel, by decide +kernel, by decide +kernel⟩, xg (w := (Jvm.Cond.instanceMethod ({ cls := "SmellBurdens$Shelf", name := "holds", desc := "(III)Z" } : Jvm.MethodName))) (xt1 (List.mem_of_getElem? (i := 225) (by decide +kernel))) rfl, xg (w := (Jvm.Cond.selects "SmellBurdens$Shelf" ({ cls := "SmellBurdens$Shelf", name := "holds", desc := "(III)Z" } : Jvm.MethodName) ({ cls := "SmellBurdens$Shelf", name := "holds", desc := "(III)Z" } : Jvm.MethodName))) (xt1 (List.mem_of_getElem? (i := 226) (by decide +kernel))) rfl, rfl⟩
theorem wdX8_32 : (Jvm.Cond.methodLink "SmellBurdens$Shelf" (32 : Nat) ({ cls := "SmellBurdens$Shelf", name := "isThere", desc := "(I)Z" } : Jvm.MethodName)) ∈ xG := xg (xt2 (List.mem_of_getElem? (i := 0) (by decide +kernel))) rfl
theorem wdX8_36 : (Jvm.Cond.methodLink "SmellBurdens$Shelf" (36 : Nat) ({ cls := "SmellBurdens$Shelf", name := "holds", desc := "(III)Z" } : Jvm.MethodName)) ∈ xG := xg (xt1 (List.mem_of_getElem? (i := 224) (by decide +kernel))) rfl
def pX8_wrongPlace : List xE := [(0, 1, .aload_n 0, 0, 0, 0, []), (1, 1, .iload_n 1, 1, 0, 0, []), (2, 3, .invokevirtual 32, 0, 0, 0, []), (5, 3, .ifCond .ne 5, 10, 0, 0, []), (8, 1, .iconst 1, 1, 0, 0, []), (9, 1, .ireturn, 0, 0, 0, []), (10, 1, .aload_n 0, 0, 0, 0, []), (11, 1, .iload_n 1, 1, 0, 0, []), (12, 1, .iload_n 2, 2, 0, 0, []), (13, 1, .iconst 1, 1, 0, 0, []), (14, 3, .invokevirtual 36, 1, 0, 0, []), (17, 3, .ifCond .eq 7, 24, 0, 0, []), (20, 1, .iconst 0, 0, 0, 0, []), (21, 3, .goto 4, 25, 0, 0, []), (24, 1, .iconst 2, 2, 0, 0, []), (25, 1, .ireturn, 0, 0, 0, [])]
def mX8_wrongPlace : xM := (yX8_wrongPlace, cX8_wrongPlace, 3, (some FieldType.int), 0, 2, 5, 2, 45, 0, pX8_wrongPlace)
theorem dX8_wrongPlace : xDec cX8_wrongPlace pX8_wrongPlace = true := by decide +kernel
theorem hX8_wrongPlace : xHd mX8_wrongPlace := ⟨xg (w := (Jvm.Cond.code ({ cls := "SmellBurdens$Shelf", name := "wrongPlace", desc := "(II)I" } : Jvm.MethodName) prog_10_method_6_code (3 : Nat) (Option.some Jvm.ClassFile.FieldType.int))) (xt1 (List.mem_of_getElem? (i := 239) (by decide +kernel))) rfl, xg (w := (Jvm.Cond.initialized "SmellBurdens$Shelf")) (xt1 (List.mem_of_getElem? (i := 2) (by decide +kernel))) rfl, ⟨by decide +kernel, by decide +kernel, by decide +kernel⟩, xg (w := (Jvm.Cond.instanceMethod ({ cls := "SmellBurdens$Shelf", name := "wrongPlace", desc := "(II)I" } : Jvm.MethodName))) (xt1 (List.mem_of_getElem? (i := 237) (by decide +kernel))) rfl, xg (w := (Jvm.Cond.selects "SmellBurdens$Shelf" ({ cls := "SmellBurdens$Shelf", name := "wrongPlace", desc := "(II)I" } : Jvm.MethodName) ({ cls := "SmellBurdens$Shelf", name := "wrongPlace", desc := "(II)I" } : Jvm.MethodName))) (xt1 (List.mem_of_getElem? (i := 238) (by decide +kernel))) rfl, rfl⟩
theorem wdX8_40 : (Jvm.Cond.methodLink "SmellBurdens$Shelf" (40 : Nat) ({ cls := "SmellBurdens$Shelf", name := "swap", desc := "(III)I" } : Jvm.MethodName)) ∈ xG := xg (xt1 (List.mem_of_getElem? (i := 216) (by decide +kernel))) rfl
def pX8_renew : List xE := [(0, 1, .iload_n 1, 1, 0, 0, []), (1, 3, .ifCond .lt 24, 25, 0, 0, []), (4, 1, .iload_n 1, 1, 0, 0, []), (5, 1, .aload_n 0, 0, 0, 0, []), (6, 3, .getfield 21, 5, 1, 0, []), (9, 1, .arraylength, 0, 0, 0, []), (10, 3, .if_icmp .ge 15, 25, 0, 0, []), (13, 1, .iload_n 2, 2, 0, 0, []), (14, 3, .ifCond .lt 11, 25, 0, 0, []), (17, 1, .iload_n 2, 2, 0, 0, []), (18, 1, .aload_n 0, 0, 0, 0, []), (19, 3, .getfield 15, 5, 0, 0, []), (22, 3, .if_icmp .le 4, 26, 0, 0, []), (25, 1, .return_, 0, 0, 0, []), (26, 1, .aload_n 0, 0, 0, 0, []), (27, 3, .getfield 21, 5, 1, 0, []), (30, 1, .iload_n 1, 1, 0, 0, []), (31, 1, .iload_n 2, 2, 0, 0, []), (32, 1, .iastore, 0, 0, 0, []), (33, 1, .iconst 0, 0, 0, 0, []), (34, 2, .istore 4, 4, 0, 0, []), (36, 2, .iload 4, 4, 0, 0, []), (38, 1, .iload_n 2, 2, 0, 0, []), (39, 3, .if_icmp .ge 18, 57, 0, 0, []), (42, 1, .aload_n 0, 0, 0, 0, []), (43, 1, .iload_n 1, 1, 0, 0, []), (44, 2, .iload 4, 4, 0, 0, []), (46, 1, .iload_n 3, 3, 0, 0, []), (47, 3, .invokevirtual 40, 0, 0, 0, []), (50, 1, .pop, 0, 0, 0, []), (51, 3, .iinc 4 1, 4, 1, 0, []), (54, 3, .goto (-18), 36, 0, 0, []), (57, 1, .return_, 0, 0, 0, [])]
def mX8_renew : xM := (yX8_renew, cX8_renew, 5, (none : Option FieldType), 0, 3, 5, 4, 93, 0, pX8_renew)
theorem dX8_renew : xDec cX8_renew pX8_renew = true := by decide +kernel
theorem hX8_renew : xHd mX8_renew := ⟨xg (w := (Jvm.Cond.code ({ cls := "SmellBurdens$Shelf", name := "renew", desc := "(III)V" } : Jvm.MethodName) prog_10_method_7_code (5 : Nat) (Option.none : Option Jvm.ClassFile.FieldType))) (xt1 (List.mem_of_getElem? (i := 215) (by decide +kernel))) rfl, xg (w := (Jvm.Cond.initialized "SmellBurdens$Shelf")) (xt1 (List.mem_of_getElem? (i := 2) (by decide +kernel))) rfl, ⟨by decide +kernel, by decide +kernel, by decide +kernel⟩, xg (w := (Jvm.Cond.instanceMethod ({ cls := "SmellBurdens$Shelf", name := "renew", desc := "(III)V" } : Jvm.MethodName))) (xt1 (List.mem_of_getElem? (i := 213) (by decide +kernel))) rfl, xg (w := (Jvm.Cond.selects "SmellBurdens$Shelf" ({ cls := "SmellBurdens$Shelf", name := "renew", desc := "(III)V" } : Jvm.MethodName) ({ cls := "SmellBurdens$Shelf", name := "renew", desc := "(III)V" } : Jvm.MethodName))) (xt1 (List.mem_of_getElem? (i := 214) (by decide +kernel))) rfl, rfl⟩
def pX8_drop : List xE := [(0, 1, .iload_n 1, 1, 0, 0, []), (1, 3, .ifCond .lt 19, 20, 0, 0, []), (4, 1, .iload_n 1, 1, 0, 0, []), (5, 1, .aload_n 0, 0, 0, 0, []), (6, 3, .getfield 21, 5, 1, 0, []), (9, 1, .arraylength, 0, 0, 0, []), (10, 3, .if_icmp .ge 10, 20, 0, 0, []), (13, 1, .aload_n 0, 0, 0, 0, []), (14, 3, .getfield 21, 5, 1, 0, []), (17, 1, .iload_n 1, 1, 0, 0, []), (18, 1, .iconst (-1), 1, 0, 0, []), (19, 1, .iastore, 0, 0, 0, []), (20, 1, .return_, 0, 0, 0, [])]
def mX8_drop : xM := (yX8_drop, cX8_drop, 2, (none : Option FieldType), 0, 1, 5, 0, 0, 0, pX8_drop)
theorem dX8_drop : xDec cX8_drop pX8_drop = true := by decide +kernel
theorem hX8_drop : xHd mX8_drop := ⟨xg (w := (Jvm.Cond.code ({ cls := "SmellBurdens$Shelf", name := "drop", desc := "(I)V" } : Jvm.MethodName) prog_10_method_8_code (2 : Nat) (Option.none : Option Jvm.ClassFile.FieldType))) (xt2 (List.mem_of_getElem? (i := 22) (by decide +kernel))) rfl, xg (w := (Jvm.Cond.initialized "SmellBurdens$Shelf")) (xt1 (List.mem_of_getElem? (i := 2) (by decide +kernel))) rfl, ⟨by decide +kernel, by decide +kernel, by decide +kernel⟩, xg (w := (Jvm.Cond.instanceMethod ({ cls := "SmellBurdens$Shelf", name := "drop", desc := "(I)V" } : Jvm.MethodName))) (xt2 (List.mem_of_getElem? (i := 20) (by decide +kernel))) rfl, xg (w := (Jvm.Cond.selects "SmellBurdens$Shelf" ({ cls := "SmellBurdens$Shelf", name := "drop", desc := "(I)V" } : Jvm.MethodName) ({ cls := "SmellBurdens$Shelf", name := "drop", desc := "(I)V" } : Jvm.MethodName))) (xt2 (List.mem_of_getElem? (i := 21) (by decide +kernel))) rfl, rfl⟩
def pX8_get : List xE := [(0, 1, .iload_n 1, 1, 0, 0, []), (1, 1, .aload_n 0, 0, 0, 0, []), (2, 3, .getfield 15, 5, 0, 0, []), (5, 1, .imul, 0, 0, 0, []), (6, 1, .iload_n 2, 2, 0, 0, []), (7, 1, .iadd, 0, 0, 0, []), (8, 1, .istore_n 3, 3, 0, 0, []), (9, 1, .aload_n 0, 0, 0, 0, []), (10, 1, .iload_n 1, 1, 0, 0, []), (11, 1, .iload_n 2, 2, 0, 0, []), (12, 1, .iconst 1, 1, 0, 0, []), (13, 3, .invokevirtual 36, 0, 0, 0, []), (16, 3, .ifCond .eq 25, 41, 0, 0, []), (19, 1, .iload_n 3, 3, 0, 0, []), (20, 3, .ifCond .lt 21, 41, 0, 0, []), (23, 1, .iload_n 3, 3, 0, 0, []), (24, 1, .aload_n 0, 0, 0, 0, []), (25, 3, .getfield 25, 5, 2, 0, []), (28, 1, .arraylength, 0, 0, 0, []), (29, 3, .if_icmp .ge 12, 41, 0, 0, []), (32, 1, .aload_n 0, 0, 0, 0, []), (33, 3, .getfield 25, 5, 2, 0, []), (36, 1, .iload_n 3, 3, 0, 0, []), (37, 1, .iaload, 0, 0, 0, []), (38, 3, .goto 4, 42, 0, 0, []), (41, 1, .iconst 0, 0, 0, 0, []), (42, 1, .ireturn, 0, 0, 0, [])]
def mX8_get : xM := (yX8_get, cX8_get, 4, (some FieldType.int), 0, 2, 5, 2, 45, 0, pX8_get)
theorem dX8_get : xDec cX8_get pX8_get = true := by decide +kernel
theorem hX8_get : xHd mX8_get := ⟨xg (w := (Jvm.Cond.code ({ cls := "SmellBurdens$Shelf", name := "get", desc := "(II)I" } : Jvm.MethodName) prog_10_method_9_code (4 : Nat) (Option.some Jvm.ClassFile.FieldType.int))) (xt1 (List.mem_of_getElem? (i := 223) (by decide +kernel))) rfl, xg (w := (Jvm.Cond.initialized "SmellBurdens$Shelf")) (xt1 (List.mem_of_getElem? (i := 2) (by decide +kernel))) rfl, ⟨by decide +kernel, by decide +kernel, by decide +kernel⟩, xg (w := (Jvm.Cond.instanceMethod ({ cls := "SmellBurdens$Shelf", name := "get", desc := "(II)I" } : Jvm.MethodName))) (xt1 (List.mem_of_getElem? (i := 221) (by decide +kernel))) rfl, xg (w := (Jvm.Cond.selects "SmellBurdens$Shelf" ({ cls := "SmellBurdens$Shelf", name := "get", desc := "(II)I" } : Jvm.MethodName) ({ cls := "SmellBurdens$Shelf", name := "get", desc := "(II)I" } : Jvm.MethodName))) (xt1 (List.mem_of_getElem? (i := 222) (by decide +kernel))) rfl, rfl⟩
theorem wdX8_44 : (Jvm.Cond.methodLink "SmellBurdens$Shelf" (44 : Nat) ({ cls := "SmellBurdens$Shelf", name := "get", desc := "(II)I" } : Jvm.MethodName)) ∈ xG := xg (xt1 (List.mem_of_getElem? (i := 220) (by decide +kernel))) rfl
def pX8_swap : List xE := [(0, 1, .aload_n 0, 0, 0, 0, []), (1, 1, .iload_n 1, 1, 0, 0, []), (2, 1, .iload_n 2, 2, 0, 0, []), (3, 3, .invokevirtual 44, 0, 0, 0, []), (6, 2, .istore 4, 4, 0, 0, []), (8, 1, .iload_n 1, 1, 0, 0, []), (9, 1, .aload_n 0, 0, 0, 0, []), (10, 3, .getfield 15, 5, 0, 0, []), (13, 1, .imul, 0, 0, 0, []), (14, 1, .iload_n 2, 2, 0, 0, []), (15, 1, .iadd, 0, 0, 0, []), (16, 2, .istore 5, 5, 0, 0, []), (18, 1, .aload_n 0, 0, 0, 0, []), (19, 1, .iload_n 1, 1, 0, 0, []), (20, 1, .iload_n 2, 2, 0, 0, []), (21, 1, .iconst 1, 1, 0, 0, []), (22, 3, .invokevirtual 36, 1, 0, 0, []), (25, 3, .ifCond .eq 26, 51, 0, 0, []), (28, 2, .iload 5, 5, 0, 0, []), (30, 3, .ifCond .lt 21, 51, 0, 0, []), (33, 2, .iload 5, 5, 0, 0, []), (35, 1, .aload_n 0, 0, 0, 0, []), (36, 3, .getfield 25, 5, 2, 0, []), (39, 1, .arraylength, 0, 0, 0, []), (40, 3, .if_icmp .ge 11, 51, 0, 0, []), (43, 1, .aload_n 0, 0, 0, 0, []), (44, 3, .getfield 25, 5, 2, 0, []), (47, 2, .iload 5, 5, 0, 0, []), (49, 1, .iload_n 3, 3, 0, 0, []), (50, 1, .iastore, 0, 0, 0, []), (51, 2, .iload 4, 4, 0, 0, []), (53, 1, .ireturn, 0, 0, 0, [])]
def mX8_swap : xM := (yX8_swap, cX8_swap, 6, (some FieldType.int), 0, 3, 5, 3, 68, 0, pX8_swap)
theorem dX8_swap : xDec cX8_swap pX8_swap = true := by decide +kernel
theorem hX8_swap : xHd mX8_swap := ⟨xg (w := (Jvm.Cond.code ({ cls := "SmellBurdens$Shelf", name := "swap", desc := "(III)I" } : Jvm.MethodName) prog_10_method_10_code (6 : Nat) (Option.some Jvm.ClassFile.FieldType.int))) (xt1 (List.mem_of_getElem? (i := 219) (by decide +kernel))) rfl, xg (w := (Jvm.Cond.initialized "SmellBurdens$Shelf")) (xt1 (List.mem_of_getElem? (i := 2) (by decide +kernel))) rfl, ⟨by decide +kernel, by decide +kernel, by decide +kernel⟩, xg (w := (Jvm.Cond.instanceMethod ({ cls := "SmellBurdens$Shelf", name := "swap", desc := "(III)I" } : Jvm.MethodName))) (xt1 (List.mem_of_getElem? (i := 217) (by decide +kernel))) rfl, xg (w := (Jvm.Cond.selects "SmellBurdens$Shelf" ({ cls := "SmellBurdens$Shelf", name := "swap", desc := "(III)I" } : Jvm.MethodName) ({ cls := "SmellBurdens$Shelf", name := "swap", desc := "(III)I" } : Jvm.MethodName))) (xt1 (List.mem_of_getElem? (i := 218) (by decide +kernel))) rfl, rfl⟩
theorem wdX8_47 : (Jvm.Cond.methodLink "SmellBurdens$Shelf" (47 : Nat) ({ cls := "java/lang/System", name := "arraycopy", desc := "(Ljava/lang/Object;ILjava/lang/Object;II)V" } : Jvm.MethodName)) ∈ xG := xg (xt2 (List.mem_of_getElem? (i := 32) (by decide +kernel))) rfl
def pX8_move : List xE := [(0, 1, .aload_n 0, 0, 0, 0, []), (1, 1, .iload_n 1, 1, 0, 0, []), (2, 1, .iload_n 2, 2, 0, 0, []), (3, 2, .iload 5, 5, 0, 0, []), (5, 3, .invokevirtual 36, 0, 0, 0, []), (8, 3, .ifCond .eq 45, 53, 0, 0, []), (11, 1, .aload_n 0, 0, 0, 0, []), (12, 1, .iload_n 3, 3, 0, 0, []), (13, 2, .iload 4, 4, 0, 0, []), (15, 2, .iload 5, 5, 0, 0, []), (17, 3, .invokevirtual 36, 0, 0, 0, []), (20, 3, .ifCond .eq 33, 53, 0, 0, []), (23, 1, .aload_n 0, 0, 0, 0, []), (24, 3, .getfield 25, 5, 2, 0, []), (27, 1, .iload_n 1, 1, 0, 0, []), (28, 1, .aload_n 0, 0, 0, 0, []), (29, 3, .getfield 15, 5, 0, 0, []), (32, 1, .imul, 0, 0, 0, []), (33, 1, .iload_n 2, 2, 0, 0, []), (34, 1, .iadd, 0, 0, 0, []), (35, 1, .aload_n 0, 0, 0, 0, []), (36, 3, .getfield 25, 5, 2, 0, []), (39, 1, .iload_n 3, 3, 0, 0, []), (40, 1, .aload_n 0, 0, 0, 0, []), (41, 3, .getfield 15, 5, 0, 0, []), (44, 1, .imul, 0, 0, 0, []), (45, 2, .iload 4, 4, 0, 0, []), (47, 1, .iadd, 0, 0, 0, []), (48, 2, .iload 5, 5, 0, 0, []), (50, 3, .invokestatic 47, 0, 0, 3, []), (53, 1, .return_, 0, 0, 0, [])]
def mX8_move : xM := (yX8_move, cX8_move, 6, (none : Option FieldType), 0, 5, 5, 2, 45, 0, pX8_move)
theorem dX8_move : xDec cX8_move pX8_move = true := by decide +kernel
theorem hX8_move : xHd mX8_move := ⟨xg (w := (Jvm.Cond.code ({ cls := "SmellBurdens$Shelf", name := "move", desc := "(IIIII)V" } : Jvm.MethodName) prog_10_method_11_code (6 : Nat) (Option.none : Option Jvm.ClassFile.FieldType))) (xt2 (List.mem_of_getElem? (i := 31) (by decide +kernel))) rfl, xg (w := (Jvm.Cond.initialized "SmellBurdens$Shelf")) (xt1 (List.mem_of_getElem? (i := 2) (by decide +kernel))) rfl, ⟨by decide +kernel, by decide +kernel, by decide +kernel⟩, xg (w := (Jvm.Cond.instanceMethod ({ cls := "SmellBurdens$Shelf", name := "move", desc := "(IIIII)V" } : Jvm.MethodName))) (xt2 (List.mem_of_getElem? (i := 29) (by decide +kernel))) rfl, xg (w := (Jvm.Cond.selects "SmellBurdens$Shelf" ({ cls := "SmellBurdens$Shelf", name := "move", desc := "(IIIII)V" } : Jvm.MethodName) ({ cls := "SmellBurdens$Shelf", name := "move", desc := "(IIIII)V" } : Jvm.MethodName))) (xt2 (List.mem_of_getElem? (i := 30) (by decide +kernel))) rfl, rfl⟩
def pX8_sumOf : List xE := [(0, 1, .lconst 0, 0, 0, 0, []), (1, 1, .lstore_n 2, 2, 0, 0, []), (2, 1, .iconst 0, 0, 0, 0, []), (3, 2, .istore 4, 4, 0, 0, []), (5, 2, .iload 4, 4, 0, 0, []), (7, 1, .aload_n 0, 0, 0, 0, []), (8, 1, .iload_n 1, 1, 0, 0, []), (9, 3, .invokevirtual 28, 0, 0, 0, []), (12, 3, .if_icmp .ge 20, 32, 0, 0, []), (15, 1, .lload_n 2, 2, 0, 0, []), (16, 1, .aload_n 0, 0, 0, 0, []), (17, 1, .iload_n 1, 1, 0, 0, []), (18, 2, .iload 4, 4, 0, 0, []), (20, 3, .invokevirtual 44, 1, 0, 0, []), (23, 1, .i2l, 0, 0, 0, []), (24, 1, .ladd, 0, 0, 0, []), (25, 1, .lstore_n 2, 2, 0, 0, []), (26, 3, .iinc 4 1, 4, 1, 0, []), (29, 3, .goto (-24), 5, 0, 0, []), (32, 1, .lload_n 2, 2, 0, 0, []), (33, 1, .lreturn, 0, 0, 0, [])]
def mX8_sumOf : xM := (yX8_sumOf, cX8_sumOf, 5, (some FieldType.long), 0, 1, 5, 3, 68, 0, pX8_sumOf)
theorem dX8_sumOf : xDec cX8_sumOf pX8_sumOf = true := by decide +kernel
theorem hX8_sumOf : xHd mX8_sumOf := ⟨xg (w := (Jvm.Cond.code ({ cls := "SmellBurdens$Shelf", name := "sumOf", desc := "(I)J" } : Jvm.MethodName) prog_10_method_12_code (5 : Nat) (Option.some Jvm.ClassFile.FieldType.long))) (xt2 (List.mem_of_getElem? (i := 43) (by decide +kernel))) rfl, xg (w := (Jvm.Cond.initialized "SmellBurdens$Shelf")) (xt1 (List.mem_of_getElem? (i := 2) (by decide +kernel))) rfl, ⟨by decide +kernel, by decide +kernel, by decide +kernel⟩, xg (w := (Jvm.Cond.instanceMethod ({ cls := "SmellBurdens$Shelf", name := "sumOf", desc := "(I)J" } : Jvm.MethodName))) (xt2 (List.mem_of_getElem? (i := 41) (by decide +kernel))) rfl, xg (w := (Jvm.Cond.selects "SmellBurdens$Shelf" ({ cls := "SmellBurdens$Shelf", name := "sumOf", desc := "(I)J" } : Jvm.MethodName) ({ cls := "SmellBurdens$Shelf", name := "sumOf", desc := "(I)J" } : Jvm.MethodName))) (xt2 (List.mem_of_getElem? (i := 42) (by decide +kernel))) rfl, rfl⟩
def pX8_howManyThere : List xE := [(0, 1, .iconst 0, 0, 0, 0, []), (1, 1, .istore_n 1, 1, 0, 0, []), (2, 1, .iconst 0, 0, 0, 0, []), (3, 1, .istore_n 2, 2, 0, 0, []), (4, 1, .iload_n 2, 2, 0, 0, []), (5, 1, .aload_n 0, 0, 0, 0, []), (6, 3, .getfield 21, 5, 1, 0, []), (9, 1, .arraylength, 0, 0, 0, []), (10, 3, .if_icmp .ge 25, 35, 0, 0, []), (13, 1, .iload_n 1, 1, 0, 0, []), (14, 1, .aload_n 0, 0, 0, 0, []), (15, 1, .iload_n 2, 2, 0, 0, []), (16, 3, .invokevirtual 32, 0, 0, 0, []), (19, 3, .ifCond .eq 7, 26, 0, 0, []), (22, 1, .iconst 1, 1, 0, 0, []), (23, 3, .goto 4, 27, 0, 0, []), (26, 1, .iconst 0, 0, 0, 0, []), (27, 1, .iadd, 0, 0, 0, []), (28, 1, .istore_n 1, 1, 0, 0, []), (29, 3, .iinc 2 1, 2, 1, 0, []), (32, 3, .goto (-28), 4, 0, 0, []), (35, 1, .iload_n 1, 1, 0, 0, []), (36, 1, .ireturn, 0, 0, 0, [])]
def mX8_howManyThere : xM := (yX8_howManyThere, cX8_howManyThere, 3, (some FieldType.int), 0, 0, 5, 2, 42, 0, pX8_howManyThere)
theorem dX8_howManyThere : xDec cX8_howManyThere pX8_howManyThere = true := by decide +kernel
theorem hX8_howManyThere : xHd mX8_howManyThere := ⟨xg (w := (Jvm.Cond.code ({ cls := "SmellBurdens$Shelf", name := "howManyThere", desc := "()I" } : Jvm.MethodName) prog_10_method_13_code (3 : Nat) (Option.some Jvm.ClassFile.FieldType.int))) (xt4 (List.mem_of_getElem? (i := 148) (by decide +kernel))) rfl, xg (w := (Jvm.Cond.initialized "SmellBurdens$Shelf")) (xt1 (List.mem_of_getElem? (i := 2) (by decide +kernel))) rfl, ⟨by decide +kernel, by decide +kernel, by decide +kernel⟩, xg (w := (Jvm.Cond.instanceMethod ({ cls := "SmellBurdens$Shelf", name := "howManyThere", desc := "()I" } : Jvm.MethodName))) (xt4 (List.mem_of_getElem? (i := 146) (by decide +kernel))) rfl, xg (w := (Jvm.Cond.selects "SmellBurdens$Shelf" ({ cls := "SmellBurdens$Shelf", name := "howManyThere", desc := "()I" } : Jvm.MethodName) ({ cls := "SmellBurdens$Shelf", name := "howManyThere", desc := "()I" } : Jvm.MethodName))) (xt4 (List.mem_of_getElem? (i := 147) (by decide +kernel))) rfl, rfl⟩
theorem wdX8_53 : (Jvm.Cond.constantLong "SmellBurdens$Shelf" (53 : Nat) (31 : Int64)) ∈ xG := xg (xt4 (List.mem_of_getElem? (i := 176) (by decide +kernel))) rfl
def pX8_mixedInto : List xE := [(0, 1, .lload_n 1, 1, 0, 0, []), (1, 1, .lstore_n 3, 3, 0, 0, []), (2, 1, .iconst 0, 0, 0, 0, []), (3, 2, .istore 5, 5, 0, 0, []), (5, 2, .iload 5, 5, 0, 0, []), (7, 1, .aload_n 0, 0, 0, 0, []), (8, 3, .getfield 21, 5, 1, 0, []), (11, 1, .arraylength, 0, 0, 0, []), (12, 3, .if_icmp .ge 59, 71, 0, 0, []), (15, 3, .ldc2_w 53, 31, 0, 0, []), (18, 1, .lload_n 3, 3, 0, 0, []), (19, 1, .lmul, 0, 0, 0, []), (20, 1, .aload_n 0, 0, 0, 0, []), (21, 2, .iload 5, 5, 0, 0, []), (23, 3, .invokevirtual 28, 0, 0, 0, []), (26, 1, .i2l, 0, 0, 0, []), (27, 1, .ladd, 0, 0, 0, []), (28, 1, .lstore_n 3, 3, 0, 0, []), (29, 1, .iconst 0, 0, 0, 0, []), (30, 2, .istore 6, 6, 0, 0, []), (32, 2, .iload 6, 6, 0, 0, []), (34, 1, .aload_n 0, 0, 0, 0, []), (35, 2, .iload 5, 5, 0, 0, []), (37, 3, .invokevirtual 28, 0, 0, 0, []), (40, 3, .if_icmp .ge 25, 65, 0, 0, []), (43, 3, .ldc2_w 53, 31, 0, 0, []), (46, 1, .lload_n 3, 3, 0, 0, []), (47, 1, .lmul, 0, 0, 0, []), (48, 1, .aload_n 0, 0, 0, 0, []), (49, 2, .iload 5, 5, 0, 0, []), (51, 2, .iload 6, 6, 0, 0, []), (53, 3, .invokevirtual 44, 1, 0, 0, []), (56, 1, .i2l, 0, 0, 0, []), (57, 1, .ladd, 0, 0, 0, []), (58, 1, .lstore_n 3, 3, 0, 0, []), (59, 3, .iinc 6 1, 6, 1, 0, []), (62, 3, .goto (-30), 32, 0, 0, []), (65, 3, .iinc 5 1, 5, 1, 0, []), (68, 3, .goto (-63), 5, 0, 0, []), (71, 1, .lload_n 3, 3, 0, 0, []), (72, 1, .lreturn, 0, 0, 0, [])]
def mX8_mixedInto : xM := (yX8_mixedInto, cX8_mixedInto, 7, (some FieldType.long), 0, 1, 5, 3, 68, 0, pX8_mixedInto)
theorem dX8_mixedInto : xDec cX8_mixedInto pX8_mixedInto = true := by decide +kernel
theorem hX8_mixedInto : xHd mX8_mixedInto := ⟨xg (w := (Jvm.Cond.code ({ cls := "SmellBurdens$Shelf", name := "mixedInto", desc := "(J)J" } : Jvm.MethodName) prog_10_method_14_code (7 : Nat) (Option.some Jvm.ClassFile.FieldType.long))) (xt4 (List.mem_of_getElem? (i := 175) (by decide +kernel))) rfl, xg (w := (Jvm.Cond.initialized "SmellBurdens$Shelf")) (xt1 (List.mem_of_getElem? (i := 2) (by decide +kernel))) rfl, ⟨by decide +kernel, by decide +kernel, by decide +kernel⟩, xg (w := (Jvm.Cond.instanceMethod ({ cls := "SmellBurdens$Shelf", name := "mixedInto", desc := "(J)J" } : Jvm.MethodName))) (xt4 (List.mem_of_getElem? (i := 173) (by decide +kernel))) rfl, xg (w := (Jvm.Cond.selects "SmellBurdens$Shelf" ({ cls := "SmellBurdens$Shelf", name := "mixedInto", desc := "(J)J" } : Jvm.MethodName) ({ cls := "SmellBurdens$Shelf", name := "mixedInto", desc := "(J)J" } : Jvm.MethodName))) (xt4 (List.mem_of_getElem? (i := 174) (by decide +kernel))) rfl, rfl⟩
theorem wdX9_3 : (Jvm.Cond.methodLink "SmellBurdens$Wall" (3 : Nat) ({ cls := "java/lang/Object", name := "<init>", desc := "()V" } : Jvm.MethodName)) ∈ xG := xg (xt1 (List.mem_of_getElem? (i := 139) (by decide +kernel))) rfl
theorem wdX9_11 : (Jvm.Cond.fieldLink "SmellBurdens$Wall" (11 : Nat) "SmellBurdens$Wall" "best" "[I") ∈ xG := xg (xt1 (List.mem_of_getElem? (i := 140) (by decide +kernel))) rfl
def pX9_init : List xE := [(0, 1, .aload_n 0, 0, 0, 0, []), (1, 3, .invokespecial 3, 0, 0, 1, []), (4, 1, .aload_n 0, 0, 0, 0, []), (5, 3, .sipush 160, 160, 0, 0, []), (8, 2, .newarray .int, 0, 0, 1, []), (10, 3, .putfield 11, 6, 0, 0, []), (13, 1, .return_, 0, 0, 0, [])]
def mX9_init : xM := (yX9_init, cX9_init, 1, (none : Option FieldType), 2, 0, 6, 1, 20, 1, pX9_init)
theorem dX9_init : xDec cX9_init pX9_init = true := by decide +kernel
theorem hX9_init : xHd mX9_init := ⟨xg (w := (Jvm.Cond.code ({ cls := "SmellBurdens$Wall", name := "<init>", desc := "()V" } : Jvm.MethodName) prog_11_method_1_code (1 : Nat) (Option.none : Option Jvm.ClassFile.FieldType))) (xt1 (List.mem_of_getElem? (i := 138) (by decide +kernel))) rfl, xg (w := (Jvm.Cond.initialized "SmellBurdens$Wall")) (xt1 (List.mem_of_getElem? (i := 8) (by decide +kernel))) rfl, ⟨by decide +kernel, by decide +kernel, by decide +kernel⟩, xg (w := (Jvm.Cond.instanceMethod ({ cls := "SmellBurdens$Wall", name := "<init>", desc := "()V" } : Jvm.MethodName))) (xt1 (List.mem_of_getElem? (i := 137) (by decide +kernel))) rfl, rfl, rfl⟩
def pX9_bestFrom : List xE := [(0, 1, .iload_n 1, 1, 0, 0, []), (1, 2, .bipush 32, 32, 0, 0, []), (3, 1, .imul, 0, 0, 0, []), (4, 1, .iload_n 2, 2, 0, 0, []), (5, 1, .iadd, 0, 0, 0, []), (6, 1, .istore_n 3, 3, 0, 0, []), (7, 1, .iload_n 3, 3, 0, 0, []), (8, 3, .ifCond .lt 21, 29, 0, 0, []), (11, 1, .iload_n 3, 3, 0, 0, []), (12, 1, .aload_n 0, 0, 0, 0, []), (13, 3, .getfield 11, 6, 0, 0, []), (16, 1, .arraylength, 0, 0, 0, []), (17, 3, .if_icmp .ge 12, 29, 0, 0, []), (20, 1, .aload_n 0, 0, 0, 0, []), (21, 3, .getfield 11, 6, 0, 0, []), (24, 1, .iload_n 3, 3, 0, 0, []), (25, 1, .iaload, 0, 0, 0, []), (26, 3, .goto 4, 30, 0, 0, []), (29, 1, .iconst 0, 0, 0, 0, []), (30, 1, .ireturn, 0, 0, 0, [])]
def mX9_bestFrom : xM := (yX9_bestFrom, cX9_bestFrom, 4, (some FieldType.int), 0, 2, 6, 0, 0, 0, pX9_bestFrom)
theorem dX9_bestFrom : xDec cX9_bestFrom pX9_bestFrom = true := by decide +kernel
theorem hX9_bestFrom : xHd mX9_bestFrom := ⟨xg (w := (Jvm.Cond.code ({ cls := "SmellBurdens$Wall", name := "bestFrom", desc := "(II)I" } : Jvm.MethodName) prog_11_method_2_code (4 : Nat) (Option.some Jvm.ClassFile.FieldType.int))) (xt3 (List.mem_of_getElem? (i := 188) (by decide +kernel))) rfl, xg (w := (Jvm.Cond.initialized "SmellBurdens$Wall")) (xt1 (List.mem_of_getElem? (i := 8) (by decide +kernel))) rfl, ⟨by decide +kernel, by decide +kernel, by decide +kernel⟩, xg (w := (Jvm.Cond.instanceMethod ({ cls := "SmellBurdens$Wall", name := "bestFrom", desc := "(II)I" } : Jvm.MethodName))) (xt3 (List.mem_of_getElem? (i := 187) (by decide +kernel))) rfl, xg (w := (Jvm.Cond.selects "SmellBurdens$Wall" ({ cls := "SmellBurdens$Wall", name := "bestFrom", desc := "(II)I" } : Jvm.MethodName) ({ cls := "SmellBurdens$Wall", name := "bestFrom", desc := "(II)I" } : Jvm.MethodName))) (xsl (List.mem_of_getElem? (i := 19) (by decide +kernel))) rfl, rfl⟩
def pX9_setBest : List xE := [(0, 1, .iload_n 1, 1, 0, 0, []), (1, 2, .bipush 32, 32, 0, 0, []), (3, 1, .imul, 0, 0, 0, []), (4, 1, .iload_n 2, 2, 0, 0, []), (5, 1, .iadd, 0, 0, 0, []), (6, 2, .istore 4, 4, 0, 0, []), (8, 2, .iload 4, 4, 0, 0, []), (10, 3, .ifCond .lt 21, 31, 0, 0, []), (13, 2, .iload 4, 4, 0, 0, []), (15, 1, .aload_n 0, 0, 0, 0, []), (16, 3, .getfield 11, 6, 0, 0, []), (19, 1, .arraylength, 0, 0, 0, []), (20, 3, .if_icmp .ge 11, 31, 0, 0, []), (23, 1, .aload_n 0, 0, 0, 0, []), (24, 3, .getfield 11, 6, 0, 0, []), (27, 2, .iload 4, 4, 0, 0, []), (29, 1, .iload_n 3, 3, 0, 0, []), (30, 1, .iastore, 0, 0, 0, []), (31, 1, .return_, 0, 0, 0, [])]
def mX9_setBest : xM := (yX9_setBest, cX9_setBest, 5, (none : Option FieldType), 0, 3, 6, 0, 0, 0, pX9_setBest)
theorem dX9_setBest : xDec cX9_setBest pX9_setBest = true := by decide +kernel
theorem hX9_setBest : xHd mX9_setBest := ⟨xg (w := (Jvm.Cond.code ({ cls := "SmellBurdens$Wall", name := "setBest", desc := "(III)V" } : Jvm.MethodName) prog_11_method_3_code (5 : Nat) (Option.none : Option Jvm.ClassFile.FieldType))) (xt3 (List.mem_of_getElem? (i := 180) (by decide +kernel))) rfl, xg (w := (Jvm.Cond.initialized "SmellBurdens$Wall")) (xt1 (List.mem_of_getElem? (i := 8) (by decide +kernel))) rfl, ⟨by decide +kernel, by decide +kernel, by decide +kernel⟩, xg (w := (Jvm.Cond.instanceMethod ({ cls := "SmellBurdens$Wall", name := "setBest", desc := "(III)V" } : Jvm.MethodName))) (xt3 (List.mem_of_getElem? (i := 179) (by decide +kernel))) rfl, xg (w := (Jvm.Cond.selects "SmellBurdens$Wall" ({ cls := "SmellBurdens$Wall", name := "setBest", desc := "(III)V" } : Jvm.MethodName) ({ cls := "SmellBurdens$Wall", name := "setBest", desc := "(III)V" } : Jvm.MethodName))) (xsl (List.mem_of_getElem? (i := 17) (by decide +kernel))) rfl, rfl⟩
theorem wdX9_15 : (Jvm.Cond.methodLink "SmellBurdens$Wall" (15 : Nat) ({ cls := "SmellBurdens$Wall", name := "bestFrom", desc := "(II)I" } : Jvm.MethodName)) ∈ xG := xg (xt3 (List.mem_of_getElem? (i := 185) (by decide +kernel))) rfl
def pX9_most : List xE := [(0, 1, .aload_n 0, 0, 0, 0, []), (1, 1, .iconst 0, 0, 0, 0, []), (2, 1, .iconst 0, 0, 0, 0, []), (3, 3, .invokevirtual 15, 0, 0, 0, []), (6, 1, .ireturn, 0, 0, 0, [])]
def mX9_most : xM := (yX9_most, cX9_most, 1, (some FieldType.int), 0, 0, 6, 1, 23, 0, pX9_most)
theorem dX9_most : xDec cX9_most pX9_most = true := by decide +kernel
theorem hX9_most : xHd mX9_most := ⟨xg (w := (Jvm.Cond.code ({ cls := "SmellBurdens$Wall", name := "most", desc := "()I" } : Jvm.MethodName) prog_11_method_4_code (1 : Nat) (Option.some Jvm.ClassFile.FieldType.int))) (xt3 (List.mem_of_getElem? (i := 207) (by decide +kernel))) rfl, xg (w := (Jvm.Cond.initialized "SmellBurdens$Wall")) (xt1 (List.mem_of_getElem? (i := 8) (by decide +kernel))) rfl, ⟨by decide +kernel, by decide +kernel, by decide +kernel⟩, xg (w := (Jvm.Cond.instanceMethod ({ cls := "SmellBurdens$Wall", name := "most", desc := "()I" } : Jvm.MethodName))) (xt3 (List.mem_of_getElem? (i := 205) (by decide +kernel))) rfl, xg (w := (Jvm.Cond.selects "SmellBurdens$Wall" ({ cls := "SmellBurdens$Wall", name := "most", desc := "()I" } : Jvm.MethodName) ({ cls := "SmellBurdens$Wall", name := "most", desc := "()I" } : Jvm.MethodName))) (xt3 (List.mem_of_getElem? (i := 206) (by decide +kernel))) rfl, rfl⟩
theorem wdX9_19 : (Jvm.Cond.fieldLinkNest "SmellBurdens$Wall" (19 : Nat) "SmellBurdens$Plain" "asses" "I" "SmellBurdens") ∈ xNest := by decide +kernel
theorem wdX9_25 : (Jvm.Cond.methodLink "SmellBurdens$Wall" (25 : Nat) ({ cls := "SmellBurdens$Wall", name := "setBest", desc := "(III)V" } : Jvm.MethodName)) ∈ xG := xg (xt3 (List.mem_of_getElem? (i := 177) (by decide +kernel))) rfl
theorem wdX9_29 : (Jvm.Cond.methodLink "SmellBurdens$Wall" (29 : Nat) ({ cls := "SmellBurdens$Wall", name := "mostOf", desc := "(LSmellBurdens$Plain;JII)I" } : Jvm.MethodName)) ∈ xG := xg (xt3 (List.mem_of_getElem? (i := 181) (by decide +kernel))) rfl
def pX9_weigh : List xE := [(0, 1, .iconst 0, 0, 0, 0, []), (1, 2, .istore 4, 4, 0, 0, []), (3, 2, .iload 4, 4, 0, 0, []), (5, 2, .bipush 32, 32, 0, 0, []), (7, 3, .if_icmp .ge 20, 27, 0, 0, []), (10, 1, .aload_n 0, 0, 0, 0, []), (11, 1, .aload_n 1, 1, 0, 0, []), (12, 3, .getfield 19, 3, 0, 1, []), (15, 2, .iload 4, 4, 0, 0, []), (17, 1, .iconst 0, 0, 0, 0, []), (18, 3, .invokevirtual 25, 0, 0, 0, []), (21, 3, .iinc 4 1, 4, 1, 0, []), (24, 3, .goto (-21), 3, 0, 0, []), (27, 1, .aload_n 1, 1, 0, 0, []), (28, 3, .getfield 19, 3, 0, 1, []), (31, 1, .iconst 1, 1, 0, 0, []), (32, 1, .isub, 0, 0, 0, []), (33, 2, .istore 4, 4, 0, 0, []), (35, 2, .iload 4, 4, 0, 0, []), (37, 3, .ifCond .lt 43, 80, 0, 0, []), (40, 1, .iconst 0, 0, 0, 0, []), (41, 2, .istore 5, 5, 0, 0, []), (43, 2, .iload 5, 5, 0, 0, []), (45, 2, .bipush 32, 32, 0, 0, []), (47, 3, .if_icmp .ge 27, 74, 0, 0, []), (50, 1, .aload_n 0, 0, 0, 0, []), (51, 2, .iload 4, 4, 0, 0, []), (53, 2, .iload 5, 5, 0, 0, []), (55, 1, .aload_n 0, 0, 0, 0, []), (56, 1, .aload_n 1, 1, 0, 0, []), (57, 1, .lload_n 2, 2, 0, 0, []), (58, 2, .iload 4, 4, 0, 0, []), (60, 2, .iload 5, 5, 0, 0, []), (62, 3, .invokevirtual 29, 1, 0, 0, []), (65, 3, .invokevirtual 25, 0, 0, 0, []), (68, 3, .iinc 5 1, 5, 1, 0, []), (71, 3, .goto (-28), 43, 0, 0, []), (74, 3, .iinc 4 (-1), 4, 1, 0, []), (77, 3, .goto (-42), 35, 0, 0, []), (80, 1, .return_, 0, 0, 0, [])]
def mX9_weigh : xM := (yX9_weigh, cX9_weigh, 6, (none : Option FieldType), 0, 2, 6, 5, 126, 0, pX9_weigh)
theorem dX9_weigh : xDec cX9_weigh pX9_weigh = true := by decide +kernel
theorem hX9_weigh : xHd mX9_weigh := ⟨xg (w := (Jvm.Cond.code ({ cls := "SmellBurdens$Wall", name := "weigh", desc := "(LSmellBurdens$Plain;J)V" } : Jvm.MethodName) prog_11_method_5_code (6 : Nat) (Option.none : Option Jvm.ClassFile.FieldType))) (xt3 (List.mem_of_getElem? (i := 176) (by decide +kernel))) rfl, xg (w := (Jvm.Cond.initialized "SmellBurdens$Wall")) (xt1 (List.mem_of_getElem? (i := 8) (by decide +kernel))) rfl, ⟨by decide +kernel, by decide +kernel, by decide +kernel⟩, xg (w := (Jvm.Cond.instanceMethod ({ cls := "SmellBurdens$Wall", name := "weigh", desc := "(LSmellBurdens$Plain;J)V" } : Jvm.MethodName))) (xt3 (List.mem_of_getElem? (i := 174) (by decide +kernel))) rfl, xg (w := (Jvm.Cond.selects "SmellBurdens$Wall" ({ cls := "SmellBurdens$Wall", name := "weigh", desc := "(LSmellBurdens$Plain;J)V" } : Jvm.MethodName) ({ cls := "SmellBurdens$Wall", name := "weigh", desc := "(LSmellBurdens$Plain;J)V" } : Jvm.MethodName))) (xt3 (List.mem_of_getElem? (i := 175) (by decide +kernel))) rfl, rfl⟩
theorem wdX9_33 : (Jvm.Cond.fieldLinkNest "SmellBurdens$Wall" (33 : Nat) "SmellBurdens$Plain" "loads" "I" "SmellBurdens") ∈ xNest := by decide +kernel
theorem wdX9_36 : (Jvm.Cond.methodLink "SmellBurdens$Wall" (36 : Nat) ({ cls := "SmellBurdens$Wall", name := "mostWith", desc := "(LSmellBurdens$Plain;JIII)I" } : Jvm.MethodName)) ∈ xG := xg (xt3 (List.mem_of_getElem? (i := 189) (by decide +kernel))) rfl
theorem wdX9_40 : (Jvm.Cond.methodLink "SmellBurdens$Wall" (40 : Nat) ({ cls := "java/lang/Math", name := "max", desc := "(II)I" } : Jvm.MethodName)) ∈ xG := xg (xt3 (List.mem_of_getElem? (i := 194) (by decide +kernel))) rfl
def pX9_mostOf : List xE := [(0, 1, .aload_n 0, 0, 0, 0, []), (1, 2, .iload 4, 4, 0, 0, []), (3, 1, .iconst 1, 1, 0, 0, []), (4, 1, .iadd, 0, 0, 0, []), (5, 2, .iload 5, 5, 0, 0, []), (7, 3, .invokevirtual 15, 0, 0, 0, []), (10, 2, .istore 6, 6, 0, 0, []), (12, 1, .iconst 0, 0, 0, 0, []), (13, 2, .istore 7, 7, 0, 0, []), (15, 2, .iload 7, 7, 0, 0, []), (17, 1, .aload_n 1, 1, 0, 0, []), (18, 3, .getfield 33, 3, 1, 1, []), (21, 3, .if_icmp .ge 28, 49, 0, 0, []), (24, 2, .iload 6, 6, 0, 0, []), (26, 1, .aload_n 0, 0, 0, 0, []), (27, 1, .aload_n 1, 1, 0, 0, []), (28, 1, .lload_n 2, 2, 0, 0, []), (29, 2, .iload 4, 4, 0, 0, []), (31, 2, .iload 5, 5, 0, 0, []), (33, 2, .iload 7, 7, 0, 0, []), (35, 3, .invokevirtual 36, 1, 0, 0, []), (38, 3, .invokestatic 40, 0, 0, 1, []), (41, 2, .istore 6, 6, 0, 0, []), (43, 3, .iinc 7 1, 7, 1, 0, []), (46, 3, .goto (-31), 15, 0, 0, []), (49, 2, .iload 6, 6, 0, 0, []), (51, 1, .ireturn, 0, 0, 0, [])]
def mX9_mostOf : xM := (yX9_mostOf, cX9_mostOf, 8, (some FieldType.int), 0, 4, 6, 4, 99, 0, pX9_mostOf)
theorem dX9_mostOf : xDec cX9_mostOf pX9_mostOf = true := by decide +kernel
theorem hX9_mostOf : xHd mX9_mostOf := ⟨xg (w := (Jvm.Cond.code ({ cls := "SmellBurdens$Wall", name := "mostOf", desc := "(LSmellBurdens$Plain;JII)I" } : Jvm.MethodName) prog_11_method_6_code (8 : Nat) (Option.some Jvm.ClassFile.FieldType.int))) (xt3 (List.mem_of_getElem? (i := 184) (by decide +kernel))) rfl, xg (w := (Jvm.Cond.initialized "SmellBurdens$Wall")) (xt1 (List.mem_of_getElem? (i := 8) (by decide +kernel))) rfl, ⟨by decide +kernel, by decide +kernel, by decide +kernel⟩, xg (w := (Jvm.Cond.instanceMethod ({ cls := "SmellBurdens$Wall", name := "mostOf", desc := "(LSmellBurdens$Plain;JII)I" } : Jvm.MethodName))) (xt3 (List.mem_of_getElem? (i := 183) (by decide +kernel))) rfl, xg (w := (Jvm.Cond.selects "SmellBurdens$Wall" ({ cls := "SmellBurdens$Wall", name := "mostOf", desc := "(LSmellBurdens$Plain;JII)I" } : Jvm.MethodName) ({ cls := "SmellBurdens$Wall", name := "mostOf", desc := "(LSmellBurdens$Plain;JII)I" } : Jvm.MethodName))) (xsl (List.mem_of_getElem? (i := 18) (by decide +kernel))) rfl, rfl⟩
theorem wdX9_45 : (Jvm.Cond.methodLink "SmellBurdens$Wall" (45 : Nat) ({ cls := "SmellBurdens$Plain", name := "pull", desc := "(JII)I" } : Jvm.MethodName)) ∈ xG := xg (xt3 (List.mem_of_getElem? (i := 193) (by decide +kernel))) rfl
def pX9_mostWith : List xE := [(0, 2, .iload 5, 5, 0, 0, []), (2, 2, .iload 6, 6, 0, 0, []), (4, 1, .ishr, 0, 0, 0, []), (5, 1, .iconst 1, 1, 0, 0, []), (6, 1, .iand, 0, 0, 0, []), (7, 1, .iconst 1, 1, 0, 0, []), (8, 3, .if_icmp .ne 7, 15, 0, 0, []), (11, 1, .iconst 0, 0, 0, 0, []), (12, 3, .goto 12, 24, 0, 0, []), (15, 1, .aload_n 1, 1, 0, 0, []), (16, 1, .lload_n 2, 2, 0, 0, []), (17, 2, .iload 4, 4, 0, 0, []), (19, 2, .iload 6, 6, 0, 0, []), (21, 3, .invokevirtual 45, 0, 0, 0, []), (24, 2, .istore 7, 7, 0, 0, []), (26, 2, .iload 7, 7, 0, 0, []), (28, 3, .ifCond .ne 8, 36, 0, 0, []), (31, 2, .bipush (-9), 9, 0, 0, []), (33, 3, .goto 21, 54, 0, 0, []), (36, 2, .iload 7, 7, 0, 0, []), (38, 1, .aload_n 0, 0, 0, 0, []), (39, 2, .iload 4, 4, 0, 0, []), (41, 1, .iconst 1, 1, 0, 0, []), (42, 1, .iadd, 0, 0, 0, []), (43, 2, .iload 5, 5, 0, 0, []), (45, 1, .iconst 1, 1, 0, 0, []), (46, 2, .iload 6, 6, 0, 0, []), (48, 1, .ishl, 0, 0, 0, []), (49, 1, .ior, 0, 0, 0, []), (50, 3, .invokevirtual 15, 1, 0, 0, []), (53, 1, .iadd, 0, 0, 0, []), (54, 1, .ireturn, 0, 0, 0, [])]
def mX9_mostWith : xM := (yX9_mostWith, cX9_mostWith, 8, (some FieldType.int), 0, 5, 6, 3, 72, 0, pX9_mostWith)
theorem dX9_mostWith : xDec cX9_mostWith pX9_mostWith = true := by decide +kernel
theorem hX9_mostWith : xHd mX9_mostWith := ⟨xg (w := (Jvm.Cond.code ({ cls := "SmellBurdens$Wall", name := "mostWith", desc := "(LSmellBurdens$Plain;JIII)I" } : Jvm.MethodName) prog_11_method_7_code (8 : Nat) (Option.some Jvm.ClassFile.FieldType.int))) (xt3 (List.mem_of_getElem? (i := 192) (by decide +kernel))) rfl, xg (w := (Jvm.Cond.initialized "SmellBurdens$Wall")) (xt1 (List.mem_of_getElem? (i := 8) (by decide +kernel))) rfl, ⟨by decide +kernel, by decide +kernel, by decide +kernel⟩, xg (w := (Jvm.Cond.instanceMethod ({ cls := "SmellBurdens$Wall", name := "mostWith", desc := "(LSmellBurdens$Plain;JIII)I" } : Jvm.MethodName))) (xt3 (List.mem_of_getElem? (i := 191) (by decide +kernel))) rfl, xg (w := (Jvm.Cond.selects "SmellBurdens$Wall" ({ cls := "SmellBurdens$Wall", name := "mostWith", desc := "(LSmellBurdens$Plain;JIII)I" } : Jvm.MethodName) ({ cls := "SmellBurdens$Wall", name := "mostWith", desc := "(LSmellBurdens$Plain;JIII)I" } : Jvm.MethodName))) (xsl (List.mem_of_getElem? (i := 20) (by decide +kernel))) rfl, rfl⟩
theorem wdX9_49 : (Jvm.Cond.methodLink "SmellBurdens$Wall" (49 : Nat) ({ cls := "SmellBurdens$Wall", name := "firstWith", desc := "(LSmellBurdens$Plain;JII)I" } : Jvm.MethodName)) ∈ xG := xg (xt3 (List.mem_of_getElem? (i := 199) (by decide +kernel))) rfl
theorem wdX9_52 : (Jvm.Cond.methodLink "SmellBurdens$Wall" (52 : Nat) ({ cls := "SmellBurdens$Shelf", name := "swap", desc := "(III)I" } : Jvm.MethodName)) ∈ xG := xg (xt3 (List.mem_of_getElem? (i := 203) (by decide +kernel))) rfl
def pX9_giveOut : List xE := [(0, 1, .iconst 0, 0, 0, 0, []), (1, 2, .istore 6, 6, 0, 0, []), (3, 1, .iconst 0, 0, 0, 0, []), (4, 2, .istore 7, 7, 0, 0, []), (6, 2, .iload 7, 7, 0, 0, []), (8, 1, .aload_n 1, 1, 0, 0, []), (9, 3, .getfield 19, 3, 0, 1, []), (12, 3, .if_icmp .ge 78, 90, 0, 0, []), (15, 1, .aload_n 0, 0, 0, 0, []), (16, 2, .iload 7, 7, 0, 0, []), (18, 2, .iload 6, 6, 0, 0, []), (20, 3, .invokevirtual 15, 0, 0, 0, []), (23, 2, .istore 8, 8, 0, 0, []), (25, 1, .aload_n 0, 0, 0, 0, []), (26, 2, .iload 7, 7, 0, 0, []), (28, 1, .iconst 1, 1, 0, 0, []), (29, 1, .iadd, 0, 0, 0, []), (30, 2, .iload 6, 6, 0, 0, []), (32, 3, .invokevirtual 15, 0, 0, 0, []), (35, 2, .iload 8, 8, 0, 0, []), (37, 3, .if_icmp .ge 47, 84, 0, 0, []), (40, 1, .aload_n 0, 0, 0, 0, []), (41, 1, .aload_n 1, 1, 0, 0, []), (42, 1, .lload_n 2, 2, 0, 0, []), (43, 2, .iload 7, 7, 0, 0, []), (45, 2, .iload 6, 6, 0, 0, []), (47, 3, .invokevirtual 49, 1, 0, 0, []), (50, 2, .istore 9, 9, 0, 0, []), (52, 2, .aload 4, 4, 0, 0, []), (54, 2, .iload 5, 5, 0, 0, []), (56, 2, .iload 7, 7, 0, 0, []), (58, 2, .iload 9, 9, 0, 0, []), (60, 3, .invokevirtual 52, 2, 0, 0, []), (63, 1, .pop, 0, 0, 0, []), (64, 2, .iload 6, 6, 0, 0, []), (66, 2, .iload 9, 9, 0, 0, []), (68, 2, .bipush (-9), 9, 0, 0, []), (70, 3, .if_icmp .ne 7, 77, 0, 0, []), (73, 1, .iconst 0, 0, 0, 0, []), (74, 3, .goto 7, 81, 0, 0, []), (77, 1, .iconst 1, 1, 0, 0, []), (78, 2, .iload 9, 9, 0, 0, []), (80, 1, .ishl, 0, 0, 0, []), (81, 1, .ior, 0, 0, 0, []), (82, 2, .istore 6, 6, 0, 0, []), (84, 3, .iinc 7 1, 7, 1, 0, []), (87, 3, .goto (-81), 6, 0, 0, []), (90, 1, .return_, 0, 0, 0, [])]
def mX9_giveOut : xM := (yX9_giveOut, cX9_giveOut, 10, (none : Option FieldType), 0, 4, 6, 5, 125, 0, pX9_giveOut)
theorem dX9_giveOut : xDec cX9_giveOut pX9_giveOut = true := by decide +kernel
theorem hX9_giveOut : xHd mX9_giveOut := ⟨xg (w := (Jvm.Cond.code ({ cls := "SmellBurdens$Wall", name := "giveOut", desc := "(LSmellBurdens$Plain;JLSmellBurdens$Shelf;I)V" } : Jvm.MethodName) prog_11_method_8_code (10 : Nat) (Option.none : Option Jvm.ClassFile.FieldType))) (xt3 (List.mem_of_getElem? (i := 198) (by decide +kernel))) rfl, xg (w := (Jvm.Cond.initialized "SmellBurdens$Wall")) (xt1 (List.mem_of_getElem? (i := 8) (by decide +kernel))) rfl, ⟨by decide +kernel, by decide +kernel, by decide +kernel⟩, xg (w := (Jvm.Cond.instanceMethod ({ cls := "SmellBurdens$Wall", name := "giveOut", desc := "(LSmellBurdens$Plain;JLSmellBurdens$Shelf;I)V" } : Jvm.MethodName))) (xt3 (List.mem_of_getElem? (i := 196) (by decide +kernel))) rfl, xg (w := (Jvm.Cond.selects "SmellBurdens$Wall" ({ cls := "SmellBurdens$Wall", name := "giveOut", desc := "(LSmellBurdens$Plain;JLSmellBurdens$Shelf;I)V" } : Jvm.MethodName) ({ cls := "SmellBurdens$Wall", name := "giveOut", desc := "(LSmellBurdens$Plain;JLSmellBurdens$Shelf;I)V" } : Jvm.MethodName))) (xt3 (List.mem_of_getElem? (i := 197) (by decide +kernel))) rfl, rfl⟩
def pX9_firstWith : List xE := [(0, 1, .iconst 0, 0, 0, 0, []), (1, 2, .istore 6, 6, 0, 0, []), (3, 2, .iload 6, 6, 0, 0, []), (5, 1, .aload_n 1, 1, 0, 0, []), (6, 3, .getfield 33, 3, 1, 1, []), (9, 3, .if_icmp .ge 35, 44, 0, 0, []), (12, 1, .aload_n 0, 0, 0, 0, []), (13, 1, .aload_n 1, 1, 0, 0, []), (14, 1, .lload_n 2, 2, 0, 0, []), (15, 2, .iload 4, 4, 0, 0, []), (17, 2, .iload 5, 5, 0, 0, []), (19, 2, .iload 6, 6, 0, 0, []), (21, 3, .invokevirtual 36, 0, 0, 0, []), (24, 1, .aload_n 0, 0, 0, 0, []), (25, 2, .iload 4, 4, 0, 0, []), (27, 2, .iload 5, 5, 0, 0, []), (29, 3, .invokevirtual 15, 1, 0, 0, []), (32, 3, .if_icmp .ne 6, 38, 0, 0, []), (35, 2, .iload 6, 6, 0, 0, []), (37, 1, .ireturn, 0, 0, 0, []), (38, 3, .iinc 6 1, 6, 1, 0, []), (41, 3, .goto (-38), 3, 0, 0, []), (44, 2, .bipush (-9), 9, 0, 0, []), (46, 1, .ireturn, 0, 0, 0, [])]
def mX9_firstWith : xM := (yX9_firstWith, cX9_firstWith, 7, (some FieldType.int), 0, 4, 6, 4, 99, 0, pX9_firstWith)
theorem dX9_firstWith : xDec cX9_firstWith pX9_firstWith = true := by decide +kernel
theorem hX9_firstWith : xHd mX9_firstWith := ⟨xg (w := (Jvm.Cond.code ({ cls := "SmellBurdens$Wall", name := "firstWith", desc := "(LSmellBurdens$Plain;JII)I" } : Jvm.MethodName) prog_11_method_9_code (7 : Nat) (Option.some Jvm.ClassFile.FieldType.int))) (xt3 (List.mem_of_getElem? (i := 202) (by decide +kernel))) rfl, xg (w := (Jvm.Cond.initialized "SmellBurdens$Wall")) (xt1 (List.mem_of_getElem? (i := 8) (by decide +kernel))) rfl, ⟨by decide +kernel, by decide +kernel, by decide +kernel⟩, xg (w := (Jvm.Cond.instanceMethod ({ cls := "SmellBurdens$Wall", name := "firstWith", desc := "(LSmellBurdens$Plain;JII)I" } : Jvm.MethodName))) (xt3 (List.mem_of_getElem? (i := 201) (by decide +kernel))) rfl, xg (w := (Jvm.Cond.selects "SmellBurdens$Wall" ({ cls := "SmellBurdens$Wall", name := "firstWith", desc := "(LSmellBurdens$Plain;JII)I" } : Jvm.MethodName) ({ cls := "SmellBurdens$Wall", name := "firstWith", desc := "(LSmellBurdens$Plain;JII)I" } : Jvm.MethodName))) (xsl (List.mem_of_getElem? (i := 21) (by decide +kernel))) rfl, rfl⟩
theorem wdX9_58 : (Jvm.Cond.methodLink "SmellBurdens$Wall" (58 : Nat) ({ cls := "SmellBurdens$Wall", name := "codes", desc := "(LSmellBurdens$Plain;)I" } : Jvm.MethodName)) ∈ xG := xg (xt3 (List.mem_of_getElem? (i := 215) (by decide +kernel))) rfl
theorem wdX9_62 : (Jvm.Cond.methodLink "SmellBurdens$Wall" (62 : Nat) ({ cls := "SmellBurdens$Wall", name := "orderOf", desc := "(LSmellBurdens$Plain;I)I" } : Jvm.MethodName)) ∈ xG := xg (xt3 (List.mem_of_getElem? (i := 218) (by decide +kernel))) rfl
theorem wdX9_66 : (Jvm.Cond.methodLink "SmellBurdens$Wall" (66 : Nat) ({ cls := "SmellBurdens$Wall", name := "takesBy", desc := "(LSmellBurdens$Plain;JIII)Z" } : Jvm.MethodName)) ∈ xG := xg (xt3 (List.mem_of_getElem? (i := 221) (by decide +kernel))) rfl
def pX9_firstOrder : List xE := [(0, 1, .iconst 0, 0, 0, 0, []), (1, 2, .istore 5, 5, 0, 0, []), (3, 2, .iload 5, 5, 0, 0, []), (5, 1, .aload_n 0, 0, 0, 0, []), (6, 3, .invokestatic 58, 0, 0, 0, []), (9, 3, .if_icmp .ge 33, 42, 0, 0, []), (12, 1, .aload_n 0, 0, 0, 0, []), (13, 2, .iload 5, 5, 0, 0, []), (15, 3, .invokestatic 62, 1, 0, 0, []), (18, 2, .istore 6, 6, 0, 0, []), (20, 1, .aload_n 0, 0, 0, 0, []), (21, 1, .lload_n 1, 1, 0, 0, []), (22, 2, .iload 6, 6, 0, 0, []), (24, 1, .iload_n 3, 3, 0, 0, []), (25, 2, .iload 4, 4, 0, 0, []), (27, 3, .invokestatic 66, 2, 0, 0, []), (30, 3, .ifCond .eq 6, 36, 0, 0, []), (33, 2, .iload 6, 6, 0, 0, []), (35, 1, .ireturn, 0, 0, 0, []), (36, 3, .iinc 5 1, 5, 1, 0, []), (39, 3, .goto (-36), 3, 0, 0, []), (42, 2, .bipush (-9), 9, 0, 0, []), (44, 1, .ireturn, 0, 0, 0, [])]
def mX9_firstOrder : xM := (yX9_firstOrder, cX9_firstOrder, 7, (some FieldType.int), 1, 4, 6, 6, 154, 0, pX9_firstOrder)
theorem dX9_firstOrder : xDec cX9_firstOrder pX9_firstOrder = true := by decide +kernel
theorem hX9_firstOrder : xHd mX9_firstOrder := ⟨xg (w := (Jvm.Cond.code ({ cls := "SmellBurdens$Wall", name := "firstOrder", desc := "(LSmellBurdens$Plain;JII)I" } : Jvm.MethodName) prog_11_method_10_code (7 : Nat) (Option.some Jvm.ClassFile.FieldType.int))) (xt3 (List.mem_of_getElem? (i := 214) (by decide +kernel))) rfl, xg (w := (Jvm.Cond.initialized "SmellBurdens$Wall")) (xt1 (List.mem_of_getElem? (i := 8) (by decide +kernel))) rfl, ⟨by decide +kernel, by decide +kernel, by decide +kernel⟩, xg (w := (Jvm.Cond.static ({ cls := "SmellBurdens$Wall", name := "firstOrder", desc := "(LSmellBurdens$Plain;JII)I" } : Jvm.MethodName))) (xt3 (List.mem_of_getElem? (i := 213) (by decide +kernel))) rfl⟩
def pX9_howManyOrders : List xE := [(0, 1, .iconst 0, 0, 0, 0, []), (1, 2, .istore 5, 5, 0, 0, []), (3, 1, .iconst 0, 0, 0, 0, []), (4, 2, .istore 6, 6, 0, 0, []), (6, 2, .iload 6, 6, 0, 0, []), (8, 1, .aload_n 0, 0, 0, 0, []), (9, 3, .invokestatic 58, 0, 0, 0, []), (12, 3, .if_icmp .ge 36, 48, 0, 0, []), (15, 2, .iload 5, 5, 0, 0, []), (17, 1, .aload_n 0, 0, 0, 0, []), (18, 1, .lload_n 1, 1, 0, 0, []), (19, 1, .aload_n 0, 0, 0, 0, []), (20, 2, .iload 6, 6, 0, 0, []), (22, 3, .invokestatic 62, 1, 0, 0, []), (25, 1, .iload_n 3, 3, 0, 0, []), (26, 2, .iload 4, 4, 0, 0, []), (28, 3, .invokestatic 66, 2, 0, 0, []), (31, 3, .ifCond .eq 7, 38, 0, 0, []), (34, 1, .iconst 1, 1, 0, 0, []), (35, 3, .goto 4, 39, 0, 0, []), (38, 1, .iconst 0, 0, 0, 0, []), (39, 1, .iadd, 0, 0, 0, []), (40, 2, .istore 5, 5, 0, 0, []), (42, 3, .iinc 6 1, 6, 1, 0, []), (45, 3, .goto (-39), 6, 0, 0, []), (48, 2, .iload 5, 5, 0, 0, []), (50, 1, .ireturn, 0, 0, 0, [])]
def mX9_howManyOrders : xM := (yX9_howManyOrders, cX9_howManyOrders, 7, (some FieldType.int), 1, 4, 6, 6, 154, 0, pX9_howManyOrders)
theorem dX9_howManyOrders : xDec cX9_howManyOrders pX9_howManyOrders = true := by decide +kernel
theorem hX9_howManyOrders : xHd mX9_howManyOrders := ⟨xg (w := (Jvm.Cond.code ({ cls := "SmellBurdens$Wall", name := "howManyOrders", desc := "(LSmellBurdens$Plain;JII)I" } : Jvm.MethodName) prog_11_method_11_code (7 : Nat) (Option.some Jvm.ClassFile.FieldType.int))) (xt3 (List.mem_of_getElem? (i := 233) (by decide +kernel))) rfl, xg (w := (Jvm.Cond.initialized "SmellBurdens$Wall")) (xt1 (List.mem_of_getElem? (i := 8) (by decide +kernel))) rfl, ⟨by decide +kernel, by decide +kernel, by decide +kernel⟩, xg (w := (Jvm.Cond.static ({ cls := "SmellBurdens$Wall", name := "howManyOrders", desc := "(LSmellBurdens$Plain;JII)I" } : Jvm.MethodName))) (xt3 (List.mem_of_getElem? (i := 232) (by decide +kernel))) rfl⟩
def pX9_codes : List xE := [(0, 1, .iconst 1, 1, 0, 0, []), (1, 1, .iconst 2, 2, 0, 0, []), (2, 1, .aload_n 0, 0, 0, 0, []), (3, 3, .getfield 19, 3, 0, 1, []), (6, 1, .imul, 0, 0, 0, []), (7, 1, .ishl, 0, 0, 0, []), (8, 1, .ireturn, 0, 0, 0, [])]
def mX9_codes : xM := (yX9_codes, cX9_codes, 1, (some FieldType.int), 1, 1, 6, 0, 0, 0, pX9_codes)
theorem dX9_codes : xDec cX9_codes pX9_codes = true := by decide +kernel
theorem hX9_codes : xHd mX9_codes := ⟨xg (w := (Jvm.Cond.code ({ cls := "SmellBurdens$Wall", name := "codes", desc := "(LSmellBurdens$Plain;)I" } : Jvm.MethodName) prog_11_method_12_code (1 : Nat) (Option.some Jvm.ClassFile.FieldType.int))) (xt3 (List.mem_of_getElem? (i := 217) (by decide +kernel))) rfl, xg (w := (Jvm.Cond.initialized "SmellBurdens$Wall")) (xt1 (List.mem_of_getElem? (i := 8) (by decide +kernel))) rfl, ⟨by decide +kernel, by decide +kernel, by decide +kernel⟩, xg (w := (Jvm.Cond.static ({ cls := "SmellBurdens$Wall", name := "codes", desc := "(LSmellBurdens$Plain;)I" } : Jvm.MethodName))) (xt3 (List.mem_of_getElem? (i := 216) (by decide +kernel))) rfl⟩
def pX9_orderOf : List xE := [(0, 1, .iload_n 1, 1, 0, 0, []), (1, 1, .iconst 2, 2, 0, 0, []), (2, 1, .iconst 4, 4, 0, 0, []), (3, 1, .aload_n 0, 0, 0, 0, []), (4, 3, .getfield 19, 3, 0, 1, []), (7, 1, .isub, 0, 0, 0, []), (8, 1, .imul, 0, 0, 0, []), (9, 1, .ishl, 0, 0, 0, []), (10, 1, .ireturn, 0, 0, 0, [])]
def mX9_orderOf : xM := (yX9_orderOf, cX9_orderOf, 2, (some FieldType.int), 1, 2, 6, 0, 0, 0, pX9_orderOf)
theorem dX9_orderOf : xDec cX9_orderOf pX9_orderOf = true := by decide +kernel
theorem hX9_orderOf : xHd mX9_orderOf := ⟨xg (w := (Jvm.Cond.code ({ cls := "SmellBurdens$Wall", name := "orderOf", desc := "(LSmellBurdens$Plain;I)I" } : Jvm.MethodName) prog_11_method_13_code (2 : Nat) (Option.some Jvm.ClassFile.FieldType.int))) (xt3 (List.mem_of_getElem? (i := 220) (by decide +kernel))) rfl, xg (w := (Jvm.Cond.initialized "SmellBurdens$Wall")) (xt1 (List.mem_of_getElem? (i := 8) (by decide +kernel))) rfl, ⟨by decide +kernel, by decide +kernel, by decide +kernel⟩, xg (w := (Jvm.Cond.static ({ cls := "SmellBurdens$Wall", name := "orderOf", desc := "(LSmellBurdens$Plain;I)I" } : Jvm.MethodName))) (xt3 (List.mem_of_getElem? (i := 219) (by decide +kernel))) rfl⟩
theorem wdX9_70 : (Jvm.Cond.methodLink "SmellBurdens$Wall" (70 : Nat) ({ cls := "SmellBurdens$Wall", name := "isOrder", desc := "(LSmellBurdens$Plain;I)Z" } : Jvm.MethodName)) ∈ xG := xg (xt3 (List.mem_of_getElem? (i := 224) (by decide +kernel))) rfl
theorem wdX9_74 : (Jvm.Cond.methodLink "SmellBurdens$Wall" (74 : Nat) ({ cls := "SmellBurdens$Plain", name := "takesOf", desc := "(JII)I" } : Jvm.MethodName)) ∈ xG := xg (xt3 (List.mem_of_getElem? (i := 228) (by decide +kernel))) rfl
theorem wdX9_77 : (Jvm.Cond.methodLink "SmellBurdens$Wall" (77 : Nat) ({ cls := "SmellBurdens$Plain", name := "loadTaken", desc := "(II)I" } : Jvm.MethodName)) ∈ xG := xg (xt3 (List.mem_of_getElem? (i := 229) (by decide +kernel))) rfl
def pX9_takesBy : List xE := [(0, 1, .aload_n 0, 0, 0, 0, []), (1, 1, .iload_n 3, 3, 0, 0, []), (2, 3, .invokestatic 70, 0, 0, 0, []), (5, 3, .ifCond .eq 25, 30, 0, 0, []), (8, 1, .aload_n 0, 0, 0, 0, []), (9, 1, .lload_n 1, 1, 0, 0, []), (10, 1, .iload_n 3, 3, 0, 0, []), (11, 2, .bipush 15, 15, 0, 0, []), (13, 3, .invokevirtual 74, 1, 0, 0, []), (16, 2, .iload 4, 4, 0, 0, []), (18, 3, .invokestatic 77, 2, 0, 0, []), (21, 2, .iload 5, 5, 0, 0, []), (23, 3, .if_icmp .ne 7, 30, 0, 0, []), (26, 1, .iconst 1, 1, 0, 0, []), (27, 3, .goto 4, 31, 0, 0, []), (30, 1, .iconst 0, 0, 0, 0, []), (31, 1, .ireturn, 0, 0, 0, [])]
def mX9_takesBy : xM := (yX9_takesBy, cX9_takesBy, 6, (some FieldType.boolean), 1, 5, 6, 5, 129, 0, pX9_takesBy)
theorem dX9_takesBy : xDec cX9_takesBy pX9_takesBy = true := by decide +kernel
theorem hX9_takesBy : xHd mX9_takesBy := ⟨xg (w := (Jvm.Cond.code ({ cls := "SmellBurdens$Wall", name := "takesBy", desc := "(LSmellBurdens$Plain;JIII)Z" } : Jvm.MethodName) prog_11_method_14_code (6 : Nat) (Option.some Jvm.ClassFile.FieldType.boolean))) (xt3 (List.mem_of_getElem? (i := 223) (by decide +kernel))) rfl, xg (w := (Jvm.Cond.initialized "SmellBurdens$Wall")) (xt1 (List.mem_of_getElem? (i := 8) (by decide +kernel))) rfl, ⟨by decide +kernel, by decide +kernel, by decide +kernel⟩, xg (w := (Jvm.Cond.static ({ cls := "SmellBurdens$Wall", name := "takesBy", desc := "(LSmellBurdens$Plain;JIII)Z" } : Jvm.MethodName))) (xt3 (List.mem_of_getElem? (i := 222) (by decide +kernel))) rfl⟩
theorem wdX9_80 : (Jvm.Cond.methodLink "SmellBurdens$Wall" (80 : Nat) ({ cls := "SmellBurdens$Plain", name := "assInLine", desc := "(II)I" } : Jvm.MethodName)) ∈ xG := xg (xt3 (List.mem_of_getElem? (i := 227) (by decide +kernel))) rfl
def pX9_isOrder : List xE := [(0, 1, .iconst 0, 0, 0, 0, []), (1, 1, .istore_n 2, 2, 0, 0, []), (2, 1, .iconst 0, 0, 0, 0, []), (3, 1, .istore_n 3, 3, 0, 0, []), (4, 1, .iload_n 3, 3, 0, 0, []), (5, 1, .aload_n 0, 0, 0, 0, []), (6, 3, .getfield 19, 3, 0, 1, []), (9, 3, .if_icmp .ge 19, 28, 0, 0, []), (12, 1, .iload_n 2, 2, 0, 0, []), (13, 1, .iconst 1, 1, 0, 0, []), (14, 1, .iload_n 1, 1, 0, 0, []), (15, 1, .iload_n 3, 3, 0, 0, []), (16, 3, .invokestatic 80, 0, 0, 0, []), (19, 1, .ishl, 0, 0, 0, []), (20, 1, .ior, 0, 0, 0, []), (21, 1, .istore_n 2, 2, 0, 0, []), (22, 3, .iinc 3 1, 3, 1, 0, []), (25, 3, .goto (-21), 4, 0, 0, []), (28, 1, .iload_n 2, 2, 0, 0, []), (29, 1, .iconst 1, 1, 0, 0, []), (30, 1, .aload_n 0, 0, 0, 0, []), (31, 3, .getfield 19, 3, 0, 1, []), (34, 1, .ishl, 0, 0, 0, []), (35, 1, .iconst 1, 1, 0, 0, []), (36, 1, .isub, 0, 0, 0, []), (37, 3, .if_icmp .ne 7, 44, 0, 0, []), (40, 1, .iconst 1, 1, 0, 0, []), (41, 3, .goto 4, 45, 0, 0, []), (44, 1, .iconst 0, 0, 0, 0, []), (45, 1, .ireturn, 0, 0, 0, [])]
def mX9_isOrder : xM := (yX9_isOrder, cX9_isOrder, 4, (some FieldType.boolean), 1, 2, 6, 1, 21, 0, pX9_isOrder)
theorem dX9_isOrder : xDec cX9_isOrder pX9_isOrder = true := by decide +kernel
theorem hX9_isOrder : xHd mX9_isOrder := ⟨xg (w := (Jvm.Cond.code ({ cls := "SmellBurdens$Wall", name := "isOrder", desc := "(LSmellBurdens$Plain;I)Z" } : Jvm.MethodName) prog_11_method_15_code (4 : Nat) (Option.some Jvm.ClassFile.FieldType.boolean))) (xt3 (List.mem_of_getElem? (i := 226) (by decide +kernel))) rfl, xg (w := (Jvm.Cond.initialized "SmellBurdens$Wall")) (xt1 (List.mem_of_getElem? (i := 8) (by decide +kernel))) rfl, ⟨by decide +kernel, by decide +kernel, by decide +kernel⟩, xg (w := (Jvm.Cond.static ({ cls := "SmellBurdens$Wall", name := "isOrder", desc := "(LSmellBurdens$Plain;I)Z" } : Jvm.MethodName))) (xt3 (List.mem_of_getElem? (i := 225) (by decide +kernel))) rfl⟩
theorem wdX9_83 : (Jvm.Cond.methodLink "SmellBurdens$Wall" (83 : Nat) ({ cls := "java/lang/Integer", name := "bitCount", desc := "(I)I" } : Jvm.MethodName)) ∈ xG := xg (xt4 (List.mem_of_getElem? (i := 1) (by decide +kernel))) rfl
theorem wdX9_89 : (Jvm.Cond.methodLink "SmellBurdens$Wall" (89 : Nat) ({ cls := "SmellBurdens$Wall", name := "takeAll", desc := "(LSmellBurdens$Plain;JI)Z" } : Jvm.MethodName)) ∈ xG := xg (xt4 (List.mem_of_getElem? (i := 2) (by decide +kernel))) rfl
def pX9_fewestForAll : List xE := [(0, 2, .bipush (-9), 9, 0, 0, []), (2, 1, .istore_n 3, 3, 0, 0, []), (3, 1, .iconst 5, 5, 0, 0, []), (4, 2, .istore 4, 4, 0, 0, []), (6, 1, .iconst 0, 0, 0, 0, []), (7, 2, .istore 5, 5, 0, 0, []), (9, 2, .iload 5, 5, 0, 0, []), (11, 1, .iconst 1, 1, 0, 0, []), (12, 1, .aload_n 0, 0, 0, 0, []), (13, 3, .getfield 19, 3, 0, 1, []), (16, 1, .ishl, 0, 0, 0, []), (17, 3, .if_icmp .ge 40, 57, 0, 0, []), (20, 2, .iload 5, 5, 0, 0, []), (22, 3, .invokestatic 83, 0, 0, 0, []), (25, 2, .istore 6, 6, 0, 0, []), (27, 2, .iload 6, 6, 0, 0, []), (29, 2, .iload 4, 4, 0, 0, []), (31, 3, .if_icmp .ge 20, 51, 0, 0, []), (34, 1, .aload_n 0, 0, 0, 0, []), (35, 1, .lload_n 1, 1, 0, 0, []), (36, 2, .iload 5, 5, 0, 0, []), (38, 3, .invokestatic 89, 1, 0, 0, []), (41, 3, .ifCond .eq 10, 51, 0, 0, []), (44, 2, .iload 6, 6, 0, 0, []), (46, 2, .istore 4, 4, 0, 0, []), (48, 2, .iload 5, 5, 0, 0, []), (50, 1, .istore_n 3, 3, 0, 0, []), (51, 3, .iinc 5 1, 5, 1, 0, []), (54, 3, .goto (-45), 9, 0, 0, []), (57, 1, .iload_n 3, 3, 0, 0, []), (58, 1, .ireturn, 0, 0, 0, [])]
def mX9_fewestForAll : xM := (yX9_fewestForAll, cX9_fewestForAll, 7, (some FieldType.int), 1, 2, 6, 6, 138, 0, pX9_fewestForAll)
theorem dX9_fewestForAll : xDec cX9_fewestForAll pX9_fewestForAll = true := by decide +kernel
theorem hX9_fewestForAll : xHd mX9_fewestForAll := ⟨xg (w := (Jvm.Cond.code ({ cls := "SmellBurdens$Wall", name := "fewestForAll", desc := "(LSmellBurdens$Plain;J)I" } : Jvm.MethodName) prog_11_method_16_code (7 : Nat) (Option.some Jvm.ClassFile.FieldType.int))) (xt4 (List.mem_of_getElem? (i := 0) (by decide +kernel))) rfl, xg (w := (Jvm.Cond.initialized "SmellBurdens$Wall")) (xt1 (List.mem_of_getElem? (i := 8) (by decide +kernel))) rfl, ⟨by decide +kernel, by decide +kernel, by decide +kernel⟩, xg (w := (Jvm.Cond.static ({ cls := "SmellBurdens$Wall", name := "fewestForAll", desc := "(LSmellBurdens$Plain;J)I" } : Jvm.MethodName))) (xt3 (List.mem_of_getElem? (i := 239) (by decide +kernel))) rfl⟩
theorem wdX9_93 : (Jvm.Cond.methodLink "SmellBurdens$Wall" (93 : Nat) ({ cls := "SmellBurdens$Scene", name := "marksOf", desc := "(JI)I" } : Jvm.MethodName)) ∈ xG := xg (xt4 (List.mem_of_getElem? (i := 5) (by decide +kernel))) rfl
theorem wdX9_99 : (Jvm.Cond.methodLink "SmellBurdens$Wall" (99 : Nat) ({ cls := "SmellBurdens$Plain", name := "takersOf", desc := "(JI)I" } : Jvm.MethodName)) ∈ xG := xg (xt4 (List.mem_of_getElem? (i := 6) (by decide +kernel))) rfl
def pX9_takeAll : List xE := [(0, 1, .iconst 0, 0, 0, 0, []), (1, 2, .istore 4, 4, 0, 0, []), (3, 2, .iload 4, 4, 0, 0, []), (5, 1, .aload_n 0, 0, 0, 0, []), (6, 3, .getfield 33, 3, 1, 1, []), (9, 3, .if_icmp .ge 27, 36, 0, 0, []), (12, 1, .aload_n 0, 0, 0, 0, []), (13, 1, .lload_n 1, 1, 0, 0, []), (14, 1, .lload_n 1, 1, 0, 0, []), (15, 2, .iload 4, 4, 0, 0, []), (17, 3, .invokestatic 93, 0, 0, 0, []), (20, 3, .invokevirtual 99, 1, 0, 0, []), (23, 1, .iload_n 3, 3, 0, 0, []), (24, 1, .iand, 0, 0, 0, []), (25, 3, .ifCond .ne 5, 30, 0, 0, []), (28, 1, .iconst 0, 0, 0, 0, []), (29, 1, .ireturn, 0, 0, 0, []), (30, 3, .iinc 4 1, 4, 1, 0, []), (33, 3, .goto (-30), 3, 0, 0, []), (36, 1, .iconst 1, 1, 0, 0, []), (37, 1, .ireturn, 0, 0, 0, [])]
def mX9_takeAll : xM := (yX9_takeAll, cX9_takeAll, 5, (some FieldType.boolean), 1, 3, 6, 5, 114, 0, pX9_takeAll)
theorem dX9_takeAll : xDec cX9_takeAll pX9_takeAll = true := by decide +kernel
theorem hX9_takeAll : xHd mX9_takeAll := ⟨xg (w := (Jvm.Cond.code ({ cls := "SmellBurdens$Wall", name := "takeAll", desc := "(LSmellBurdens$Plain;JI)Z" } : Jvm.MethodName) prog_11_method_17_code (5 : Nat) (Option.some Jvm.ClassFile.FieldType.boolean))) (xt4 (List.mem_of_getElem? (i := 4) (by decide +kernel))) rfl, xg (w := (Jvm.Cond.initialized "SmellBurdens$Wall")) (xt1 (List.mem_of_getElem? (i := 8) (by decide +kernel))) rfl, ⟨by decide +kernel, by decide +kernel, by decide +kernel⟩, xg (w := (Jvm.Cond.static ({ cls := "SmellBurdens$Wall", name := "takeAll", desc := "(LSmellBurdens$Plain;JI)Z" } : Jvm.MethodName))) (xt4 (List.mem_of_getElem? (i := 3) (by decide +kernel))) rfl⟩
theorem wdX9_102 : (Jvm.Cond.methodLink "SmellBurdens$Wall" (102 : Nat) ({ cls := "SmellBurdens$Wall", name := "aheadOfTurn", desc := "(JZ)J" } : Jvm.MethodName)) ∈ xG := xg (xt4 (List.mem_of_getElem? (i := 52) (by decide +kernel))) rfl
theorem wdX9_106 : (Jvm.Cond.methodLink "SmellBurdens$Wall" (106 : Nat) ({ cls := "SmellBurdens$Wall", name := "valueOf", desc := "(JI)I" } : Jvm.MethodName)) ∈ xG := xg (xt4 (List.mem_of_getElem? (i := 55) (by decide +kernel))) rfl
def pX9_takersByTurns : List xE := [(0, 1, .lconst 0, 0, 0, 0, []), (1, 2, .lstore 5, 5, 0, 0, []), (3, 1, .iconst 0, 0, 0, 0, []), (4, 2, .istore 7, 7, 0, 0, []), (6, 2, .iload 7, 7, 0, 0, []), (8, 2, .bipush 16, 16, 0, 0, []), (10, 3, .if_icmp .ge 34, 44, 0, 0, []), (13, 1, .aload_n 0, 0, 0, 0, []), (14, 1, .lload_n 1, 1, 0, 0, []), (15, 2, .iload 7, 7, 0, 0, []), (17, 3, .invokevirtual 99, 0, 0, 0, []), (20, 3, .invokestatic 83, 1, 0, 0, []), (23, 1, .i2l, 0, 0, 0, []), (24, 2, .lstore 8, 8, 0, 0, []), (26, 2, .lload 5, 5, 0, 0, []), (28, 2, .lload 8, 8, 0, 0, []), (30, 1, .iconst 4, 4, 0, 0, []), (31, 2, .iload 7, 7, 0, 0, []), (33, 1, .imul, 0, 0, 0, []), (34, 1, .lshl, 0, 0, 0, []), (35, 1, .lor, 0, 0, 0, []), (36, 2, .lstore 5, 5, 0, 0, []), (38, 3, .iinc 7 1, 7, 1, 0, []), (41, 3, .goto (-35), 6, 0, 0, []), (44, 1, .iconst 0, 0, 0, 0, []), (45, 2, .istore 7, 7, 0, 0, []), (47, 2, .iload 7, 7, 0, 0, []), (49, 2, .iload 4, 4, 0, 0, []), (51, 3, .if_icmp .ge 21, 72, 0, 0, []), (54, 2, .lload 5, 5, 0, 0, []), (56, 1, .iconst 0, 0, 0, 0, []), (57, 3, .invokestatic 102, 2, 0, 0, []), (60, 1, .iconst 1, 1, 0, 0, []), (61, 3, .invokestatic 102, 2, 0, 0, []), (64, 2, .lstore 5, 5, 0, 0, []), (66, 3, .iinc 7 1, 7, 1, 0, []), (69, 3, .goto (-22), 47, 0, 0, []), (72, 2, .lload 5, 5, 0, 0, []), (74, 1, .lload_n 1, 1, 0, 0, []), (75, 1, .iload_n 3, 3, 0, 0, []), (76, 3, .invokestatic 93, 3, 0, 0, []), (79, 3, .invokestatic 106, 4, 0, 0, []), (82, 1, .ireturn, 0, 0, 0, [])]
def mX9_takersByTurns : xM := (yX9_takersByTurns, cX9_takersByTurns, 10, (some FieldType.int), 1, 4, 6, 5, 114, 0, pX9_takersByTurns)
theorem dX9_takersByTurns : xDec cX9_takersByTurns pX9_takersByTurns = true := by decide +kernel
theorem hX9_takersByTurns : xHd mX9_takersByTurns := ⟨xg (w := (Jvm.Cond.code ({ cls := "SmellBurdens$Wall", name := "takersByTurns", desc := "(LSmellBurdens$Plain;JII)I" } : Jvm.MethodName) prog_11_method_18_code (10 : Nat) (Option.some Jvm.ClassFile.FieldType.int))) (xt4 (List.mem_of_getElem? (i := 51) (by decide +kernel))) rfl, xg (w := (Jvm.Cond.initialized "SmellBurdens$Wall")) (xt1 (List.mem_of_getElem? (i := 8) (by decide +kernel))) rfl, ⟨by decide +kernel, by decide +kernel, by decide +kernel⟩, xg (w := (Jvm.Cond.static ({ cls := "SmellBurdens$Wall", name := "takersByTurns", desc := "(LSmellBurdens$Plain;JII)I" } : Jvm.MethodName))) (xt4 (List.mem_of_getElem? (i := 50) (by decide +kernel))) rfl⟩
def pX9_valueOf : List xE := [(0, 1, .lload_n 0, 0, 0, 0, []), (1, 1, .iconst 4, 4, 0, 0, []), (2, 1, .iload_n 2, 2, 0, 0, []), (3, 1, .imul, 0, 0, 0, []), (4, 1, .lushr, 0, 0, 0, []), (5, 1, .l2i, 0, 0, 0, []), (6, 2, .bipush 15, 15, 0, 0, []), (8, 1, .iand, 0, 0, 0, []), (9, 1, .ireturn, 0, 0, 0, [])]
def mX9_valueOf : xM := (yX9_valueOf, cX9_valueOf, 3, (some FieldType.int), 1, 2, 6, 0, 0, 0, pX9_valueOf)
theorem dX9_valueOf : xDec cX9_valueOf pX9_valueOf = true := by decide +kernel
theorem hX9_valueOf : xHd mX9_valueOf := ⟨xg (w := (Jvm.Cond.code ({ cls := "SmellBurdens$Wall", name := "valueOf", desc := "(JI)I" } : Jvm.MethodName) prog_11_method_19_code (3 : Nat) (Option.some Jvm.ClassFile.FieldType.int))) (xt4 (List.mem_of_getElem? (i := 57) (by decide +kernel))) rfl, xg (w := (Jvm.Cond.initialized "SmellBurdens$Wall")) (xt1 (List.mem_of_getElem? (i := 8) (by decide +kernel))) rfl, ⟨by decide +kernel, by decide +kernel, by decide +kernel⟩, xg (w := (Jvm.Cond.static ({ cls := "SmellBurdens$Wall", name := "valueOf", desc := "(JI)I" } : Jvm.MethodName))) (xt4 (List.mem_of_getElem? (i := 56) (by decide +kernel))) rfl⟩
theorem wdX9_109 : (Jvm.Cond.methodLink "SmellBurdens$Wall" (109 : Nat) ({ cls := "java/lang/Math", name := "min", desc := "(II)I" } : Jvm.MethodName)) ∈ xG := xg (xt4 (List.mem_of_getElem? (i := 58) (by decide +kernel))) rfl
def pX9_aheadOfTurn : List xE := [(0, 1, .lconst 0, 0, 0, 0, []), (1, 1, .lstore_n 3, 3, 0, 0, []), (2, 1, .iconst 0, 0, 0, 0, []), (3, 2, .istore 5, 5, 0, 0, []), (5, 2, .iload 5, 5, 0, 0, []), (7, 2, .bipush 16, 16, 0, 0, []), (9, 3, .if_icmp .ge 79, 88, 0, 0, []), (12, 1, .lload_n 0, 0, 0, 0, []), (13, 2, .iload 5, 5, 0, 0, []), (15, 3, .invokestatic 106, 0, 0, 0, []), (18, 2, .istore 6, 6, 0, 0, []), (20, 1, .iconst 0, 0, 0, 0, []), (21, 2, .istore 7, 7, 0, 0, []), (23, 2, .iload 7, 7, 0, 0, []), (25, 1, .iconst 4, 4, 0, 0, []), (26, 3, .if_icmp .ge 45, 71, 0, 0, []), (29, 1, .lload_n 0, 0, 0, 0, []), (30, 2, .iload 5, 5, 0, 0, []), (32, 1, .iconst 1, 1, 0, 0, []), (33, 2, .iload 7, 7, 0, 0, []), (35, 1, .ishl, 0, 0, 0, []), (36, 1, .ixor, 0, 0, 0, []), (37, 3, .invokestatic 106, 0, 0, 0, []), (40, 2, .istore 8, 8, 0, 0, []), (42, 1, .iload_n 2, 2, 0, 0, []), (43, 3, .ifCond .eq 13, 56, 0, 0, []), (46, 2, .iload 6, 6, 0, 0, []), (48, 2, .iload 8, 8, 0, 0, []), (50, 3, .invokestatic 40, 0, 0, 1, []), (53, 3, .goto 10, 63, 0, 0, []), (56, 2, .iload 6, 6, 0, 0, []), (58, 2, .iload 8, 8, 0, 0, []), (60, 3, .invokestatic 109, 0, 0, 2, []), (63, 2, .istore 6, 6, 0, 0, []), (65, 3, .iinc 7 1, 7, 1, 0, []), (68, 3, .goto (-45), 23, 0, 0, []), (71, 1, .lload_n 3, 3, 0, 0, []), (72, 2, .iload 6, 6, 0, 0, []), (74, 1, .i2l, 0, 0, 0, []), (75, 1, .iconst 4, 4, 0, 0, []), (76, 2, .iload 5, 5, 0, 0, []), (78, 1, .imul, 0, 0, 0, []), (79, 1, .lshl, 0, 0, 0, []), (80, 1, .lor, 0, 0, 0, []), (81, 1, .lstore_n 3, 3, 0, 0, []), (82, 3, .iinc 5 1, 5, 1, 0, []), (85, 3, .goto (-80), 5, 0, 0, []), (88, 1, .lload_n 3, 3, 0, 0, []), (89, 1, .lreturn, 0, 0, 0, [])]
def mX9_aheadOfTurn : xM := (yX9_aheadOfTurn, cX9_aheadOfTurn, 9, (some FieldType.long), 1, 2, 6, 1, 22, 0, pX9_aheadOfTurn)
theorem dX9_aheadOfTurn : xDec cX9_aheadOfTurn pX9_aheadOfTurn = true := by decide +kernel
theorem hX9_aheadOfTurn : xHd mX9_aheadOfTurn := ⟨xg (w := (Jvm.Cond.code ({ cls := "SmellBurdens$Wall", name := "aheadOfTurn", desc := "(JZ)J" } : Jvm.MethodName) prog_11_method_20_code (9 : Nat) (Option.some Jvm.ClassFile.FieldType.long))) (xt4 (List.mem_of_getElem? (i := 54) (by decide +kernel))) rfl, xg (w := (Jvm.Cond.initialized "SmellBurdens$Wall")) (xt1 (List.mem_of_getElem? (i := 8) (by decide +kernel))) rfl, ⟨by decide +kernel, by decide +kernel, by decide +kernel⟩, xg (w := (Jvm.Cond.static ({ cls := "SmellBurdens$Wall", name := "aheadOfTurn", desc := "(JZ)J" } : Jvm.MethodName))) (xt4 (List.mem_of_getElem? (i := 53) (by decide +kernel))) rfl⟩
end
section
/-! 16.prog-class: printed of the program by wip/whole/gen_prog.py -/
theorem wdX10_1 : (Jvm.Cond.methodLink "SmellBurdens" (1 : Nat) ({ cls := "java/lang/Object", name := "<init>", desc := "()V" } : Jvm.MethodName)) ∈ xG := xg (xt1 (List.mem_of_getElem? (i := 22) (by decide +kernel))) rfl
theorem wdX10_7 : (Jvm.Cond.classLink "SmellBurdens" (7 : Nat) "SmellBurdens$Shelf") ∈ xG := xg (xt1 (List.mem_of_getElem? (i := 25) (by decide +kernel))) rfl
theorem wdX10_11 : (Jvm.Cond.methodLink "SmellBurdens" (11 : Nat) ({ cls := "SmellBurdens$Shelf", name := "<init>", desc := "(II)V" } : Jvm.MethodName)) ∈ xG := xg (xt1 (List.mem_of_getElem? (i := 27) (by decide +kernel))) rfl
theorem wdX10_14 : (Jvm.Cond.fieldLink "SmellBurdens" (14 : Nat) "SmellBurdens" "rows" "LSmellBurdens$Shelf;") ∈ xG := xg (xt1 (List.mem_of_getElem? (i := 163) (by decide +kernel))) rfl
theorem wdX10_18 : (Jvm.Cond.fieldLink "SmellBurdens" (18 : Nat) "SmellBurdens" "texts" "LSmellBurdens$Shelf;") ∈ xG := xg (xt1 (List.mem_of_getElem? (i := 164) (by decide +kernel))) rfl
theorem wdX10_21 : (Jvm.Cond.classLink "SmellBurdens" (21 : Nat) "SmellBurdens$Reader") ∈ xG := xg (xt1 (List.mem_of_getElem? (i := 45) (by decide +kernel))) rfl
theorem wdX10_23 : (Jvm.Cond.methodLinkNest "SmellBurdens" (23 : Nat) ({ cls := "SmellBurdens$Reader", name := "<init>", desc := "()V" } : Jvm.MethodName) "SmellBurdens") ∈ xNest := by decide +kernel
theorem wdX10_24 : (Jvm.Cond.fieldLink "SmellBurdens" (24 : Nat) "SmellBurdens" "reader" "LSmellBurdens$Reader;") ∈ xG := xg (xt1 (List.mem_of_getElem? (i := 165) (by decide +kernel))) rfl
theorem wdX10_28 : (Jvm.Cond.classLink "SmellBurdens" (28 : Nat) "SmellBurdens$Plain") ∈ xG := xg (xt1 (List.mem_of_getElem? (i := 99) (by decide +kernel))) rfl
theorem wdX10_30 : (Jvm.Cond.methodLinkNest "SmellBurdens" (30 : Nat) ({ cls := "SmellBurdens$Plain", name := "<init>", desc := "()V" } : Jvm.MethodName) "SmellBurdens") ∈ xNest := by decide +kernel
theorem wdX10_31 : (Jvm.Cond.fieldLink "SmellBurdens" (31 : Nat) "SmellBurdens" "plain" "LSmellBurdens$Plain;") ∈ xG := xg (xt1 (List.mem_of_getElem? (i := 166) (by decide +kernel))) rfl
theorem wdX10_35 : (Jvm.Cond.classLink "SmellBurdens" (35 : Nat) "SmellBurdens$Deeds") ∈ xG := xg (xt1 (List.mem_of_getElem? (i := 101) (by decide +kernel))) rfl
theorem wdX10_37 : (Jvm.Cond.methodLinkNest "SmellBurdens" (37 : Nat) ({ cls := "SmellBurdens$Deeds", name := "<init>", desc := "()V" } : Jvm.MethodName) "SmellBurdens") ∈ xNest := by decide +kernel
theorem wdX10_38 : (Jvm.Cond.fieldLink "SmellBurdens" (38 : Nat) "SmellBurdens" "deeds" "LSmellBurdens$Deeds;") ∈ xG := xg (xt1 (List.mem_of_getElem? (i := 167) (by decide +kernel))) rfl
theorem wdX10_42 : (Jvm.Cond.fieldLink "SmellBurdens" (42 : Nat) "SmellBurdens" "kept" "[LSmellBurdens$Deeds;") ∈ xG := xg (xt1 (List.mem_of_getElem? (i := 168) (by decide +kernel))) rfl
theorem wdX10_46 : (Jvm.Cond.classLink "SmellBurdens" (46 : Nat) "SmellBurdens$Foresight") ∈ xG := xg (xt1 (List.mem_of_getElem? (i := 124) (by decide +kernel))) rfl
theorem wdX10_48 : (Jvm.Cond.methodLinkNest "SmellBurdens" (48 : Nat) ({ cls := "SmellBurdens$Foresight", name := "<init>", desc := "()V" } : Jvm.MethodName) "SmellBurdens") ∈ xNest := by decide +kernel
theorem wdX10_49 : (Jvm.Cond.fieldLink "SmellBurdens" (49 : Nat) "SmellBurdens" "foresight" "LSmellBurdens$Foresight;") ∈ xG := xg (xt1 (List.mem_of_getElem? (i := 169) (by decide +kernel))) rfl
theorem wdX10_53 : (Jvm.Cond.classLink "SmellBurdens" (53 : Nat) "SmellBurdens$Wall") ∈ xG := xg (xt1 (List.mem_of_getElem? (i := 134) (by decide +kernel))) rfl
theorem wdX10_55 : (Jvm.Cond.methodLinkNest "SmellBurdens" (55 : Nat) ({ cls := "SmellBurdens$Wall", name := "<init>", desc := "()V" } : Jvm.MethodName) "SmellBurdens") ∈ xNest := by decide +kernel
theorem wdX10_56 : (Jvm.Cond.fieldLink "SmellBurdens" (56 : Nat) "SmellBurdens" "wall" "LSmellBurdens$Wall;") ∈ xG := xg (xt1 (List.mem_of_getElem? (i := 170) (by decide +kernel))) rfl
theorem wdX10_60 : (Jvm.Cond.classLink "SmellBurdens" (60 : Nat) "SmellBurdens$Chances") ∈ xG := xg (xt1 (List.mem_of_getElem? (i := 144) (by decide +kernel))) rfl
theorem wdX10_62 : (Jvm.Cond.methodLinkNest "SmellBurdens" (62 : Nat) ({ cls := "SmellBurdens$Chances", name := "<init>", desc := "()V" } : Jvm.MethodName) "SmellBurdens") ∈ xNest := by decide +kernel
theorem wdX10_63 : (Jvm.Cond.fieldLink "SmellBurdens" (63 : Nat) "SmellBurdens" "chances" "LSmellBurdens$Chances;") ∈ xG := xg (xt1 (List.mem_of_getElem? (i := 171) (by decide +kernel))) rfl
theorem wdX10_67 : (Jvm.Cond.fieldLink "SmellBurdens" (67 : Nat) "SmellBurdens" "findingCounts" "[I") ∈ xG := xg (xt1 (List.mem_of_getElem? (i := 172) (by decide +kernel))) rfl
theorem wdX10_71 : (Jvm.Cond.methodLink "SmellBurdens" (71 : Nat) ({ cls := "SmellBurdens$Deeds", name := "begin", desc := "(J)V" } : Jvm.MethodName)) ∈ xG := xg (xt1 (List.mem_of_getElem? (i := 159) (by decide +kernel))) rfl
def pX10_init : List xE := [(0, 1, .aload_n 0, 0, 0, 0, []), (1, 3, .invokespecial 1, 0, 0, 1, []), (4, 1, .aload_n 0, 0, 0, 0, []), (5, 3, .new 7, 5, 0, 0, []), (8, 1, .dup, 0, 0, 0, []), (9, 2, .bipush 6, 6, 0, 0, []), (11, 2, .bipush 40, 40, 0, 0, []), (13, 3, .invokespecial 11, 0, 0, 0, []), (16, 3, .putfield 14, 7, 0, 0, []), (19, 1, .aload_n 0, 0, 0, 0, []), (20, 3, .new 7, 5, 0, 0, []), (23, 1, .dup, 0, 0, 0, []), (24, 1, .iconst 4, 4, 0, 0, []), (25, 2, .bipush 60, 60, 0, 0, []), (27, 3, .invokespecial 11, 0, 0, 0, []), (30, 3, .putfield 18, 7, 1, 0, []), (33, 1, .aload_n 0, 0, 0, 0, []), (34, 3, .new 21, 4, 0, 0, []), (37, 1, .dup, 0, 0, 0, []), (38, 3, .invokespecial 23, 1, 1, 0, []), (41, 3, .putfield 24, 7, 2, 0, []), (44, 1, .aload_n 0, 0, 0, 0, []), (45, 3, .new 28, 3, 0, 0, []), (48, 1, .dup, 0, 0, 0, []), (49, 3, .invokespecial 30, 2, 1, 0, []), (52, 3, .putfield 31, 7, 3, 0, []), (55, 1, .aload_n 0, 0, 0, 0, []), (56, 3, .new 35, 1, 0, 0, []), (59, 1, .dup, 0, 0, 0, []), (60, 3, .invokespecial 37, 3, 1, 0, []), (63, 3, .putfield 38, 7, 4, 0, []), (66, 1, .aload_n 0, 0, 0, 0, []), (67, 1, .iconst 3, 3, 0, 0, []), (68, 3, .anewarray 35, 0, 0, 0, []), (71, 3, .putfield 42, 7, 5, 0, []), (74, 1, .aload_n 0, 0, 0, 0, []), (75, 3, .new 46, 2, 0, 0, []), (78, 1, .dup, 0, 0, 0, []), (79, 3, .invokespecial 48, 4, 1, 0, []), (82, 3, .putfield 49, 7, 6, 0, []), (85, 1, .aload_n 0, 0, 0, 0, []), (86, 3, .new 53, 6, 0, 0, []), (89, 1, .dup, 0, 0, 0, []), (90, 3, .invokespecial 55, 5, 1, 0, []), (93, 3, .putfield 56, 7, 7, 0, []), (96, 1, .aload_n 0, 0, 0, 0, []), (97, 3, .new 60, 0, 0, 0, []), (100, 1, .dup, 0, 0, 0, []), (101, 3, .invokespecial 62, 6, 1, 0, []), (104, 3, .putfield 63, 7, 8, 0, []), (107, 1, .aload_n 0, 0, 0, 0, []), (108, 2, .bipush 6, 6, 0, 0, []), (110, 2, .newarray .int, 0, 0, 1, []), (112, 3, .putfield 67, 7, 9, 0, []), (115, 1, .aload_n 0, 0, 0, 0, []), (116, 3, .getfield 38, 7, 4, 0, []), (119, 1, .lconst 0, 0, 0, 0, []), (120, 3, .invokevirtual 71, 7, 0, 0, []), (123, 1, .iconst 0, 0, 0, 0, []), (124, 1, .istore_n 1, 1, 0, 0, []), (125, 1, .iload_n 1, 1, 0, 0, []), (126, 1, .aload_n 0, 0, 0, 0, []), (127, 3, .getfield 42, 7, 5, 0, []), (130, 1, .arraylength, 0, 0, 0, []), (131, 3, .if_icmp .ge 22, 153, 0, 0, []), (134, 1, .aload_n 0, 0, 0, 0, []), (135, 3, .getfield 42, 7, 5, 0, []), (138, 1, .iload_n 1, 1, 0, 0, []), (139, 3, .new 35, 1, 0, 0, []), (142, 1, .dup, 0, 0, 0, []), (143, 3, .invokespecial 37, 3, 1, 0, []), (146, 1, .aastore, 0, 0, 0, []), (147, 3, .iinc 1 1, 1, 1, 0, []), (150, 3, .goto (-25), 125, 0, 0, []), (153, 1, .return_, 0, 0, 0, [])]
def mX10_init : xM := (yX10_init, cX10_init, 2, (none : Option FieldType), 2, 0, 7, 3, 60, 25, pX10_init)
theorem dX10_init : xDec cX10_init pX10_init = true := by decide +kernel
theorem hX10_init : xHd mX10_init := ⟨xg (w := (Jvm.Cond.code ({ cls := "SmellBurdens", name := "<init>", desc := "()V" } : Jvm.MethodName) prog_1_method_1_code (2 : Nat) (Option.none : Option Jvm.ClassFile.FieldType))) (xt1 (List.mem_of_getElem? (i := 21) (by decide +kernel))) rfl, xg (w := (Jvm.Cond.initialized "SmellBurdens")) (xt1 (List.mem_of_getElem? (i := 1) (by decide +kernel))) rfl, ⟨by decide +kernel, by decide +kernel, by decide +kernel⟩, xg (w := (Jvm.Cond.instanceMethod ({ cls := "SmellBurdens", name := "<init>", desc := "()V" } : Jvm.MethodName))) (xt1 (List.mem_of_getElem? (i := 20) (by decide +kernel))) rfl, rfl, rfl⟩
theorem wdX10_75 : (Jvm.Cond.methodLink "SmellBurdens" (75 : Nat) ({ cls := "SmellBurdens$Shelf", name := "isNumber", desc := "(I)Z" } : Jvm.MethodName)) ∈ xG := xg (xt1 (List.mem_of_getElem? (i := 204) (by decide +kernel))) rfl
theorem wdX10_79 : (Jvm.Cond.methodLink "SmellBurdens" (79 : Nat) ({ cls := "SmellBurdens", name := "refuse", desc := "(I)I" } : Jvm.MethodName)) ∈ xG := xg (xt1 (List.mem_of_getElem? (i := 208) (by decide +kernel))) rfl
theorem wdX10_83 : (Jvm.Cond.methodLink "SmellBurdens" (83 : Nat) ({ cls := "SmellBurdens$Shelf", name := "renew", desc := "(III)V" } : Jvm.MethodName)) ∈ xG := xg (xt1 (List.mem_of_getElem? (i := 212) (by decide +kernel))) rfl
def pX10_row : List xE := [(0, 1, .aload_n 0, 0, 0, 0, []), (1, 3, .getfield 14, 7, 0, 0, []), (4, 1, .iload_n 1, 1, 0, 0, []), (5, 3, .invokevirtual 75, 0, 0, 0, []), (8, 3, .ifCond .eq 9, 17, 0, 0, []), (11, 1, .iload_n 2, 2, 0, 0, []), (12, 2, .bipush 40, 40, 0, 0, []), (14, 3, .if_icmp .le 5, 19, 0, 0, []), (17, 1, .iconst (-1), 1, 0, 0, []), (18, 1, .ireturn, 0, 0, 0, []), (19, 1, .iload_n 2, 2, 0, 0, []), (20, 3, .ifCond .ge 9, 29, 0, 0, []), (23, 1, .aload_n 0, 0, 0, 0, []), (24, 1, .iconst 5, 5, 0, 0, []), (25, 3, .invokevirtual 79, 1, 0, 0, []), (28, 1, .ireturn, 0, 0, 0, []), (29, 1, .aload_n 0, 0, 0, 0, []), (30, 3, .getfield 14, 7, 0, 0, []), (33, 1, .iload_n 1, 1, 0, 0, []), (34, 1, .iload_n 2, 2, 0, 0, []), (35, 1, .iconst 0, 0, 0, 0, []), (36, 3, .invokevirtual 83, 2, 0, 0, []), (39, 1, .iload_n 2, 2, 0, 0, []), (40, 1, .ireturn, 0, 0, 0, [])]
def mX10_row : xM := (yX10_row, cX10_row, 3, (some FieldType.int), 0, 2, 7, 5, 117, 0, pX10_row)
theorem dX10_row : xDec cX10_row pX10_row = true := by decide +kernel
theorem hX10_row : xHd mX10_row := ⟨xg (w := (Jvm.Cond.code ({ cls := "SmellBurdens", name := "row", desc := "(II)I" } : Jvm.MethodName) prog_1_method_2_code (3 : Nat) (Option.some Jvm.ClassFile.FieldType.int))) (xt1 (List.mem_of_getElem? (i := 203) (by decide +kernel))) rfl, xg (w := (Jvm.Cond.initialized "SmellBurdens")) (xt1 (List.mem_of_getElem? (i := 1) (by decide +kernel))) rfl, ⟨by decide +kernel, by decide +kernel, by decide +kernel⟩, xg (w := (Jvm.Cond.instanceMethod ({ cls := "SmellBurdens", name := "row", desc := "(II)I" } : Jvm.MethodName))) (xt1 (List.mem_of_getElem? (i := 201) (by decide +kernel))) rfl, xg (w := (Jvm.Cond.selects "SmellBurdens" ({ cls := "SmellBurdens", name := "row", desc := "(II)I" } : Jvm.MethodName) ({ cls := "SmellBurdens", name := "row", desc := "(II)I" } : Jvm.MethodName))) (xt1 (List.mem_of_getElem? (i := 202) (by decide +kernel))) rfl, rfl⟩
theorem wdX10_87 : (Jvm.Cond.methodLink "SmellBurdens" (87 : Nat) ({ cls := "SmellBurdens$Shelf", name := "wrongPlace", desc := "(II)I" } : Jvm.MethodName)) ∈ xG := xg (xt1 (List.mem_of_getElem? (i := 236) (by decide +kernel))) rfl
theorem wdX10_91 : (Jvm.Cond.methodLink "SmellBurdens" (91 : Nat) ({ cls := "SmellBurdens$Shelf", name := "swap", desc := "(III)I" } : Jvm.MethodName)) ∈ xG := xg (xt2 (List.mem_of_getElem? (i := 4) (by decide +kernel))) rfl
theorem wdX10_95 : (Jvm.Cond.methodLink "SmellBurdens" (95 : Nat) ({ cls := "SmellBurdens", name := "tell", desc := "(I)I" } : Jvm.MethodName)) ∈ xG := xg (xt2 (List.mem_of_getElem? (i := 5) (by decide +kernel))) rfl
def pX10_lay : List xE := [(0, 1, .aload_n 0, 0, 0, 0, []), (1, 3, .getfield 14, 7, 0, 0, []), (4, 1, .iload_n 1, 1, 0, 0, []), (5, 3, .invokevirtual 75, 0, 0, 0, []), (8, 3, .ifCond .ne 5, 13, 0, 0, []), (11, 1, .iconst (-1), 1, 0, 0, []), (12, 1, .ireturn, 0, 0, 0, []), (13, 1, .aload_n 0, 0, 0, 0, []), (14, 3, .getfield 14, 7, 0, 0, []), (17, 1, .iload_n 1, 1, 0, 0, []), (18, 1, .iload_n 2, 2, 0, 0, []), (19, 3, .invokevirtual 87, 1, 0, 0, []), (22, 2, .istore 4, 4, 0, 0, []), (24, 2, .iload 4, 4, 0, 0, []), (26, 3, .ifCond .eq 10, 36, 0, 0, []), (29, 1, .aload_n 0, 0, 0, 0, []), (30, 2, .iload 4, 4, 0, 0, []), (32, 3, .invokevirtual 79, 2, 0, 0, []), (35, 1, .ireturn, 0, 0, 0, []), (36, 1, .aload_n 0, 0, 0, 0, []), (37, 1, .aload_n 0, 0, 0, 0, []), (38, 3, .getfield 14, 7, 0, 0, []), (41, 1, .iload_n 1, 1, 0, 0, []), (42, 1, .iload_n 2, 2, 0, 0, []), (43, 1, .iload_n 3, 3, 0, 0, []), (44, 3, .invokevirtual 91, 3, 0, 0, []), (47, 3, .invokevirtual 95, 4, 0, 0, []), (50, 1, .ireturn, 0, 0, 0, [])]
def mX10_lay : xM := (yX10_lay, cX10_lay, 5, (some FieldType.int), 0, 3, 7, 4, 93, 0, pX10_lay)
theorem dX10_lay : xDec cX10_lay pX10_lay = true := by decide +kernel
theorem hX10_lay : xHd mX10_lay := ⟨xg (w := (Jvm.Cond.code ({ cls := "SmellBurdens", name := "lay", desc := "(III)I" } : Jvm.MethodName) prog_1_method_3_code (5 : Nat) (Option.some Jvm.ClassFile.FieldType.int))) (xt1 (List.mem_of_getElem? (i := 235) (by decide +kernel))) rfl, xg (w := (Jvm.Cond.initialized "SmellBurdens")) (xt1 (List.mem_of_getElem? (i := 1) (by decide +kernel))) rfl, ⟨by decide +kernel, by decide +kernel, by decide +kernel⟩, xg (w := (Jvm.Cond.instanceMethod ({ cls := "SmellBurdens", name := "lay", desc := "(III)I" } : Jvm.MethodName))) (xt1 (List.mem_of_getElem? (i := 233) (by decide +kernel))) rfl, xg (w := (Jvm.Cond.selects "SmellBurdens" ({ cls := "SmellBurdens", name := "lay", desc := "(III)I" } : Jvm.MethodName) ({ cls := "SmellBurdens", name := "lay", desc := "(III)I" } : Jvm.MethodName))) (xt1 (List.mem_of_getElem? (i := 234) (by decide +kernel))) rfl, rfl⟩
theorem wdX10_98 : (Jvm.Cond.methodLink "SmellBurdens" (98 : Nat) ({ cls := "SmellBurdens$Shelf", name := "get", desc := "(II)I" } : Jvm.MethodName)) ∈ xG := xg (xt2 (List.mem_of_getElem? (i := 13) (by decide +kernel))) rfl
def pX10_at : List xE := [(0, 1, .aload_n 0, 0, 0, 0, []), (1, 3, .getfield 14, 7, 0, 0, []), (4, 1, .iload_n 1, 1, 0, 0, []), (5, 3, .invokevirtual 75, 0, 0, 0, []), (8, 3, .ifCond .ne 5, 13, 0, 0, []), (11, 1, .iconst (-1), 1, 0, 0, []), (12, 1, .ireturn, 0, 0, 0, []), (13, 1, .aload_n 0, 0, 0, 0, []), (14, 3, .getfield 14, 7, 0, 0, []), (17, 1, .iload_n 1, 1, 0, 0, []), (18, 1, .iload_n 2, 2, 0, 0, []), (19, 3, .invokevirtual 87, 1, 0, 0, []), (22, 1, .istore_n 3, 3, 0, 0, []), (23, 1, .iload_n 3, 3, 0, 0, []), (24, 3, .ifCond .eq 9, 33, 0, 0, []), (27, 1, .aload_n 0, 0, 0, 0, []), (28, 1, .iload_n 3, 3, 0, 0, []), (29, 3, .invokevirtual 79, 2, 0, 0, []), (32, 1, .ireturn, 0, 0, 0, []), (33, 1, .aload_n 0, 0, 0, 0, []), (34, 1, .aload_n 0, 0, 0, 0, []), (35, 3, .getfield 14, 7, 0, 0, []), (38, 1, .iload_n 1, 1, 0, 0, []), (39, 1, .iload_n 2, 2, 0, 0, []), (40, 3, .invokevirtual 98, 3, 0, 0, []), (43, 3, .invokevirtual 95, 4, 0, 0, []), (46, 1, .ireturn, 0, 0, 0, [])]
def mX10_at : xM := (yX10_at, cX10_at, 4, (some FieldType.int), 0, 2, 7, 3, 68, 0, pX10_at)
theorem dX10_at : xDec cX10_at pX10_at = true := by decide +kernel
theorem hX10_at : xHd mX10_at := ⟨xg (w := (Jvm.Cond.code ({ cls := "SmellBurdens", name := "at", desc := "(II)I" } : Jvm.MethodName) prog_1_method_4_code (4 : Nat) (Option.some Jvm.ClassFile.FieldType.int))) (xt2 (List.mem_of_getElem? (i := 12) (by decide +kernel))) rfl, xg (w := (Jvm.Cond.initialized "SmellBurdens")) (xt1 (List.mem_of_getElem? (i := 1) (by decide +kernel))) rfl, ⟨by decide +kernel, by decide +kernel, by decide +kernel⟩, xg (w := (Jvm.Cond.instanceMethod ({ cls := "SmellBurdens", name := "at", desc := "(II)I" } : Jvm.MethodName))) (xt2 (List.mem_of_getElem? (i := 10) (by decide +kernel))) rfl, xg (w := (Jvm.Cond.selects "SmellBurdens" ({ cls := "SmellBurdens", name := "at", desc := "(II)I" } : Jvm.MethodName) ({ cls := "SmellBurdens", name := "at", desc := "(II)I" } : Jvm.MethodName))) (xt2 (List.mem_of_getElem? (i := 11) (by decide +kernel))) rfl, rfl⟩
theorem wdX10_101 : (Jvm.Cond.methodLink "SmellBurdens" (101 : Nat) ({ cls := "SmellBurdens$Shelf", name := "isThere", desc := "(I)Z" } : Jvm.MethodName)) ∈ xG := xg (xt2 (List.mem_of_getElem? (i := 18) (by decide +kernel))) rfl
theorem wdX10_104 : (Jvm.Cond.methodLink "SmellBurdens" (104 : Nat) ({ cls := "SmellBurdens$Shelf", name := "drop", desc := "(I)V" } : Jvm.MethodName)) ∈ xG := xg (xt2 (List.mem_of_getElem? (i := 19) (by decide +kernel))) rfl
def pX10_tear : List xE := [(0, 1, .aload_n 0, 0, 0, 0, []), (1, 3, .getfield 14, 7, 0, 0, []), (4, 1, .iload_n 1, 1, 0, 0, []), (5, 3, .invokevirtual 75, 0, 0, 0, []), (8, 3, .ifCond .ne 5, 13, 0, 0, []), (11, 1, .iconst (-1), 1, 0, 0, []), (12, 1, .ireturn, 0, 0, 0, []), (13, 1, .aload_n 0, 0, 0, 0, []), (14, 3, .getfield 14, 7, 0, 0, []), (17, 1, .iload_n 1, 1, 0, 0, []), (18, 3, .invokevirtual 101, 1, 0, 0, []), (21, 3, .ifCond .ne 9, 30, 0, 0, []), (24, 1, .aload_n 0, 0, 0, 0, []), (25, 1, .iconst 1, 1, 0, 0, []), (26, 3, .invokevirtual 79, 2, 0, 0, []), (29, 1, .ireturn, 0, 0, 0, []), (30, 1, .aload_n 0, 0, 0, 0, []), (31, 3, .getfield 14, 7, 0, 0, []), (34, 1, .iload_n 1, 1, 0, 0, []), (35, 3, .invokevirtual 104, 3, 0, 0, []), (38, 1, .iconst 1, 1, 0, 0, []), (39, 1, .ireturn, 0, 0, 0, [])]
def mX10_tear : xM := (yX10_tear, cX10_tear, 2, (some FieldType.int), 0, 1, 7, 2, 42, 0, pX10_tear)
theorem dX10_tear : xDec cX10_tear pX10_tear = true := by decide +kernel
theorem hX10_tear : xHd mX10_tear := ⟨xg (w := (Jvm.Cond.code ({ cls := "SmellBurdens", name := "tear", desc := "(I)I" } : Jvm.MethodName) prog_1_method_5_code (2 : Nat) (Option.some Jvm.ClassFile.FieldType.int))) (xt2 (List.mem_of_getElem? (i := 17) (by decide +kernel))) rfl, xg (w := (Jvm.Cond.initialized "SmellBurdens")) (xt1 (List.mem_of_getElem? (i := 1) (by decide +kernel))) rfl, ⟨by decide +kernel, by decide +kernel, by decide +kernel⟩, xg (w := (Jvm.Cond.instanceMethod ({ cls := "SmellBurdens", name := "tear", desc := "(I)I" } : Jvm.MethodName))) (xt2 (List.mem_of_getElem? (i := 15) (by decide +kernel))) rfl, xg (w := (Jvm.Cond.selects "SmellBurdens" ({ cls := "SmellBurdens", name := "tear", desc := "(I)I" } : Jvm.MethodName) ({ cls := "SmellBurdens", name := "tear", desc := "(I)I" } : Jvm.MethodName))) (xt2 (List.mem_of_getElem? (i := 16) (by decide +kernel))) rfl, rfl⟩
theorem wdX10_108 : (Jvm.Cond.methodLink "SmellBurdens" (108 : Nat) ({ cls := "SmellBurdens$Shelf", name := "holds", desc := "(III)Z" } : Jvm.MethodName)) ∈ xG := xg (xt2 (List.mem_of_getElem? (i := 27) (by decide +kernel))) rfl
theorem wdX10_112 : (Jvm.Cond.methodLink "SmellBurdens" (112 : Nat) ({ cls := "SmellBurdens$Shelf", name := "move", desc := "(IIIII)V" } : Jvm.MethodName)) ∈ xG := xg (xt2 (List.mem_of_getElem? (i := 28) (by decide +kernel))) rfl
def pX10_copy : List xE := [(0, 1, .aload_n 0, 0, 0, 0, []), (1, 3, .getfield 14, 7, 0, 0, []), (4, 1, .iload_n 1, 1, 0, 0, []), (5, 3, .invokevirtual 75, 0, 0, 0, []), (8, 3, .ifCond .eq 14, 22, 0, 0, []), (11, 1, .aload_n 0, 0, 0, 0, []), (12, 3, .getfield 14, 7, 0, 0, []), (15, 1, .iload_n 3, 3, 0, 0, []), (16, 3, .invokevirtual 75, 0, 0, 0, []), (19, 3, .ifCond .ne 5, 24, 0, 0, []), (22, 1, .iconst (-1), 1, 0, 0, []), (23, 1, .ireturn, 0, 0, 0, []), (24, 2, .iload 5, 5, 0, 0, []), (26, 3, .ifCond .ge 9, 35, 0, 0, []), (29, 1, .aload_n 0, 0, 0, 0, []), (30, 1, .iconst 5, 5, 0, 0, []), (31, 3, .invokevirtual 79, 1, 0, 0, []), (34, 1, .ireturn, 0, 0, 0, []), (35, 1, .aload_n 0, 0, 0, 0, []), (36, 3, .getfield 14, 7, 0, 0, []), (39, 1, .iload_n 1, 1, 0, 0, []), (40, 3, .invokevirtual 101, 2, 0, 0, []), (43, 3, .ifCond .eq 14, 57, 0, 0, []), (46, 1, .aload_n 0, 0, 0, 0, []), (47, 3, .getfield 14, 7, 0, 0, []), (50, 1, .iload_n 3, 3, 0, 0, []), (51, 3, .invokevirtual 101, 2, 0, 0, []), (54, 3, .ifCond .ne 9, 63, 0, 0, []), (57, 1, .aload_n 0, 0, 0, 0, []), (58, 1, .iconst 1, 1, 0, 0, []), (59, 3, .invokevirtual 79, 1, 0, 0, []), (62, 1, .ireturn, 0, 0, 0, []), (63, 1, .aload_n 0, 0, 0, 0, []), (64, 3, .getfield 14, 7, 0, 0, []), (67, 1, .iload_n 1, 1, 0, 0, []), (68, 1, .iload_n 2, 2, 0, 0, []), (69, 2, .iload 5, 5, 0, 0, []), (71, 3, .invokevirtual 108, 3, 0, 0, []), (74, 3, .ifCond .eq 18, 92, 0, 0, []), (77, 1, .aload_n 0, 0, 0, 0, []), (78, 3, .getfield 14, 7, 0, 0, []), (81, 1, .iload_n 3, 3, 0, 0, []), (82, 2, .iload 4, 4, 0, 0, []), (84, 2, .iload 5, 5, 0, 0, []), (86, 3, .invokevirtual 108, 3, 0, 0, []), (89, 3, .ifCond .ne 9, 98, 0, 0, []), (92, 1, .aload_n 0, 0, 0, 0, []), (93, 1, .iconst 2, 2, 0, 0, []), (94, 3, .invokevirtual 79, 1, 0, 0, []), (97, 1, .ireturn, 0, 0, 0, []), (98, 1, .aload_n 0, 0, 0, 0, []), (99, 3, .getfield 14, 7, 0, 0, []), (102, 1, .iload_n 1, 1, 0, 0, []), (103, 1, .iload_n 2, 2, 0, 0, []), (104, 1, .iload_n 3, 3, 0, 0, []), (105, 2, .iload 4, 4, 0, 0, []), (107, 2, .iload 5, 5, 0, 0, []), (109, 3, .invokevirtual 112, 4, 0, 0, []), (112, 1, .iconst 1, 1, 0, 0, []), (113, 1, .ireturn, 0, 0, 0, [])]
def mX10_copy : xM := (yX10_copy, cX10_copy, 6, (some FieldType.int), 0, 5, 7, 3, 70, 0, pX10_copy)
theorem dX10_copy : xDec cX10_copy pX10_copy = true := by decide +kernel
theorem hX10_copy : xHd mX10_copy := ⟨xg (w := (Jvm.Cond.code ({ cls := "SmellBurdens", name := "copy", desc := "(IIIII)I" } : Jvm.MethodName) prog_1_method_6_code (6 : Nat) (Option.some Jvm.ClassFile.FieldType.int))) (xt2 (List.mem_of_getElem? (i := 26) (by decide +kernel))) rfl, xg (w := (Jvm.Cond.initialized "SmellBurdens")) (xt1 (List.mem_of_getElem? (i := 1) (by decide +kernel))) rfl, ⟨by decide +kernel, by decide +kernel, by decide +kernel⟩, xg (w := (Jvm.Cond.instanceMethod ({ cls := "SmellBurdens", name := "copy", desc := "(IIIII)I" } : Jvm.MethodName))) (xt2 (List.mem_of_getElem? (i := 24) (by decide +kernel))) rfl, xg (w := (Jvm.Cond.selects "SmellBurdens" ({ cls := "SmellBurdens", name := "copy", desc := "(IIIII)I" } : Jvm.MethodName) ({ cls := "SmellBurdens", name := "copy", desc := "(IIIII)I" } : Jvm.MethodName))) (xt2 (List.mem_of_getElem? (i := 25) (by decide +kernel))) rfl, rfl⟩
theorem wdX10_116 : (Jvm.Cond.methodLink "SmellBurdens" (116 : Nat) ({ cls := "SmellBurdens$Shelf", name := "sizeOf", desc := "(I)I" } : Jvm.MethodName)) ∈ xG := xg (xt2 (List.mem_of_getElem? (i := 39) (by decide +kernel))) rfl
theorem wdX10_119 : (Jvm.Cond.methodLink "SmellBurdens" (119 : Nat) ({ cls := "SmellBurdens$Shelf", name := "sumOf", desc := "(I)J" } : Jvm.MethodName)) ∈ xG := xg (xt2 (List.mem_of_getElem? (i := 40) (by decide +kernel))) rfl
def pX10_mean : List xE := [(0, 1, .aload_n 0, 0, 0, 0, []), (1, 3, .getfield 14, 7, 0, 0, []), (4, 1, .iload_n 1, 1, 0, 0, []), (5, 3, .invokevirtual 75, 0, 0, 0, []), (8, 3, .ifCond .ne 5, 13, 0, 0, []), (11, 1, .iconst (-1), 1, 0, 0, []), (12, 1, .ireturn, 0, 0, 0, []), (13, 1, .aload_n 0, 0, 0, 0, []), (14, 3, .getfield 14, 7, 0, 0, []), (17, 1, .iload_n 1, 1, 0, 0, []), (18, 3, .invokevirtual 101, 1, 0, 0, []), (21, 3, .ifCond .ne 9, 30, 0, 0, []), (24, 1, .aload_n 0, 0, 0, 0, []), (25, 1, .iconst 1, 1, 0, 0, []), (26, 3, .invokevirtual 79, 2, 0, 0, []), (29, 1, .ireturn, 0, 0, 0, []), (30, 1, .aload_n 0, 0, 0, 0, []), (31, 3, .getfield 14, 7, 0, 0, []), (34, 1, .iload_n 1, 1, 0, 0, []), (35, 3, .invokevirtual 116, 3, 0, 0, []), (38, 1, .istore_n 2, 2, 0, 0, []), (39, 1, .iload_n 2, 2, 0, 0, []), (40, 3, .ifCond .gt 9, 49, 0, 0, []), (43, 1, .aload_n 0, 0, 0, 0, []), (44, 1, .iconst 4, 4, 0, 0, []), (45, 3, .invokevirtual 79, 2, 0, 0, []), (48, 1, .ireturn, 0, 0, 0, []), (49, 1, .aload_n 0, 0, 0, 0, []), (50, 1, .aload_n 0, 0, 0, 0, []), (51, 3, .getfield 14, 7, 0, 0, []), (54, 1, .iload_n 1, 1, 0, 0, []), (55, 3, .invokevirtual 119, 4, 0, 0, []), (58, 1, .iload_n 2, 2, 0, 0, []), (59, 1, .i2l, 0, 0, 0, []), (60, 1, .ldiv, 0, 0, 0, []), (61, 1, .l2i, 0, 0, 0, []), (62, 3, .invokevirtual 95, 5, 0, 0, []), (65, 1, .ireturn, 0, 0, 0, [])]
def mX10_mean : xM := (yX10_mean, cX10_mean, 3, (some FieldType.int), 0, 1, 7, 4, 92, 0, pX10_mean)
theorem dX10_mean : xDec cX10_mean pX10_mean = true := by decide +kernel
theorem hX10_mean : xHd mX10_mean := ⟨xg (w := (Jvm.Cond.code ({ cls := "SmellBurdens", name := "mean", desc := "(I)I" } : Jvm.MethodName) prog_1_method_7_code (3 : Nat) (Option.some Jvm.ClassFile.FieldType.int))) (xt2 (List.mem_of_getElem? (i := 38) (by decide +kernel))) rfl, xg (w := (Jvm.Cond.initialized "SmellBurdens")) (xt1 (List.mem_of_getElem? (i := 1) (by decide +kernel))) rfl, ⟨by decide +kernel, by decide +kernel, by decide +kernel⟩, xg (w := (Jvm.Cond.instanceMethod ({ cls := "SmellBurdens", name := "mean", desc := "(I)I" } : Jvm.MethodName))) (xt2 (List.mem_of_getElem? (i := 36) (by decide +kernel))) rfl, xg (w := (Jvm.Cond.selects "SmellBurdens" ({ cls := "SmellBurdens", name := "mean", desc := "(I)I" } : Jvm.MethodName) ({ cls := "SmellBurdens", name := "mean", desc := "(I)I" } : Jvm.MethodName))) (xt2 (List.mem_of_getElem? (i := 37) (by decide +kernel))) rfl, rfl⟩
def pX10_text : List xE := [(0, 1, .aload_n 0, 0, 0, 0, []), (1, 3, .getfield 18, 7, 1, 0, []), (4, 1, .iload_n 1, 1, 0, 0, []), (5, 3, .invokevirtual 75, 0, 0, 0, []), (8, 3, .ifCond .eq 9, 17, 0, 0, []), (11, 1, .iload_n 2, 2, 0, 0, []), (12, 2, .bipush 60, 60, 0, 0, []), (14, 3, .if_icmp .le 5, 19, 0, 0, []), (17, 1, .iconst (-1), 1, 0, 0, []), (18, 1, .ireturn, 0, 0, 0, []), (19, 1, .iload_n 2, 2, 0, 0, []), (20, 3, .ifCond .ge 9, 29, 0, 0, []), (23, 1, .aload_n 0, 0, 0, 0, []), (24, 1, .iconst 5, 5, 0, 0, []), (25, 3, .invokevirtual 79, 1, 0, 0, []), (28, 1, .ireturn, 0, 0, 0, []), (29, 1, .aload_n 0, 0, 0, 0, []), (30, 3, .getfield 18, 7, 1, 0, []), (33, 1, .iload_n 1, 1, 0, 0, []), (34, 1, .iload_n 2, 2, 0, 0, []), (35, 2, .bipush 32, 32, 0, 0, []), (37, 3, .invokevirtual 83, 2, 0, 0, []), (40, 1, .iload_n 2, 2, 0, 0, []), (41, 1, .ireturn, 0, 0, 0, [])]
def mX10_text : xM := (yX10_text, cX10_text, 3, (some FieldType.int), 0, 2, 7, 5, 117, 0, pX10_text)
theorem dX10_text : xDec cX10_text pX10_text = true := by decide +kernel
theorem hX10_text : xHd mX10_text := ⟨xg (w := (Jvm.Cond.code ({ cls := "SmellBurdens", name := "text", desc := "(II)I" } : Jvm.MethodName) prog_1_method_8_code (3 : Nat) (Option.some Jvm.ClassFile.FieldType.int))) (xt2 (List.mem_of_getElem? (i := 47) (by decide +kernel))) rfl, xg (w := (Jvm.Cond.initialized "SmellBurdens")) (xt1 (List.mem_of_getElem? (i := 1) (by decide +kernel))) rfl, ⟨by decide +kernel, by decide +kernel, by decide +kernel⟩, xg (w := (Jvm.Cond.instanceMethod ({ cls := "SmellBurdens", name := "text", desc := "(II)I" } : Jvm.MethodName))) (xt2 (List.mem_of_getElem? (i := 45) (by decide +kernel))) rfl, xg (w := (Jvm.Cond.selects "SmellBurdens" ({ cls := "SmellBurdens", name := "text", desc := "(II)I" } : Jvm.MethodName) ({ cls := "SmellBurdens", name := "text", desc := "(II)I" } : Jvm.MethodName))) (xt2 (List.mem_of_getElem? (i := 46) (by decide +kernel))) rfl, rfl⟩
def pX10_put : List xE := [(0, 1, .aload_n 0, 0, 0, 0, []), (1, 3, .getfield 18, 7, 1, 0, []), (4, 1, .iload_n 1, 1, 0, 0, []), (5, 3, .invokevirtual 75, 0, 0, 0, []), (8, 3, .ifCond .ne 5, 13, 0, 0, []), (11, 1, .iconst (-1), 1, 0, 0, []), (12, 1, .ireturn, 0, 0, 0, []), (13, 1, .aload_n 0, 0, 0, 0, []), (14, 3, .getfield 18, 7, 1, 0, []), (17, 1, .iload_n 1, 1, 0, 0, []), (18, 1, .iload_n 2, 2, 0, 0, []), (19, 3, .invokevirtual 87, 1, 0, 0, []), (22, 2, .istore 4, 4, 0, 0, []), (24, 2, .iload 4, 4, 0, 0, []), (26, 3, .ifCond .eq 10, 36, 0, 0, []), (29, 1, .aload_n 0, 0, 0, 0, []), (30, 2, .iload 4, 4, 0, 0, []), (32, 3, .invokevirtual 79, 2, 0, 0, []), (35, 1, .ireturn, 0, 0, 0, []), (36, 3, .sipush 1000, 1000, 0, 0, []), (39, 1, .aload_n 0, 0, 0, 0, []), (40, 3, .getfield 18, 7, 1, 0, []), (43, 1, .iload_n 1, 1, 0, 0, []), (44, 1, .iload_n 2, 2, 0, 0, []), (45, 1, .iload_n 3, 3, 0, 0, []), (46, 1, .i2b, 0, 0, 0, []), (47, 3, .invokevirtual 91, 3, 0, 0, []), (50, 1, .iadd, 0, 0, 0, []), (51, 1, .ireturn, 0, 0, 0, [])]
def mX10_put : xM := (yX10_put, cX10_put, 5, (some FieldType.int), 0, 3, 7, 4, 93, 0, pX10_put)
theorem dX10_put : xDec cX10_put pX10_put = true := by decide +kernel
theorem hX10_put : xHd mX10_put := ⟨xg (w := (Jvm.Cond.code ({ cls := "SmellBurdens", name := "put", desc := "(III)I" } : Jvm.MethodName) prog_1_method_9_code (5 : Nat) (Option.some Jvm.ClassFile.FieldType.int))) (xt2 (List.mem_of_getElem? (i := 51) (by decide +kernel))) rfl, xg (w := (Jvm.Cond.initialized "SmellBurdens")) (xt1 (List.mem_of_getElem? (i := 1) (by decide +kernel))) rfl, ⟨by decide +kernel, by decide +kernel, by decide +kernel⟩, xg (w := (Jvm.Cond.instanceMethod ({ cls := "SmellBurdens", name := "put", desc := "(III)I" } : Jvm.MethodName))) (xt2 (List.mem_of_getElem? (i := 49) (by decide +kernel))) rfl, xg (w := (Jvm.Cond.selects "SmellBurdens" ({ cls := "SmellBurdens", name := "put", desc := "(III)I" } : Jvm.MethodName) ({ cls := "SmellBurdens", name := "put", desc := "(III)I" } : Jvm.MethodName))) (xt2 (List.mem_of_getElem? (i := 50) (by decide +kernel))) rfl, rfl⟩
theorem wdX10_123 : (Jvm.Cond.methodLink "SmellBurdens" (123 : Nat) ({ cls := "SmellBurdens$Reader", name := "read", desc := "(LSmellBurdens$Shelf;I)I" } : Jvm.MethodName)) ∈ xG := xg (xt2 (List.mem_of_getElem? (i := 56) (by decide +kernel))) rfl
def pX10_fault : List xE := [(0, 1, .aload_n 0, 0, 0, 0, []), (1, 3, .getfield 18, 7, 1, 0, []), (4, 1, .iload_n 1, 1, 0, 0, []), (5, 3, .invokevirtual 75, 0, 0, 0, []), (8, 3, .ifCond .ne 5, 13, 0, 0, []), (11, 1, .iconst (-1), 1, 0, 0, []), (12, 1, .ireturn, 0, 0, 0, []), (13, 1, .aload_n 0, 0, 0, 0, []), (14, 3, .getfield 18, 7, 1, 0, []), (17, 1, .iload_n 1, 1, 0, 0, []), (18, 3, .invokevirtual 101, 1, 0, 0, []), (21, 3, .ifCond .ne 9, 30, 0, 0, []), (24, 1, .aload_n 0, 0, 0, 0, []), (25, 1, .iconst 1, 1, 0, 0, []), (26, 3, .invokevirtual 79, 2, 0, 0, []), (29, 1, .ireturn, 0, 0, 0, []), (30, 1, .aload_n 0, 0, 0, 0, []), (31, 3, .getfield 24, 7, 2, 0, []), (34, 1, .aload_n 0, 0, 0, 0, []), (35, 3, .getfield 18, 7, 1, 0, []), (38, 1, .iload_n 1, 1, 0, 0, []), (39, 3, .invokevirtual 123, 3, 0, 0, []), (42, 1, .ireturn, 0, 0, 0, [])]
def mX10_fault : xM := (yX10_fault, cX10_fault, 2, (some FieldType.int), 0, 1, 7, 6, 133, 0, pX10_fault)
theorem dX10_fault : xDec cX10_fault pX10_fault = true := by decide +kernel
theorem hX10_fault : xHd mX10_fault := ⟨xg (w := (Jvm.Cond.code ({ cls := "SmellBurdens", name := "fault", desc := "(I)I" } : Jvm.MethodName) prog_1_method_10_code (2 : Nat) (Option.some Jvm.ClassFile.FieldType.int))) (xt2 (List.mem_of_getElem? (i := 55) (by decide +kernel))) rfl, xg (w := (Jvm.Cond.initialized "SmellBurdens")) (xt1 (List.mem_of_getElem? (i := 1) (by decide +kernel))) rfl, ⟨by decide +kernel, by decide +kernel, by decide +kernel⟩, xg (w := (Jvm.Cond.instanceMethod ({ cls := "SmellBurdens", name := "fault", desc := "(I)I" } : Jvm.MethodName))) (xt2 (List.mem_of_getElem? (i := 53) (by decide +kernel))) rfl, xg (w := (Jvm.Cond.selects "SmellBurdens" ({ cls := "SmellBurdens", name := "fault", desc := "(I)I" } : Jvm.MethodName) ({ cls := "SmellBurdens", name := "fault", desc := "(I)I" } : Jvm.MethodName))) (xt2 (List.mem_of_getElem? (i := 54) (by decide +kernel))) rfl, rfl⟩
theorem wdX10_127 : (Jvm.Cond.fieldLinkNest "SmellBurdens" (127 : Nat) "SmellBurdens$Reader" "draft" "LSmellBurdens$Plain;" "SmellBurdens") ∈ xNest := by decide +kernel
theorem wdX10_130 : (Jvm.Cond.methodLink "SmellBurdens" (130 : Nat) ({ cls := "SmellBurdens$Plain", name := "become", desc := "(LSmellBurdens$Plain;)V" } : Jvm.MethodName)) ∈ xG := xg (xt2 (List.mem_of_getElem? (i := 133) (by decide +kernel))) rfl
theorem wdX10_134 : (Jvm.Cond.fieldLinkNest "SmellBurdens" (134 : Nat) "SmellBurdens$Reader" "state" "J" "SmellBurdens") ∈ xNest := by decide +kernel
theorem wdX10_138 : (Jvm.Cond.methodLink "SmellBurdens" (138 : Nat) ({ cls := "SmellBurdens", name := "keptAt", desc := "(I)LSmellBurdens$Deeds;" } : Jvm.MethodName)) ∈ xG := xg (xt2 (List.mem_of_getElem? (i := 137) (by decide +kernel))) rfl
theorem wdX10_142 : (Jvm.Cond.methodLink "SmellBurdens" (142 : Nat) ({ cls := "SmellBurdens$Deeds", name := "drop", desc := "()V" } : Jvm.MethodName)) ∈ xG := xg (xt2 (List.mem_of_getElem? (i := 141) (by decide +kernel))) rfl
theorem wdX10_144 : (Jvm.Cond.fieldLinkNest "SmellBurdens" (144 : Nat) "SmellBurdens$Plain" "loads" "I" "SmellBurdens") ∈ xNest := by decide +kernel
def pX10_plain : List xE := [(0, 1, .aload_n 0, 0, 0, 0, []), (1, 3, .getfield 18, 7, 1, 0, []), (4, 1, .iload_n 1, 1, 0, 0, []), (5, 3, .invokevirtual 75, 0, 0, 0, []), (8, 3, .ifCond .ne 5, 13, 0, 0, []), (11, 1, .iconst (-1), 1, 0, 0, []), (12, 1, .ireturn, 0, 0, 0, []), (13, 1, .aload_n 0, 0, 0, 0, []), (14, 3, .getfield 18, 7, 1, 0, []), (17, 1, .iload_n 1, 1, 0, 0, []), (18, 3, .invokevirtual 101, 1, 0, 0, []), (21, 3, .ifCond .ne 9, 30, 0, 0, []), (24, 1, .aload_n 0, 0, 0, 0, []), (25, 1, .iconst 1, 1, 0, 0, []), (26, 3, .invokevirtual 79, 2, 0, 0, []), (29, 1, .ireturn, 0, 0, 0, []), (30, 1, .aload_n 0, 0, 0, 0, []), (31, 3, .getfield 24, 7, 2, 0, []), (34, 1, .aload_n 0, 0, 0, 0, []), (35, 3, .getfield 18, 7, 1, 0, []), (38, 1, .iload_n 1, 1, 0, 0, []), (39, 3, .invokevirtual 123, 3, 0, 0, []), (42, 2, .bipush (-9), 9, 0, 0, []), (44, 3, .if_icmp .eq 6, 50, 0, 0, []), (47, 2, .bipush (-4), 4, 0, 0, []), (49, 1, .ireturn, 0, 0, 0, []), (50, 1, .aload_n 0, 0, 0, 0, []), (51, 3, .getfield 31, 7, 3, 0, []), (54, 1, .aload_n 0, 0, 0, 0, []), (55, 3, .getfield 24, 7, 2, 0, []), (58, 3, .getfield 127, 4, 1, 1, []), (61, 3, .invokevirtual 130, 4, 0, 0, []), (64, 1, .aload_n 0, 0, 0, 0, []), (65, 3, .getfield 38, 7, 4, 0, []), (68, 1, .aload_n 0, 0, 0, 0, []), (69, 3, .getfield 24, 7, 2, 0, []), (72, 3, .getfield 134, 4, 2, 1, []), (75, 3, .invokevirtual 71, 5, 0, 0, []), (78, 1, .iconst 0, 0, 0, 0, []), (79, 1, .istore_n 2, 2, 0, 0, []), (80, 1, .iload_n 2, 2, 0, 0, []), (81, 1, .iconst 3, 3, 0, 0, []), (82, 3, .if_icmp .ge 23, 105, 0, 0, []), (85, 1, .aload_n 0, 0, 0, 0, []), (86, 1, .iload_n 2, 2, 0, 0, []), (87, 3, .invokevirtual 138, 6, 0, 0, []), (90, 1, .astore_n 3, 3, 0, 0, []), (91, 1, .aload_n 3, 3, 0, 0, []), (92, 3, .ifnull 7, 99, 0, 0, []), (95, 1, .aload_n 3, 3, 0, 0, []), (96, 3, .invokevirtual 142, 7, 0, 0, []), (99, 3, .iinc 2 1, 2, 1, 0, []), (102, 3, .goto (-22), 80, 0, 0, []), (105, 1, .aload_n 0, 0, 0, 0, []), (106, 3, .getfield 31, 7, 3, 0, []), (109, 3, .getfield 144, 3, 1, 1, []), (112, 1, .ireturn, 0, 0, 0, [])]
def mX10_plain : xM := (yX10_plain, cX10_plain, 4, (some FieldType.int), 0, 1, 7, 6, 133, 0, pX10_plain)
theorem dX10_plain : xDec cX10_plain pX10_plain = true := by decide +kernel
theorem hX10_plain : xHd mX10_plain := ⟨xg (w := (Jvm.Cond.code ({ cls := "SmellBurdens", name := "plain", desc := "(I)I" } : Jvm.MethodName) prog_1_method_11_code (4 : Nat) (Option.some Jvm.ClassFile.FieldType.int))) (xt2 (List.mem_of_getElem? (i := 132) (by decide +kernel))) rfl, xg (w := (Jvm.Cond.initialized "SmellBurdens")) (xt1 (List.mem_of_getElem? (i := 1) (by decide +kernel))) rfl, ⟨by decide +kernel, by decide +kernel, by decide +kernel⟩, xg (w := (Jvm.Cond.instanceMethod ({ cls := "SmellBurdens", name := "plain", desc := "(I)I" } : Jvm.MethodName))) (xt2 (List.mem_of_getElem? (i := 130) (by decide +kernel))) rfl, xg (w := (Jvm.Cond.selects "SmellBurdens" ({ cls := "SmellBurdens", name := "plain", desc := "(I)I" } : Jvm.MethodName) ({ cls := "SmellBurdens", name := "plain", desc := "(I)I" } : Jvm.MethodName))) (xt2 (List.mem_of_getElem? (i := 131) (by decide +kernel))) rfl, rfl⟩
theorem wdX10_148 : (Jvm.Cond.methodLink "SmellBurdens" (148 : Nat) ({ cls := "SmellBurdens$Plain", name := "isAss", desc := "(I)Z" } : Jvm.MethodName)) ∈ xG := xg (xt2 (List.mem_of_getElem? (i := 149) (by decide +kernel))) rfl
theorem wdX10_151 : (Jvm.Cond.methodLink "SmellBurdens" (151 : Nat) ({ cls := "SmellBurdens", name := "ofAss", desc := "(II)I" } : Jvm.MethodName)) ∈ xG := xg (xt2 (List.mem_of_getElem? (i := 153) (by decide +kernel))) rfl
def pX10_ass : List xE := [(0, 1, .aload_n 0, 0, 0, 0, []), (1, 3, .getfield 31, 7, 3, 0, []), (4, 1, .iload_n 1, 1, 0, 0, []), (5, 3, .invokevirtual 148, 0, 0, 0, []), (8, 3, .ifCond .eq 12, 20, 0, 0, []), (11, 1, .iload_n 2, 2, 0, 0, []), (12, 3, .ifCond .lt 8, 20, 0, 0, []), (15, 1, .iload_n 2, 2, 0, 0, []), (16, 1, .iconst 3, 3, 0, 0, []), (17, 3, .if_icmp .le 5, 22, 0, 0, []), (20, 1, .iconst (-1), 1, 0, 0, []), (21, 1, .ireturn, 0, 0, 0, []), (22, 1, .aload_n 0, 0, 0, 0, []), (23, 1, .aload_n 0, 0, 0, 0, []), (24, 1, .iload_n 1, 1, 0, 0, []), (25, 1, .iload_n 2, 2, 0, 0, []), (26, 3, .invokevirtual 151, 1, 0, 0, []), (29, 3, .invokevirtual 95, 2, 0, 0, []), (32, 1, .ireturn, 0, 0, 0, [])]
def mX10_ass : xM := (yX10_ass, cX10_ass, 3, (some FieldType.int), 0, 2, 7, 6, 153, 0, pX10_ass)
theorem dX10_ass : xDec cX10_ass pX10_ass = true := by decide +kernel
theorem hX10_ass : xHd mX10_ass := ⟨xg (w := (Jvm.Cond.code ({ cls := "SmellBurdens", name := "ass", desc := "(II)I" } : Jvm.MethodName) prog_1_method_12_code (3 : Nat) (Option.some Jvm.ClassFile.FieldType.int))) (xt2 (List.mem_of_getElem? (i := 148) (by decide +kernel))) rfl, xg (w := (Jvm.Cond.initialized "SmellBurdens")) (xt1 (List.mem_of_getElem? (i := 1) (by decide +kernel))) rfl, ⟨by decide +kernel, by decide +kernel, by decide +kernel⟩, xg (w := (Jvm.Cond.instanceMethod ({ cls := "SmellBurdens", name := "ass", desc := "(II)I" } : Jvm.MethodName))) (xt2 (List.mem_of_getElem? (i := 146) (by decide +kernel))) rfl, xg (w := (Jvm.Cond.selects "SmellBurdens" ({ cls := "SmellBurdens", name := "ass", desc := "(II)I" } : Jvm.MethodName) ({ cls := "SmellBurdens", name := "ass", desc := "(II)I" } : Jvm.MethodName))) (xt2 (List.mem_of_getElem? (i := 147) (by decide +kernel))) rfl, rfl⟩
theorem wdX10_154 : (Jvm.Cond.methodLink "SmellBurdens" (154 : Nat) ({ cls := "SmellBurdens$Plain", name := "isLoad", desc := "(I)Z" } : Jvm.MethodName)) ∈ xG := xg (xt2 (List.mem_of_getElem? (i := 217) (by decide +kernel))) rfl
theorem wdX10_157 : (Jvm.Cond.methodLink "SmellBurdens" (157 : Nat) ({ cls := "SmellBurdens", name := "ofLoad", desc := "(II)I" } : Jvm.MethodName)) ∈ xG := xg (xt2 (List.mem_of_getElem? (i := 221) (by decide +kernel))) rfl
def pX10_load : List xE := [(0, 1, .aload_n 0, 0, 0, 0, []), (1, 3, .getfield 31, 7, 3, 0, []), (4, 1, .iload_n 1, 1, 0, 0, []), (5, 3, .invokevirtual 154, 0, 0, 0, []), (8, 3, .ifCond .eq 12, 20, 0, 0, []), (11, 1, .iload_n 2, 2, 0, 0, []), (12, 3, .ifCond .lt 8, 20, 0, 0, []), (15, 1, .iload_n 2, 2, 0, 0, []), (16, 1, .iconst 4, 4, 0, 0, []), (17, 3, .if_icmp .le 5, 22, 0, 0, []), (20, 1, .iconst (-1), 1, 0, 0, []), (21, 1, .ireturn, 0, 0, 0, []), (22, 1, .aload_n 0, 0, 0, 0, []), (23, 1, .aload_n 0, 0, 0, 0, []), (24, 1, .iload_n 1, 1, 0, 0, []), (25, 1, .iload_n 2, 2, 0, 0, []), (26, 3, .invokevirtual 157, 1, 0, 0, []), (29, 3, .invokevirtual 95, 2, 0, 0, []), (32, 1, .ireturn, 0, 0, 0, [])]
def mX10_load : xM := (yX10_load, cX10_load, 3, (some FieldType.int), 0, 2, 7, 6, 153, 0, pX10_load)
theorem dX10_load : xDec cX10_load pX10_load = true := by decide +kernel
theorem hX10_load : xHd mX10_load := ⟨xg (w := (Jvm.Cond.code ({ cls := "SmellBurdens", name := "load", desc := "(II)I" } : Jvm.MethodName) prog_1_method_13_code (3 : Nat) (Option.some Jvm.ClassFile.FieldType.int))) (xt2 (List.mem_of_getElem? (i := 216) (by decide +kernel))) rfl, xg (w := (Jvm.Cond.initialized "SmellBurdens")) (xt1 (List.mem_of_getElem? (i := 1) (by decide +kernel))) rfl, ⟨by decide +kernel, by decide +kernel, by decide +kernel⟩, xg (w := (Jvm.Cond.instanceMethod ({ cls := "SmellBurdens", name := "load", desc := "(II)I" } : Jvm.MethodName))) (xt2 (List.mem_of_getElem? (i := 214) (by decide +kernel))) rfl, xg (w := (Jvm.Cond.selects "SmellBurdens" ({ cls := "SmellBurdens", name := "load", desc := "(II)I" } : Jvm.MethodName) ({ cls := "SmellBurdens", name := "load", desc := "(II)I" } : Jvm.MethodName))) (xt2 (List.mem_of_getElem? (i := 215) (by decide +kernel))) rfl, rfl⟩
theorem wdX10_162 : (Jvm.Cond.methodLink "SmellBurdens" (162 : Nat) ({ cls := "SmellBurdens$Plain", name := "kindOf", desc := "(I)I" } : Jvm.MethodName)) ∈ xG := xg (xt2 (List.mem_of_getElem? (i := 157) (by decide +kernel))) rfl
theorem wdX10_165 : (Jvm.Cond.methodLink "SmellBurdens" (165 : Nat) ({ cls := "SmellBurdens$Kind", name := "isA", desc := "(II)Z" } : Jvm.MethodName)) ∈ xG := xg (xt3 (List.mem_of_getElem? (i := 0) (by decide +kernel))) rfl
theorem wdX10_169 : (Jvm.Cond.fieldLinkNest "SmellBurdens" (169 : Nat) "SmellBurdens$Deeds" "now" "J" "SmellBurdens") ∈ xNest := by decide +kernel
theorem wdX10_172 : (Jvm.Cond.methodLink "SmellBurdens" (172 : Nat) ({ cls := "SmellBurdens$Scene", name := "memoryOf", desc := "(JI)I" } : Jvm.MethodName)) ∈ xG := xg (xt2 (List.mem_of_getElem? (i := 161) (by decide +kernel))) rfl
theorem wdX10_178 : (Jvm.Cond.methodLink "SmellBurdens" (178 : Nat) ({ cls := "java/lang/Integer", name := "bitCount", desc := "(I)I" } : Jvm.MethodName)) ∈ xG := xg (xt3 (List.mem_of_getElem? (i := 3) (by decide +kernel))) rfl
theorem wdX10_183 : (Jvm.Cond.methodLink "SmellBurdens" (183 : Nat) ({ cls := "SmellBurdens$Plain", name := "loadsLikeMemory", desc := "(JI)I" } : Jvm.MethodName)) ∈ xG := xg (xt3 (List.mem_of_getElem? (i := 4) (by decide +kernel))) rfl
theorem wdX10_186 : (Jvm.Cond.methodLink "SmellBurdens" (186 : Nat) ({ cls := "SmellBurdens$Plain", name := "loadsRefused", desc := "(JI)I" } : Jvm.MethodName)) ∈ xG := xg (xt3 (List.mem_of_getElem? (i := 8) (by decide +kernel))) rfl
theorem wdX10_189 : (Jvm.Cond.methodLink "SmellBurdens" (189 : Nat) ({ cls := "SmellBurdens$Plain", name := "mostLikeness", desc := "(JI)I" } : Jvm.MethodName)) ∈ xG := xg (xt3 (List.mem_of_getElem? (i := 21) (by decide +kernel))) rfl
theorem wdX10_192 : (Jvm.Cond.methodLink "SmellBurdens" (192 : Nat) ({ cls := "SmellBurdens$Kind", name := "leastLike", desc := "(I)I" } : Jvm.MethodName)) ∈ xG := xg (xt3 (List.mem_of_getElem? (i := 30) (by decide +kernel))) rfl
def pX10_mark : List xE := [(0, 1, .aload_n 0, 0, 0, 0, []), (1, 3, .getfield 31, 7, 3, 0, []), (4, 1, .iload_n 1, 1, 0, 0, []), (5, 3, .invokevirtual 148, 0, 0, 0, []), (8, 3, .ifCond .eq 13, 21, 0, 0, []), (11, 1, .iload_n 2, 2, 0, 0, []), (12, 3, .ifCond .le 9, 21, 0, 0, []), (15, 1, .iload_n 2, 2, 0, 0, []), (16, 2, .bipush 6, 6, 0, 0, []), (18, 3, .if_icmp .lt 5, 23, 0, 0, []), (21, 1, .iconst (-1), 1, 0, 0, []), (22, 1, .ireturn, 0, 0, 0, []), (23, 1, .aload_n 0, 0, 0, 0, []), (24, 3, .getfield 31, 7, 3, 0, []), (27, 1, .iload_n 1, 1, 0, 0, []), (28, 3, .invokevirtual 162, 1, 0, 0, []), (31, 1, .iload_n 2, 2, 0, 0, []), (32, 3, .invokestatic 165, 2, 0, 0, []), (35, 3, .ifCond .ne 9, 44, 0, 0, []), (38, 1, .aload_n 0, 0, 0, 0, []), (39, 1, .iconst 3, 3, 0, 0, []), (40, 3, .invokevirtual 79, 3, 0, 0, []), (43, 1, .ireturn, 0, 0, 0, []), (44, 1, .aload_n 0, 0, 0, 0, []), (45, 3, .getfield 38, 7, 4, 0, []), (48, 3, .getfield 169, 1, 1, 1, []), (51, 1, .lstore_n 3, 3, 0, 0, []), (52, 1, .iload_n 2, 2, 0, 0, []), (53, 31, .tableswitch 70 1 4 #[31, 40, 50, 60], 123, 0, 0, [(1, 84), (2, 93), (3, 103), (4, 113)]), (84, 1, .lload_n 3, 3, 0, 0, []), (85, 1, .iload_n 1, 1, 0, 0, []), (86, 3, .invokestatic 172, 4, 0, 0, []), (89, 3, .invokestatic 178, 5, 0, 0, []), (92, 1, .ireturn, 0, 0, 0, []), (93, 1, .aload_n 0, 0, 0, 0, []), (94, 3, .getfield 31, 7, 3, 0, []), (97, 1, .lload_n 3, 3, 0, 0, []), (98, 1, .iload_n 1, 1, 0, 0, []), (99, 3, .invokevirtual 183, 6, 0, 0, []), (102, 1, .ireturn, 0, 0, 0, []), (103, 1, .aload_n 0, 0, 0, 0, []), (104, 3, .getfield 31, 7, 3, 0, []), (107, 1, .lload_n 3, 3, 0, 0, []), (108, 1, .iload_n 1, 1, 0, 0, []), (109, 3, .invokevirtual 186, 7, 0, 0, []), (112, 1, .ireturn, 0, 0, 0, []), (113, 1, .aload_n 0, 0, 0, 0, []), (114, 3, .getfield 31, 7, 3, 0, []), (117, 1, .lload_n 3, 3, 0, 0, []), (118, 1, .iload_n 1, 1, 0, 0, []), (119, 3, .invokevirtual 189, 8, 0, 0, []), (122, 1, .ireturn, 0, 0, 0, []), (123, 1, .iload_n 2, 2, 0, 0, []), (124, 3, .invokestatic 192, 9, 0, 0, []), (127, 1, .ireturn, 0, 0, 0, [])]
def mX10_mark : xM := (yX10_mark, cX10_mark, 5, (some FieldType.int), 0, 2, 7, 5, 114, 0, pX10_mark)
theorem dX10_mark : xDec cX10_mark pX10_mark = true := by decide +kernel
theorem hX10_mark : xHd mX10_mark := ⟨xg (w := (Jvm.Cond.code ({ cls := "SmellBurdens", name := "mark", desc := "(II)I" } : Jvm.MethodName) prog_1_method_14_code (5 : Nat) (Option.some Jvm.ClassFile.FieldType.int))) (xt2 (List.mem_of_getElem? (i := 239) (by decide +kernel))) rfl, xg (w := (Jvm.Cond.initialized "SmellBurdens")) (xt1 (List.mem_of_getElem? (i := 1) (by decide +kernel))) rfl, ⟨by decide +kernel, by decide +kernel, by decide +kernel⟩, xg (w := (Jvm.Cond.instanceMethod ({ cls := "SmellBurdens", name := "mark", desc := "(II)I" } : Jvm.MethodName))) (xt2 (List.mem_of_getElem? (i := 237) (by decide +kernel))) rfl, xg (w := (Jvm.Cond.selects "SmellBurdens" ({ cls := "SmellBurdens", name := "mark", desc := "(II)I" } : Jvm.MethodName) ({ cls := "SmellBurdens", name := "mark", desc := "(II)I" } : Jvm.MethodName))) (xt2 (List.mem_of_getElem? (i := 238) (by decide +kernel))) rfl, rfl⟩
theorem wdX10_195 : (Jvm.Cond.fieldLinkNest "SmellBurdens" (195 : Nat) "SmellBurdens$Plain" "asses" "I" "SmellBurdens") ∈ xNest := by decide +kernel
theorem wdX10_198 : (Jvm.Cond.methodLink "SmellBurdens" (198 : Nat) ({ cls := "SmellBurdens$Deeds", name := "hasRoomFor", desc := "(I)Z" } : Jvm.MethodName)) ∈ xG := xg (xt3 (List.mem_of_getElem? (i := 35) (by decide +kernel))) rfl
theorem wdX10_201 : (Jvm.Cond.methodLink "SmellBurdens" (201 : Nat) ({ cls := "SmellBurdens", name := "doDay", desc := "()I" } : Jvm.MethodName)) ∈ xG := xg (xt3 (List.mem_of_getElem? (i := 39) (by decide +kernel))) rfl
def pX10_day : List xE := [(0, 1, .aload_n 0, 0, 0, 0, []), (1, 3, .getfield 31, 7, 3, 0, []), (4, 3, .getfield 195, 3, 0, 1, []), (7, 3, .ifCond .ne 6, 13, 0, 0, []), (10, 2, .bipush (-4), 4, 0, 0, []), (12, 1, .ireturn, 0, 0, 0, []), (13, 1, .aload_n 0, 0, 0, 0, []), (14, 3, .getfield 38, 7, 4, 0, []), (17, 1, .iconst 1, 1, 0, 0, []), (18, 3, .invokevirtual 198, 0, 0, 0, []), (21, 3, .ifCond .ne 6, 27, 0, 0, []), (24, 2, .bipush (-2), 2, 0, 0, []), (26, 1, .ireturn, 0, 0, 0, []), (27, 1, .aload_n 0, 0, 0, 0, []), (28, 3, .invokevirtual 201, 1, 0, 0, []), (31, 1, .ireturn, 0, 0, 0, [])]
def mX10_day : xM := (yX10_day, cX10_day, 1, (some FieldType.int), 0, 0, 7, 6, 150, 0, pX10_day)
theorem dX10_day : xDec cX10_day pX10_day = true := by decide +kernel
theorem hX10_day : xHd mX10_day := ⟨xg (w := (Jvm.Cond.code ({ cls := "SmellBurdens", name := "day", desc := "()I" } : Jvm.MethodName) prog_1_method_15_code (1 : Nat) (Option.some Jvm.ClassFile.FieldType.int))) (xt3 (List.mem_of_getElem? (i := 34) (by decide +kernel))) rfl, xg (w := (Jvm.Cond.initialized "SmellBurdens")) (xt1 (List.mem_of_getElem? (i := 1) (by decide +kernel))) rfl, ⟨by decide +kernel, by decide +kernel, by decide +kernel⟩, xg (w := (Jvm.Cond.instanceMethod ({ cls := "SmellBurdens", name := "day", desc := "()I" } : Jvm.MethodName))) (xt3 (List.mem_of_getElem? (i := 32) (by decide +kernel))) rfl, xg (w := (Jvm.Cond.selects "SmellBurdens" ({ cls := "SmellBurdens", name := "day", desc := "()I" } : Jvm.MethodName) ({ cls := "SmellBurdens", name := "day", desc := "()I" } : Jvm.MethodName))) (xt3 (List.mem_of_getElem? (i := 33) (by decide +kernel))) rfl, rfl⟩
theorem wdX10_205 : (Jvm.Cond.methodLink "SmellBurdens" (205 : Nat) ({ cls := "SmellBurdens", name := "doSmear", desc := "(II)V" } : Jvm.MethodName)) ∈ xG := xg (xt3 (List.mem_of_getElem? (i := 65) (by decide +kernel))) rfl
theorem wdX10_208 : (Jvm.Cond.methodLink "SmellBurdens" (208 : Nat) ({ cls := "SmellBurdens$Scene", name := "marksOf", desc := "(JI)I" } : Jvm.MethodName)) ∈ xG := xg (xt2 (List.mem_of_getElem? (i := 225) (by decide +kernel))) rfl
def pX10_smear : List xE := [(0, 1, .aload_n 0, 0, 0, 0, []), (1, 3, .getfield 31, 7, 3, 0, []), (4, 1, .iload_n 1, 1, 0, 0, []), (5, 3, .invokevirtual 154, 0, 0, 0, []), (8, 3, .ifCond .eq 12, 20, 0, 0, []), (11, 1, .iload_n 2, 2, 0, 0, []), (12, 3, .ifCond .lt 8, 20, 0, 0, []), (15, 1, .iload_n 2, 2, 0, 0, []), (16, 1, .iconst 4, 4, 0, 0, []), (17, 3, .if_icmp .lt 5, 22, 0, 0, []), (20, 1, .iconst (-1), 1, 0, 0, []), (21, 1, .ireturn, 0, 0, 0, []), (22, 1, .aload_n 0, 0, 0, 0, []), (23, 3, .getfield 38, 7, 4, 0, []), (26, 1, .iconst 1, 1, 0, 0, []), (27, 3, .invokevirtual 198, 1, 0, 0, []), (30, 3, .ifCond .ne 6, 36, 0, 0, []), (33, 2, .bipush (-2), 2, 0, 0, []), (35, 1, .ireturn, 0, 0, 0, []), (36, 1, .aload_n 0, 0, 0, 0, []), (37, 1, .iload_n 1, 1, 0, 0, []), (38, 1, .iload_n 2, 2, 0, 0, []), (39, 3, .invokevirtual 205, 2, 0, 0, []), (42, 1, .aload_n 0, 0, 0, 0, []), (43, 3, .getfield 38, 7, 4, 0, []), (46, 3, .getfield 169, 1, 1, 1, []), (49, 1, .iload_n 1, 1, 0, 0, []), (50, 3, .invokestatic 208, 3, 0, 0, []), (53, 1, .ireturn, 0, 0, 0, [])]
def mX10_smear : xM := (yX10_smear, cX10_smear, 3, (some FieldType.int), 0, 2, 7, 3, 71, 0, pX10_smear)
theorem dX10_smear : xDec cX10_smear pX10_smear = true := by decide +kernel
theorem hX10_smear : xHd mX10_smear := ⟨xg (w := (Jvm.Cond.code ({ cls := "SmellBurdens", name := "smear", desc := "(II)I" } : Jvm.MethodName) prog_1_method_16_code (3 : Nat) (Option.some Jvm.ClassFile.FieldType.int))) (xt3 (List.mem_of_getElem? (i := 64) (by decide +kernel))) rfl, xg (w := (Jvm.Cond.initialized "SmellBurdens")) (xt1 (List.mem_of_getElem? (i := 1) (by decide +kernel))) rfl, ⟨by decide +kernel, by decide +kernel, by decide +kernel⟩, xg (w := (Jvm.Cond.instanceMethod ({ cls := "SmellBurdens", name := "smear", desc := "(II)I" } : Jvm.MethodName))) (xt3 (List.mem_of_getElem? (i := 62) (by decide +kernel))) rfl, xg (w := (Jvm.Cond.selects "SmellBurdens" ({ cls := "SmellBurdens", name := "smear", desc := "(II)I" } : Jvm.MethodName) ({ cls := "SmellBurdens", name := "smear", desc := "(II)I" } : Jvm.MethodName))) (xt3 (List.mem_of_getElem? (i := 63) (by decide +kernel))) rfl, rfl⟩
theorem wdX10_211 : (Jvm.Cond.methodLink "SmellBurdens" (211 : Nat) ({ cls := "SmellBurdens$Scene", name := "innOf", desc := "(JI)I" } : Jvm.MethodName)) ∈ xG := xg (xt2 (List.mem_of_getElem? (i := 167) (by decide +kernel))) rfl
theorem wdX10_214 : (Jvm.Cond.methodLink "SmellBurdens" (214 : Nat) ({ cls := "SmellBurdens", name := "doLead", desc := "(II)V" } : Jvm.MethodName)) ∈ xG := xg (xt3 (List.mem_of_getElem? (i := 74) (by decide +kernel))) rfl
def pX10_lead : List xE := [(0, 1, .aload_n 0, 0, 0, 0, []), (1, 3, .getfield 31, 7, 3, 0, []), (4, 1, .iload_n 1, 1, 0, 0, []), (5, 3, .invokevirtual 148, 0, 0, 0, []), (8, 3, .ifCond .eq 12, 20, 0, 0, []), (11, 1, .iload_n 2, 2, 0, 0, []), (12, 3, .ifCond .lt 8, 20, 0, 0, []), (15, 1, .iload_n 2, 2, 0, 0, []), (16, 1, .iconst 5, 5, 0, 0, []), (17, 3, .if_icmp .lt 5, 22, 0, 0, []), (20, 1, .iconst (-1), 1, 0, 0, []), (21, 1, .ireturn, 0, 0, 0, []), (22, 1, .aload_n 0, 0, 0, 0, []), (23, 3, .getfield 38, 7, 4, 0, []), (26, 3, .getfield 169, 1, 1, 1, []), (29, 1, .iload_n 1, 1, 0, 0, []), (30, 3, .invokestatic 211, 1, 0, 0, []), (33, 1, .istore_n 3, 3, 0, 0, []), (34, 1, .iload_n 3, 3, 0, 0, []), (35, 1, .iload_n 2, 2, 0, 0, []), (36, 3, .if_icmp .ne 6, 42, 0, 0, []), (39, 2, .bipush (-4), 4, 0, 0, []), (41, 1, .ireturn, 0, 0, 0, []), (42, 1, .aload_n 0, 0, 0, 0, []), (43, 3, .getfield 38, 7, 4, 0, []), (46, 1, .iconst 1, 1, 0, 0, []), (47, 3, .invokevirtual 198, 2, 0, 0, []), (50, 3, .ifCond .ne 6, 56, 0, 0, []), (53, 2, .bipush (-2), 2, 0, 0, []), (55, 1, .ireturn, 0, 0, 0, []), (56, 1, .aload_n 0, 0, 0, 0, []), (57, 1, .iload_n 1, 1, 0, 0, []), (58, 1, .iload_n 2, 2, 0, 0, []), (59, 3, .invokevirtual 214, 3, 0, 0, []), (62, 1, .iload_n 3, 3, 0, 0, []), (63, 1, .ireturn, 0, 0, 0, [])]
def mX10_lead : xM := (yX10_lead, cX10_lead, 4, (some FieldType.int), 0, 2, 7, 3, 69, 0, pX10_lead)
theorem dX10_lead : xDec cX10_lead pX10_lead = true := by decide +kernel
theorem hX10_lead : xHd mX10_lead := ⟨xg (w := (Jvm.Cond.code ({ cls := "SmellBurdens", name := "lead", desc := "(II)I" } : Jvm.MethodName) prog_1_method_17_code (4 : Nat) (Option.some Jvm.ClassFile.FieldType.int))) (xt3 (List.mem_of_getElem? (i := 73) (by decide +kernel))) rfl, xg (w := (Jvm.Cond.initialized "SmellBurdens")) (xt1 (List.mem_of_getElem? (i := 1) (by decide +kernel))) rfl, ⟨by decide +kernel, by decide +kernel, by decide +kernel⟩, xg (w := (Jvm.Cond.instanceMethod ({ cls := "SmellBurdens", name := "lead", desc := "(II)I" } : Jvm.MethodName))) (xt3 (List.mem_of_getElem? (i := 71) (by decide +kernel))) rfl, xg (w := (Jvm.Cond.selects "SmellBurdens" ({ cls := "SmellBurdens", name := "lead", desc := "(II)I" } : Jvm.MethodName) ({ cls := "SmellBurdens", name := "lead", desc := "(II)I" } : Jvm.MethodName))) (xt3 (List.mem_of_getElem? (i := 72) (by decide +kernel))) rfl, rfl⟩
theorem wdX10_217 : (Jvm.Cond.fieldLinkNest "SmellBurdens" (217 : Nat) "SmellBurdens$Deeds" "size" "I" "SmellBurdens") ∈ xNest := by decide +kernel
theorem wdX10_220 : (Jvm.Cond.methodLink "SmellBurdens" (220 : Nat) ({ cls := "SmellBurdens$Deeds", name := "takeBack", desc := "(I)I" } : Jvm.MethodName)) ∈ xG := xg (xt3 (List.mem_of_getElem? (i := 83) (by decide +kernel))) rfl
def pX10_undo : List xE := [(0, 1, .iload_n 1, 1, 0, 0, []), (1, 3, .ifCond .lt 14, 15, 0, 0, []), (4, 1, .iload_n 1, 1, 0, 0, []), (5, 1, .aload_n 0, 0, 0, 0, []), (6, 3, .getfield 38, 7, 4, 0, []), (9, 3, .getfield 217, 1, 3, 1, []), (12, 3, .if_icmp .le 5, 17, 0, 0, []), (15, 1, .iconst (-1), 1, 0, 0, []), (16, 1, .ireturn, 0, 0, 0, []), (17, 1, .aload_n 0, 0, 0, 0, []), (18, 3, .getfield 38, 7, 4, 0, []), (21, 1, .iload_n 1, 1, 0, 0, []), (22, 3, .invokevirtual 220, 0, 0, 0, []), (25, 1, .ireturn, 0, 0, 0, [])]
def mX10_undo : xM := (yX10_undo, cX10_undo, 2, (some FieldType.int), 0, 1, 7, 1, 22, 0, pX10_undo)
theorem dX10_undo : xDec cX10_undo pX10_undo = true := by decide +kernel
theorem hX10_undo : xHd mX10_undo := ⟨xg (w := (Jvm.Cond.code ({ cls := "SmellBurdens", name := "undo", desc := "(I)I" } : Jvm.MethodName) prog_1_method_18_code (2 : Nat) (Option.some Jvm.ClassFile.FieldType.int))) (xt3 (List.mem_of_getElem? (i := 82) (by decide +kernel))) rfl, xg (w := (Jvm.Cond.initialized "SmellBurdens")) (xt1 (List.mem_of_getElem? (i := 1) (by decide +kernel))) rfl, ⟨by decide +kernel, by decide +kernel, by decide +kernel⟩, xg (w := (Jvm.Cond.instanceMethod ({ cls := "SmellBurdens", name := "undo", desc := "(I)I" } : Jvm.MethodName))) (xt3 (List.mem_of_getElem? (i := 80) (by decide +kernel))) rfl, xg (w := (Jvm.Cond.selects "SmellBurdens" ({ cls := "SmellBurdens", name := "undo", desc := "(I)I" } : Jvm.MethodName) ({ cls := "SmellBurdens", name := "undo", desc := "(I)I" } : Jvm.MethodName))) (xt3 (List.mem_of_getElem? (i := 81) (by decide +kernel))) rfl, rfl⟩
theorem wdX10_223 : (Jvm.Cond.methodLink "SmellBurdens" (223 : Nat) ({ cls := "SmellBurdens$Deeds", name := "become", desc := "(LSmellBurdens$Deeds;)V" } : Jvm.MethodName)) ∈ xG := xg (xt3 (List.mem_of_getElem? (i := 91) (by decide +kernel))) rfl
def pX10_keep : List xE := [(0, 1, .aload_n 0, 0, 0, 0, []), (1, 1, .iload_n 1, 1, 0, 0, []), (2, 3, .invokevirtual 138, 0, 0, 0, []), (5, 1, .astore_n 2, 2, 0, 0, []), (6, 1, .aload_n 2, 2, 0, 0, []), (7, 3, .ifnonnull 5, 12, 0, 0, []), (10, 1, .iconst (-1), 1, 0, 0, []), (11, 1, .ireturn, 0, 0, 0, []), (12, 1, .aload_n 0, 0, 0, 0, []), (13, 3, .getfield 31, 7, 3, 0, []), (16, 3, .getfield 195, 3, 0, 1, []), (19, 3, .ifCond .ne 6, 25, 0, 0, []), (22, 2, .bipush (-4), 4, 0, 0, []), (24, 1, .ireturn, 0, 0, 0, []), (25, 1, .aload_n 2, 2, 0, 0, []), (26, 1, .aload_n 0, 0, 0, 0, []), (27, 3, .getfield 38, 7, 4, 0, []), (30, 3, .invokevirtual 223, 1, 0, 0, []), (33, 1, .aload_n 2, 2, 0, 0, []), (34, 3, .getfield 217, 1, 3, 1, []), (37, 1, .ireturn, 0, 0, 0, [])]
def mX10_keep : xM := (yX10_keep, cX10_keep, 3, (some FieldType.int), 0, 1, 7, 2, 47, 0, pX10_keep)
theorem dX10_keep : xDec cX10_keep pX10_keep = true := by decide +kernel
theorem hX10_keep : xHd mX10_keep := ⟨xg (w := (Jvm.Cond.code ({ cls := "SmellBurdens", name := "keep", desc := "(I)I" } : Jvm.MethodName) prog_1_method_19_code (3 : Nat) (Option.some Jvm.ClassFile.FieldType.int))) (xt3 (List.mem_of_getElem? (i := 90) (by decide +kernel))) rfl, xg (w := (Jvm.Cond.initialized "SmellBurdens")) (xt1 (List.mem_of_getElem? (i := 1) (by decide +kernel))) rfl, ⟨by decide +kernel, by decide +kernel, by decide +kernel⟩, xg (w := (Jvm.Cond.instanceMethod ({ cls := "SmellBurdens", name := "keep", desc := "(I)I" } : Jvm.MethodName))) (xt3 (List.mem_of_getElem? (i := 88) (by decide +kernel))) rfl, xg (w := (Jvm.Cond.selects "SmellBurdens" ({ cls := "SmellBurdens", name := "keep", desc := "(I)I" } : Jvm.MethodName) ({ cls := "SmellBurdens", name := "keep", desc := "(I)I" } : Jvm.MethodName))) (xt3 (List.mem_of_getElem? (i := 89) (by decide +kernel))) rfl, rfl⟩
theorem wdX10_226 : (Jvm.Cond.methodLink "SmellBurdens" (226 : Nat) ({ cls := "SmellBurdens$Deeds", name := "isMissing", desc := "()Z" } : Jvm.MethodName)) ∈ xG := xg (xt3 (List.mem_of_getElem? (i := 100) (by decide +kernel))) rfl
def pX10_on : List xE := [(0, 1, .aload_n 0, 0, 0, 0, []), (1, 1, .iload_n 1, 1, 0, 0, []), (2, 3, .invokevirtual 138, 0, 0, 0, []), (5, 1, .astore_n 2, 2, 0, 0, []), (6, 1, .aload_n 2, 2, 0, 0, []), (7, 3, .ifnonnull 5, 12, 0, 0, []), (10, 1, .iconst (-1), 1, 0, 0, []), (11, 1, .ireturn, 0, 0, 0, []), (12, 1, .aload_n 2, 2, 0, 0, []), (13, 3, .invokevirtual 226, 1, 0, 0, []), (16, 3, .ifCond .eq 9, 25, 0, 0, []), (19, 1, .aload_n 0, 0, 0, 0, []), (20, 1, .iconst 1, 1, 0, 0, []), (21, 3, .invokevirtual 79, 2, 0, 0, []), (24, 1, .ireturn, 0, 0, 0, []), (25, 1, .aload_n 0, 0, 0, 0, []), (26, 3, .getfield 38, 7, 4, 0, []), (29, 1, .aload_n 2, 2, 0, 0, []), (30, 3, .invokevirtual 223, 3, 0, 0, []), (33, 1, .aload_n 0, 0, 0, 0, []), (34, 3, .getfield 38, 7, 4, 0, []), (37, 3, .getfield 217, 1, 3, 1, []), (40, 1, .ireturn, 0, 0, 0, [])]
def mX10_on : xM := (yX10_on, cX10_on, 3, (some FieldType.int), 0, 1, 7, 2, 47, 0, pX10_on)
theorem dX10_on : xDec cX10_on pX10_on = true := by decide +kernel
theorem hX10_on : xHd mX10_on := ⟨xg (w := (Jvm.Cond.code ({ cls := "SmellBurdens", name := "on", desc := "(I)I" } : Jvm.MethodName) prog_1_method_20_code (3 : Nat) (Option.some Jvm.ClassFile.FieldType.int))) (xt3 (List.mem_of_getElem? (i := 99) (by decide +kernel))) rfl, xg (w := (Jvm.Cond.initialized "SmellBurdens")) (xt1 (List.mem_of_getElem? (i := 1) (by decide +kernel))) rfl, ⟨by decide +kernel, by decide +kernel, by decide +kernel⟩, xg (w := (Jvm.Cond.instanceMethod ({ cls := "SmellBurdens", name := "on", desc := "(I)I" } : Jvm.MethodName))) (xt3 (List.mem_of_getElem? (i := 97) (by decide +kernel))) rfl, xg (w := (Jvm.Cond.selects "SmellBurdens" ({ cls := "SmellBurdens", name := "on", desc := "(I)I" } : Jvm.MethodName) ({ cls := "SmellBurdens", name := "on", desc := "(I)I" } : Jvm.MethodName))) (xt3 (List.mem_of_getElem? (i := 98) (by decide +kernel))) rfl, rfl⟩
theorem wdX10_230 : (Jvm.Cond.methodLink "SmellBurdens" (230 : Nat) ({ cls := "SmellBurdens", name := "isSet", desc := "(I)Z" } : Jvm.MethodName)) ∈ xG := xg (xt3 (List.mem_of_getElem? (i := 108) (by decide +kernel))) rfl
theorem wdX10_233 : (Jvm.Cond.methodLink "SmellBurdens" (233 : Nat) ({ cls := "SmellBurdens$Plain", name := "likeness", desc := "(JII)I" } : Jvm.MethodName)) ∈ xG := xg (xt3 (List.mem_of_getElem? (i := 111) (by decide +kernel))) rfl
def pX10_like : List xE := [(0, 1, .aload_n 0, 0, 0, 0, []), (1, 3, .getfield 31, 7, 3, 0, []), (4, 1, .iload_n 1, 1, 0, 0, []), (5, 3, .invokevirtual 148, 0, 0, 0, []), (8, 3, .ifCond .eq 10, 18, 0, 0, []), (11, 1, .iload_n 2, 2, 0, 0, []), (12, 3, .invokestatic 230, 1, 0, 0, []), (15, 3, .ifCond .ne 5, 20, 0, 0, []), (18, 1, .iconst (-1), 1, 0, 0, []), (19, 1, .ireturn, 0, 0, 0, []), (20, 1, .aload_n 0, 0, 0, 0, []), (21, 3, .getfield 31, 7, 3, 0, []), (24, 1, .aload_n 0, 0, 0, 0, []), (25, 3, .getfield 38, 7, 4, 0, []), (28, 3, .getfield 169, 1, 1, 1, []), (31, 1, .iload_n 1, 1, 0, 0, []), (32, 1, .iload_n 2, 2, 0, 0, []), (33, 3, .invokevirtual 233, 2, 0, 0, []), (36, 1, .ireturn, 0, 0, 0, [])]
def mX10_like : xM := (yX10_like, cX10_like, 3, (some FieldType.int), 0, 2, 7, 3, 69, 0, pX10_like)
theorem dX10_like : xDec cX10_like pX10_like = true := by decide +kernel
theorem hX10_like : xHd mX10_like := ⟨xg (w := (Jvm.Cond.code ({ cls := "SmellBurdens", name := "like", desc := "(II)I" } : Jvm.MethodName) prog_1_method_21_code (3 : Nat) (Option.some Jvm.ClassFile.FieldType.int))) (xt3 (List.mem_of_getElem? (i := 107) (by decide +kernel))) rfl, xg (w := (Jvm.Cond.initialized "SmellBurdens")) (xt1 (List.mem_of_getElem? (i := 1) (by decide +kernel))) rfl, ⟨by decide +kernel, by decide +kernel, by decide +kernel⟩, xg (w := (Jvm.Cond.instanceMethod ({ cls := "SmellBurdens", name := "like", desc := "(II)I" } : Jvm.MethodName))) (xt3 (List.mem_of_getElem? (i := 105) (by decide +kernel))) rfl, xg (w := (Jvm.Cond.selects "SmellBurdens" ({ cls := "SmellBurdens", name := "like", desc := "(II)I" } : Jvm.MethodName) ({ cls := "SmellBurdens", name := "like", desc := "(II)I" } : Jvm.MethodName))) (xt3 (List.mem_of_getElem? (i := 106) (by decide +kernel))) rfl, rfl⟩
theorem wdX10_237 : (Jvm.Cond.methodLink "SmellBurdens" (237 : Nat) ({ cls := "SmellBurdens$Plain", name := "takersOf", desc := "(JI)I" } : Jvm.MethodName)) ∈ xG := xg (xt3 (List.mem_of_getElem? (i := 116) (by decide +kernel))) rfl
def pX10_who : List xE := [(0, 1, .iload_n 1, 1, 0, 0, []), (1, 3, .invokestatic 230, 0, 0, 0, []), (4, 3, .ifCond .ne 5, 9, 0, 0, []), (7, 1, .iconst (-1), 1, 0, 0, []), (8, 1, .ireturn, 0, 0, 0, []), (9, 1, .aload_n 0, 0, 0, 0, []), (10, 3, .getfield 31, 7, 3, 0, []), (13, 1, .aload_n 0, 0, 0, 0, []), (14, 3, .getfield 38, 7, 4, 0, []), (17, 3, .getfield 169, 1, 1, 1, []), (20, 1, .iload_n 1, 1, 0, 0, []), (21, 3, .invokevirtual 237, 1, 0, 0, []), (24, 1, .ireturn, 0, 0, 0, [])]
def mX10_who : xM := (yX10_who, cX10_who, 2, (some FieldType.int), 0, 1, 7, 5, 114, 0, pX10_who)
theorem dX10_who : xDec cX10_who pX10_who = true := by decide +kernel
theorem hX10_who : xHd mX10_who := ⟨xg (w := (Jvm.Cond.code ({ cls := "SmellBurdens", name := "who", desc := "(I)I" } : Jvm.MethodName) prog_1_method_22_code (2 : Nat) (Option.some Jvm.ClassFile.FieldType.int))) (xt3 (List.mem_of_getElem? (i := 115) (by decide +kernel))) rfl, xg (w := (Jvm.Cond.initialized "SmellBurdens")) (xt1 (List.mem_of_getElem? (i := 1) (by decide +kernel))) rfl, ⟨by decide +kernel, by decide +kernel, by decide +kernel⟩, xg (w := (Jvm.Cond.instanceMethod ({ cls := "SmellBurdens", name := "who", desc := "(I)I" } : Jvm.MethodName))) (xt3 (List.mem_of_getElem? (i := 113) (by decide +kernel))) rfl, xg (w := (Jvm.Cond.selects "SmellBurdens" ({ cls := "SmellBurdens", name := "who", desc := "(I)I" } : Jvm.MethodName) ({ cls := "SmellBurdens", name := "who", desc := "(I)I" } : Jvm.MethodName))) (xt3 (List.mem_of_getElem? (i := 114) (by decide +kernel))) rfl, rfl⟩
theorem wdX10_240 : (Jvm.Cond.methodLink "SmellBurdens" (240 : Nat) ({ cls := "SmellBurdens$Foresight", name := "behindDays", desc := "(LSmellBurdens$Plain;JI)J" } : Jvm.MethodName)) ∈ xG := xg (xt3 (List.mem_of_getElem? (i := 124) (by decide +kernel))) rfl
theorem wdX10_244 : (Jvm.Cond.methodLink "SmellBurdens" (244 : Nat) ({ cls := "SmellBurdens$Scene", name := "placeOf", desc := "(JI)I" } : Jvm.MethodName)) ∈ xG := xg (xt2 (List.mem_of_getElem? (i := 226) (by decide +kernel))) rfl
def pX10_where : List xE := [(0, 1, .aload_n 0, 0, 0, 0, []), (1, 3, .getfield 31, 7, 3, 0, []), (4, 1, .iload_n 1, 1, 0, 0, []), (5, 3, .invokevirtual 154, 0, 0, 0, []), (8, 3, .ifCond .eq 13, 21, 0, 0, []), (11, 1, .iload_n 2, 2, 0, 0, []), (12, 3, .ifCond .lt 9, 21, 0, 0, []), (15, 1, .iload_n 2, 2, 0, 0, []), (16, 2, .bipush 60, 60, 0, 0, []), (18, 3, .if_icmp .le 5, 23, 0, 0, []), (21, 1, .iconst (-1), 1, 0, 0, []), (22, 1, .ireturn, 0, 0, 0, []), (23, 1, .aload_n 0, 0, 0, 0, []), (24, 3, .getfield 31, 7, 3, 0, []), (27, 1, .aload_n 0, 0, 0, 0, []), (28, 3, .getfield 38, 7, 4, 0, []), (31, 3, .getfield 169, 1, 1, 1, []), (34, 1, .iload_n 2, 2, 0, 0, []), (35, 3, .invokestatic 240, 1, 0, 0, []), (38, 1, .iload_n 1, 1, 0, 0, []), (39, 3, .invokestatic 244, 2, 0, 0, []), (42, 1, .ireturn, 0, 0, 0, [])]
def mX10_where : xM := (yX10_where, cX10_where, 3, (some FieldType.int), 0, 2, 7, 6, 155, 0, pX10_where)
theorem dX10_where : xDec cX10_where pX10_where = true := by decide +kernel
theorem hX10_where : xHd mX10_where := ⟨xg (w := (Jvm.Cond.code ({ cls := "SmellBurdens", name := "where", desc := "(II)I" } : Jvm.MethodName) prog_1_method_23_code (3 : Nat) (Option.some Jvm.ClassFile.FieldType.int))) (xt3 (List.mem_of_getElem? (i := 123) (by decide +kernel))) rfl, xg (w := (Jvm.Cond.initialized "SmellBurdens")) (xt1 (List.mem_of_getElem? (i := 1) (by decide +kernel))) rfl, ⟨by decide +kernel, by decide +kernel, by decide +kernel⟩, xg (w := (Jvm.Cond.instanceMethod ({ cls := "SmellBurdens", name := "where", desc := "(II)I" } : Jvm.MethodName))) (xt3 (List.mem_of_getElem? (i := 121) (by decide +kernel))) rfl, xg (w := (Jvm.Cond.selects "SmellBurdens" ({ cls := "SmellBurdens", name := "where", desc := "(II)I" } : Jvm.MethodName) ({ cls := "SmellBurdens", name := "where", desc := "(II)I" } : Jvm.MethodName))) (xt3 (List.mem_of_getElem? (i := 122) (by decide +kernel))) rfl, rfl⟩
theorem wdX10_247 : (Jvm.Cond.methodLink "SmellBurdens" (247 : Nat) ({ cls := "SmellBurdens$Foresight", name := "daysToHomes", desc := "(LSmellBurdens$Plain;J)I" } : Jvm.MethodName)) ∈ xG := xg (xt3 (List.mem_of_getElem? (i := 133) (by decide +kernel))) rfl
def pX10_home : List xE := [(0, 1, .aload_n 0, 0, 0, 0, []), (1, 3, .getfield 31, 7, 3, 0, []), (4, 3, .getfield 195, 3, 0, 1, []), (7, 3, .ifCond .ne 6, 13, 0, 0, []), (10, 2, .bipush (-4), 4, 0, 0, []), (12, 1, .ireturn, 0, 0, 0, []), (13, 1, .aload_n 0, 0, 0, 0, []), (14, 3, .getfield 31, 7, 3, 0, []), (17, 1, .aload_n 0, 0, 0, 0, []), (18, 3, .getfield 38, 7, 4, 0, []), (21, 3, .getfield 169, 1, 1, 1, []), (24, 3, .invokestatic 247, 0, 0, 0, []), (27, 1, .ireturn, 0, 0, 0, [])]
def mX10_home : xM := (yX10_home, cX10_home, 1, (some FieldType.int), 0, 0, 7, 7, 180, 0, pX10_home)
theorem dX10_home : xDec cX10_home pX10_home = true := by decide +kernel
theorem hX10_home : xHd mX10_home := ⟨xg (w := (Jvm.Cond.code ({ cls := "SmellBurdens", name := "home", desc := "()I" } : Jvm.MethodName) prog_1_method_24_code (1 : Nat) (Option.some Jvm.ClassFile.FieldType.int))) (xt3 (List.mem_of_getElem? (i := 132) (by decide +kernel))) rfl, xg (w := (Jvm.Cond.initialized "SmellBurdens")) (xt1 (List.mem_of_getElem? (i := 1) (by decide +kernel))) rfl, ⟨by decide +kernel, by decide +kernel, by decide +kernel⟩, xg (w := (Jvm.Cond.instanceMethod ({ cls := "SmellBurdens", name := "home", desc := "()I" } : Jvm.MethodName))) (xt3 (List.mem_of_getElem? (i := 130) (by decide +kernel))) rfl, xg (w := (Jvm.Cond.selects "SmellBurdens" ({ cls := "SmellBurdens", name := "home", desc := "()I" } : Jvm.MethodName) ({ cls := "SmellBurdens", name := "home", desc := "()I" } : Jvm.MethodName))) (xt3 (List.mem_of_getElem? (i := 131) (by decide +kernel))) rfl, rfl⟩
theorem wdX10_251 : (Jvm.Cond.methodLink "SmellBurdens" (251 : Nat) ({ cls := "SmellBurdens$Foresight", name := "firstAgain", desc := "(LSmellBurdens$Plain;J)I" } : Jvm.MethodName)) ∈ xG := xg (xt3 (List.mem_of_getElem? (i := 149) (by decide +kernel))) rfl
theorem wdX10_254 : (Jvm.Cond.methodLink "SmellBurdens" (254 : Nat) ({ cls := "SmellBurdens$Foresight", name := "daysSince", desc := "(I)I" } : Jvm.MethodName)) ∈ xG := xg (xt3 (List.mem_of_getElem? (i := 157) (by decide +kernel))) rfl
def pX10_round : List xE := [(0, 1, .aload_n 0, 0, 0, 0, []), (1, 3, .getfield 31, 7, 3, 0, []), (4, 3, .getfield 195, 3, 0, 1, []), (7, 3, .ifCond .ne 6, 13, 0, 0, []), (10, 2, .bipush (-4), 4, 0, 0, []), (12, 1, .ireturn, 0, 0, 0, []), (13, 1, .aload_n 0, 0, 0, 0, []), (14, 3, .getfield 49, 7, 6, 0, []), (17, 1, .aload_n 0, 0, 0, 0, []), (18, 3, .getfield 31, 7, 3, 0, []), (21, 1, .aload_n 0, 0, 0, 0, []), (22, 3, .getfield 38, 7, 4, 0, []), (25, 3, .getfield 169, 1, 1, 1, []), (28, 3, .invokevirtual 251, 0, 0, 0, []), (31, 1, .istore_n 1, 1, 0, 0, []), (32, 1, .iload_n 1, 1, 0, 0, []), (33, 2, .bipush (-9), 9, 0, 0, []), (35, 3, .if_icmp .eq 16, 51, 0, 0, []), (38, 1, .aload_n 0, 0, 0, 0, []), (39, 1, .aload_n 0, 0, 0, 0, []), (40, 3, .getfield 49, 7, 6, 0, []), (43, 1, .iload_n 1, 1, 0, 0, []), (44, 3, .invokevirtual 254, 1, 0, 0, []), (47, 3, .invokevirtual 95, 2, 0, 0, []), (50, 1, .pop, 0, 0, 0, []), (51, 1, .iload_n 1, 1, 0, 0, []), (52, 1, .ireturn, 0, 0, 0, [])]
def mX10_round : xM := (yX10_round, cX10_round, 2, (some FieldType.int), 0, 0, 7, 7, 179, 0, pX10_round)
theorem dX10_round : xDec cX10_round pX10_round = true := by decide +kernel
theorem hX10_round : xHd mX10_round := ⟨xg (w := (Jvm.Cond.code ({ cls := "SmellBurdens", name := "round", desc := "()I" } : Jvm.MethodName) prog_1_method_25_code (2 : Nat) (Option.some Jvm.ClassFile.FieldType.int))) (xt3 (List.mem_of_getElem? (i := 148) (by decide +kernel))) rfl, xg (w := (Jvm.Cond.initialized "SmellBurdens")) (xt1 (List.mem_of_getElem? (i := 1) (by decide +kernel))) rfl, ⟨by decide +kernel, by decide +kernel, by decide +kernel⟩, xg (w := (Jvm.Cond.instanceMethod ({ cls := "SmellBurdens", name := "round", desc := "()I" } : Jvm.MethodName))) (xt3 (List.mem_of_getElem? (i := 146) (by decide +kernel))) rfl, xg (w := (Jvm.Cond.selects "SmellBurdens" ({ cls := "SmellBurdens", name := "round", desc := "()I" } : Jvm.MethodName) ({ cls := "SmellBurdens", name := "round", desc := "()I" } : Jvm.MethodName))) (xt3 (List.mem_of_getElem? (i := 147) (by decide +kernel))) rfl, rfl⟩
theorem wdX10_257 : (Jvm.Cond.methodLink "SmellBurdens" (257 : Nat) ({ cls := "SmellBurdens$Foresight", name := "marksToHome", desc := "(LSmellBurdens$Plain;JII)I" } : Jvm.MethodName)) ∈ xG := xg (xt3 (List.mem_of_getElem? (i := 162) (by decide +kernel))) rfl
def pX10_marks : List xE := [(0, 1, .aload_n 0, 0, 0, 0, []), (1, 3, .getfield 31, 7, 3, 0, []), (4, 1, .iload_n 1, 1, 0, 0, []), (5, 3, .invokevirtual 154, 0, 0, 0, []), (8, 3, .ifCond .eq 13, 21, 0, 0, []), (11, 1, .iload_n 2, 2, 0, 0, []), (12, 3, .ifCond .lt 9, 21, 0, 0, []), (15, 1, .iload_n 2, 2, 0, 0, []), (16, 2, .bipush 20, 20, 0, 0, []), (18, 3, .if_icmp .le 5, 23, 0, 0, []), (21, 1, .iconst (-1), 1, 0, 0, []), (22, 1, .ireturn, 0, 0, 0, []), (23, 1, .aload_n 0, 0, 0, 0, []), (24, 3, .getfield 38, 7, 4, 0, []), (27, 3, .getfield 169, 1, 1, 1, []), (30, 1, .lstore_n 3, 3, 0, 0, []), (31, 1, .aload_n 0, 0, 0, 0, []), (32, 3, .getfield 31, 7, 3, 0, []), (35, 1, .lload_n 3, 3, 0, 0, []), (36, 1, .iload_n 1, 1, 0, 0, []), (37, 1, .iload_n 2, 2, 0, 0, []), (38, 3, .invokestatic 257, 1, 0, 0, []), (41, 2, .istore 5, 5, 0, 0, []), (43, 2, .iload 5, 5, 0, 0, []), (45, 2, .bipush (-9), 9, 0, 0, []), (47, 3, .if_icmp .ne 6, 53, 0, 0, []), (50, 2, .bipush (-9), 9, 0, 0, []), (52, 1, .ireturn, 0, 0, 0, []), (53, 1, .aload_n 0, 0, 0, 0, []), (54, 2, .iload 5, 5, 0, 0, []), (56, 3, .invokevirtual 95, 2, 0, 0, []), (59, 1, .pop, 0, 0, 0, []), (60, 2, .iload 5, 5, 0, 0, []), (62, 1, .lload_n 3, 3, 0, 0, []), (63, 1, .iload_n 1, 1, 0, 0, []), (64, 3, .invokestatic 208, 3, 0, 0, []), (67, 1, .ixor, 0, 0, 0, []), (68, 3, .invokestatic 178, 4, 0, 0, []), (71, 1, .ireturn, 0, 0, 0, [])]
def mX10_marks : xM := (yX10_marks, cX10_marks, 6, (some FieldType.int), 0, 2, 7, 7, 186, 0, pX10_marks)
theorem dX10_marks : xDec cX10_marks pX10_marks = true := by decide +kernel
theorem hX10_marks : xHd mX10_marks := ⟨xg (w := (Jvm.Cond.code ({ cls := "SmellBurdens", name := "marks", desc := "(II)I" } : Jvm.MethodName) prog_1_method_26_code (6 : Nat) (Option.some Jvm.ClassFile.FieldType.int))) (xt3 (List.mem_of_getElem? (i := 161) (by decide +kernel))) rfl, xg (w := (Jvm.Cond.initialized "SmellBurdens")) (xt1 (List.mem_of_getElem? (i := 1) (by decide +kernel))) rfl, ⟨by decide +kernel, by decide +kernel, by decide +kernel⟩, xg (w := (Jvm.Cond.instanceMethod ({ cls := "SmellBurdens", name := "marks", desc := "(II)I" } : Jvm.MethodName))) (xt3 (List.mem_of_getElem? (i := 159) (by decide +kernel))) rfl, xg (w := (Jvm.Cond.selects "SmellBurdens" ({ cls := "SmellBurdens", name := "marks", desc := "(II)I" } : Jvm.MethodName) ({ cls := "SmellBurdens", name := "marks", desc := "(II)I" } : Jvm.MethodName))) (xt3 (List.mem_of_getElem? (i := 160) (by decide +kernel))) rfl, rfl⟩
theorem wdX10_261 : (Jvm.Cond.methodLink "SmellBurdens" (261 : Nat) ({ cls := "SmellBurdens$Wall", name := "weigh", desc := "(LSmellBurdens$Plain;J)V" } : Jvm.MethodName)) ∈ xG := xg (xt3 (List.mem_of_getElem? (i := 173) (by decide +kernel))) rfl
theorem wdX10_265 : (Jvm.Cond.methodLink "SmellBurdens" (265 : Nat) ({ cls := "SmellBurdens$Wall", name := "giveOut", desc := "(LSmellBurdens$Plain;JLSmellBurdens$Shelf;I)V" } : Jvm.MethodName)) ∈ xG := xg (xt3 (List.mem_of_getElem? (i := 195) (by decide +kernel))) rfl
theorem wdX10_269 : (Jvm.Cond.methodLink "SmellBurdens" (269 : Nat) ({ cls := "SmellBurdens$Wall", name := "most", desc := "()I" } : Jvm.MethodName)) ∈ xG := xg (xt3 (List.mem_of_getElem? (i := 204) (by decide +kernel))) rfl
def pX10_match : List xE := [(0, 1, .aload_n 0, 0, 0, 0, []), (1, 3, .getfield 14, 7, 0, 0, []), (4, 1, .iload_n 1, 1, 0, 0, []), (5, 3, .invokevirtual 75, 0, 0, 0, []), (8, 3, .ifCond .ne 5, 13, 0, 0, []), (11, 1, .iconst (-1), 1, 0, 0, []), (12, 1, .ireturn, 0, 0, 0, []), (13, 1, .aload_n 0, 0, 0, 0, []), (14, 3, .getfield 31, 7, 3, 0, []), (17, 3, .getfield 195, 3, 0, 1, []), (20, 3, .ifCond .ne 6, 26, 0, 0, []), (23, 2, .bipush (-4), 4, 0, 0, []), (25, 1, .ireturn, 0, 0, 0, []), (26, 1, .aload_n 0, 0, 0, 0, []), (27, 3, .getfield 56, 7, 7, 0, []), (30, 1, .aload_n 0, 0, 0, 0, []), (31, 3, .getfield 31, 7, 3, 0, []), (34, 1, .aload_n 0, 0, 0, 0, []), (35, 3, .getfield 38, 7, 4, 0, []), (38, 3, .getfield 169, 1, 1, 1, []), (41, 3, .invokevirtual 261, 1, 0, 0, []), (44, 1, .aload_n 0, 0, 0, 0, []), (45, 3, .getfield 14, 7, 0, 0, []), (48, 1, .iload_n 1, 1, 0, 0, []), (49, 1, .aload_n 0, 0, 0, 0, []), (50, 3, .getfield 31, 7, 3, 0, []), (53, 3, .getfield 195, 3, 0, 1, []), (56, 2, .bipush (-9), 9, 0, 0, []), (58, 3, .invokevirtual 83, 2, 0, 0, []), (61, 1, .aload_n 0, 0, 0, 0, []), (62, 3, .getfield 56, 7, 7, 0, []), (65, 1, .aload_n 0, 0, 0, 0, []), (66, 3, .getfield 31, 7, 3, 0, []), (69, 1, .aload_n 0, 0, 0, 0, []), (70, 3, .getfield 38, 7, 4, 0, []), (73, 3, .getfield 169, 1, 1, 1, []), (76, 1, .aload_n 0, 0, 0, 0, []), (77, 3, .getfield 14, 7, 0, 0, []), (80, 1, .iload_n 1, 1, 0, 0, []), (81, 3, .invokevirtual 265, 3, 0, 0, []), (84, 1, .aload_n 0, 0, 0, 0, []), (85, 3, .getfield 56, 7, 7, 0, []), (88, 3, .invokevirtual 269, 4, 0, 0, []), (91, 1, .ireturn, 0, 0, 0, [])]
def mX10_match : xM := (yX10_match, cX10_match, 2, (some FieldType.int), 0, 1, 7, 6, 154, 0, pX10_match)
theorem dX10_match : xDec cX10_match pX10_match = true := by decide +kernel
theorem hX10_match : xHd mX10_match := ⟨xg (w := (Jvm.Cond.code ({ cls := "SmellBurdens", name := "match", desc := "(I)I" } : Jvm.MethodName) prog_1_method_27_code (2 : Nat) (Option.some Jvm.ClassFile.FieldType.int))) (xt3 (List.mem_of_getElem? (i := 172) (by decide +kernel))) rfl, xg (w := (Jvm.Cond.initialized "SmellBurdens")) (xt1 (List.mem_of_getElem? (i := 1) (by decide +kernel))) rfl, ⟨by decide +kernel, by decide +kernel, by decide +kernel⟩, xg (w := (Jvm.Cond.instanceMethod ({ cls := "SmellBurdens", name := "match", desc := "(I)I" } : Jvm.MethodName))) (xt3 (List.mem_of_getElem? (i := 170) (by decide +kernel))) rfl, xg (w := (Jvm.Cond.selects "SmellBurdens" ({ cls := "SmellBurdens", name := "match", desc := "(I)I" } : Jvm.MethodName) ({ cls := "SmellBurdens", name := "match", desc := "(I)I" } : Jvm.MethodName))) (xt3 (List.mem_of_getElem? (i := 171) (by decide +kernel))) rfl, rfl⟩
theorem wdX10_272 : (Jvm.Cond.methodLink "SmellBurdens" (272 : Nat) ({ cls := "SmellBurdens$Wall", name := "firstOrder", desc := "(LSmellBurdens$Plain;JII)I" } : Jvm.MethodName)) ∈ xG := xg (xt3 (List.mem_of_getElem? (i := 212) (by decide +kernel))) rfl
theorem wdX10_275 : (Jvm.Cond.methodLink "SmellBurdens" (275 : Nat) ({ cls := "SmellBurdens$Plain", name := "assInLine", desc := "(II)I" } : Jvm.MethodName)) ∈ xG := xg (xt3 (List.mem_of_getElem? (i := 230) (by decide +kernel))) rfl
theorem wdX10_278 : (Jvm.Cond.methodLink "SmellBurdens" (278 : Nat) ({ cls := "SmellBurdens$Wall", name := "howManyOrders", desc := "(LSmellBurdens$Plain;JII)I" } : Jvm.MethodName)) ∈ xG := xg (xt3 (List.mem_of_getElem? (i := 231) (by decide +kernel))) rfl
def pX10_line : List xE := [(0, 1, .aload_n 0, 0, 0, 0, []), (1, 3, .getfield 31, 7, 3, 0, []), (4, 1, .iload_n 1, 1, 0, 0, []), (5, 3, .invokevirtual 148, 0, 0, 0, []), (8, 3, .ifCond .eq 25, 33, 0, 0, []), (11, 1, .aload_n 0, 0, 0, 0, []), (12, 3, .getfield 31, 7, 3, 0, []), (15, 1, .iload_n 2, 2, 0, 0, []), (16, 3, .invokevirtual 154, 1, 0, 0, []), (19, 3, .ifCond .eq 14, 33, 0, 0, []), (22, 1, .aload_n 0, 0, 0, 0, []), (23, 3, .getfield 14, 7, 0, 0, []), (26, 1, .iload_n 3, 3, 0, 0, []), (27, 3, .invokevirtual 75, 2, 0, 0, []), (30, 3, .ifCond .ne 5, 35, 0, 0, []), (33, 1, .iconst (-1), 1, 0, 0, []), (34, 1, .ireturn, 0, 0, 0, []), (35, 1, .aload_n 0, 0, 0, 0, []), (36, 3, .getfield 31, 7, 3, 0, []), (39, 1, .aload_n 0, 0, 0, 0, []), (40, 3, .getfield 38, 7, 4, 0, []), (43, 3, .getfield 169, 1, 1, 1, []), (46, 1, .iload_n 1, 1, 0, 0, []), (47, 1, .iload_n 2, 2, 0, 0, []), (48, 3, .invokestatic 272, 3, 0, 0, []), (51, 2, .istore 4, 4, 0, 0, []), (53, 2, .iload 4, 4, 0, 0, []), (55, 2, .bipush (-9), 9, 0, 0, []), (57, 3, .if_icmp .ne 6, 63, 0, 0, []), (60, 2, .bipush (-9), 9, 0, 0, []), (62, 1, .ireturn, 0, 0, 0, []), (63, 1, .aload_n 0, 0, 0, 0, []), (64, 3, .getfield 14, 7, 0, 0, []), (67, 1, .iload_n 3, 3, 0, 0, []), (68, 1, .aload_n 0, 0, 0, 0, []), (69, 3, .getfield 31, 7, 3, 0, []), (72, 3, .getfield 195, 3, 0, 1, []), (75, 1, .iconst 0, 0, 0, 0, []), (76, 3, .invokevirtual 83, 4, 0, 0, []), (79, 1, .iconst 0, 0, 0, 0, []), (80, 2, .istore 5, 5, 0, 0, []), (82, 2, .iload 5, 5, 0, 0, []), (84, 1, .aload_n 0, 0, 0, 0, []), (85, 3, .getfield 31, 7, 3, 0, []), (88, 3, .getfield 195, 3, 0, 1, []), (91, 3, .if_icmp .ge 27, 118, 0, 0, []), (94, 1, .aload_n 0, 0, 0, 0, []), (95, 3, .getfield 14, 7, 0, 0, []), (98, 1, .iload_n 3, 3, 0, 0, []), (99, 2, .iload 5, 5, 0, 0, []), (101, 2, .iload 4, 4, 0, 0, []), (103, 2, .iload 5, 5, 0, 0, []), (105, 3, .invokestatic 275, 5, 0, 0, []), (108, 3, .invokevirtual 91, 6, 0, 0, []), (111, 1, .pop, 0, 0, 0, []), (112, 3, .iinc 5 1, 5, 1, 0, []), (115, 3, .goto (-33), 82, 0, 0, []), (118, 1, .aload_n 0, 0, 0, 0, []), (119, 3, .getfield 31, 7, 3, 0, []), (122, 1, .aload_n 0, 0, 0, 0, []), (123, 3, .getfield 38, 7, 4, 0, []), (126, 3, .getfield 169, 1, 1, 1, []), (129, 1, .iload_n 1, 1, 0, 0, []), (130, 1, .iload_n 2, 2, 0, 0, []), (131, 3, .invokestatic 278, 7, 0, 0, []), (134, 1, .ireturn, 0, 0, 0, [])]
def mX10_line : xM := (yX10_line, cX10_line, 6, (some FieldType.int), 0, 3, 7, 7, 180, 0, pX10_line)
theorem dX10_line : xDec cX10_line pX10_line = true := by decide +kernel
theorem hX10_line : xHd mX10_line := ⟨xg (w := (Jvm.Cond.code ({ cls := "SmellBurdens", name := "line", desc := "(III)I" } : Jvm.MethodName) prog_1_method_28_code (6 : Nat) (Option.some Jvm.ClassFile.FieldType.int))) (xt3 (List.mem_of_getElem? (i := 211) (by decide +kernel))) rfl, xg (w := (Jvm.Cond.initialized "SmellBurdens")) (xt1 (List.mem_of_getElem? (i := 1) (by decide +kernel))) rfl, ⟨by decide +kernel, by decide +kernel, by decide +kernel⟩, xg (w := (Jvm.Cond.instanceMethod ({ cls := "SmellBurdens", name := "line", desc := "(III)I" } : Jvm.MethodName))) (xt3 (List.mem_of_getElem? (i := 209) (by decide +kernel))) rfl, xg (w := (Jvm.Cond.selects "SmellBurdens" ({ cls := "SmellBurdens", name := "line", desc := "(III)I" } : Jvm.MethodName) ({ cls := "SmellBurdens", name := "line", desc := "(III)I" } : Jvm.MethodName))) (xt3 (List.mem_of_getElem? (i := 210) (by decide +kernel))) rfl, rfl⟩
theorem wdX10_281 : (Jvm.Cond.methodLink "SmellBurdens" (281 : Nat) ({ cls := "SmellBurdens$Wall", name := "fewestForAll", desc := "(LSmellBurdens$Plain;J)I" } : Jvm.MethodName)) ∈ xG := xg (xt3 (List.mem_of_getElem? (i := 238) (by decide +kernel))) rfl
def pX10_cover : List xE := [(0, 1, .aload_n 0, 0, 0, 0, []), (1, 3, .getfield 31, 7, 3, 0, []), (4, 3, .getfield 195, 3, 0, 1, []), (7, 3, .ifCond .ne 6, 13, 0, 0, []), (10, 2, .bipush (-4), 4, 0, 0, []), (12, 1, .ireturn, 0, 0, 0, []), (13, 1, .aload_n 0, 0, 0, 0, []), (14, 3, .getfield 31, 7, 3, 0, []), (17, 1, .aload_n 0, 0, 0, 0, []), (18, 3, .getfield 38, 7, 4, 0, []), (21, 3, .getfield 169, 1, 1, 1, []), (24, 3, .invokestatic 281, 0, 0, 0, []), (27, 1, .istore_n 1, 1, 0, 0, []), (28, 1, .iload_n 1, 1, 0, 0, []), (29, 2, .bipush (-9), 9, 0, 0, []), (31, 3, .if_icmp .ne 6, 37, 0, 0, []), (34, 2, .bipush (-9), 9, 0, 0, []), (36, 1, .ireturn, 0, 0, 0, []), (37, 1, .aload_n 0, 0, 0, 0, []), (38, 1, .iload_n 1, 1, 0, 0, []), (39, 3, .invokevirtual 95, 1, 0, 0, []), (42, 1, .pop, 0, 0, 0, []), (43, 1, .iload_n 1, 1, 0, 0, []), (44, 3, .invokestatic 178, 2, 0, 0, []), (47, 1, .ireturn, 0, 0, 0, [])]
def mX10_cover : xM := (yX10_cover, cX10_cover, 2, (some FieldType.int), 0, 0, 7, 7, 164, 0, pX10_cover)
theorem dX10_cover : xDec cX10_cover pX10_cover = true := by decide +kernel
theorem hX10_cover : xHd mX10_cover := ⟨xg (w := (Jvm.Cond.code ({ cls := "SmellBurdens", name := "cover", desc := "()I" } : Jvm.MethodName) prog_1_method_29_code (2 : Nat) (Option.some Jvm.ClassFile.FieldType.int))) (xt3 (List.mem_of_getElem? (i := 237) (by decide +kernel))) rfl, xg (w := (Jvm.Cond.initialized "SmellBurdens")) (xt1 (List.mem_of_getElem? (i := 1) (by decide +kernel))) rfl, ⟨by decide +kernel, by decide +kernel, by decide +kernel⟩, xg (w := (Jvm.Cond.instanceMethod ({ cls := "SmellBurdens", name := "cover", desc := "()I" } : Jvm.MethodName))) (xt3 (List.mem_of_getElem? (i := 235) (by decide +kernel))) rfl, xg (w := (Jvm.Cond.selects "SmellBurdens" ({ cls := "SmellBurdens", name := "cover", desc := "()I" } : Jvm.MethodName) ({ cls := "SmellBurdens", name := "cover", desc := "()I" } : Jvm.MethodName))) (xt3 (List.mem_of_getElem? (i := 236) (by decide +kernel))) rfl, rfl⟩
theorem wdX10_284 : (Jvm.Cond.methodLink "SmellBurdens" (284 : Nat) ({ cls := "SmellBurdens$Guess", name := "wrongPairs", desc := "(LSmellBurdens$Shelf;I)I" } : Jvm.MethodName)) ∈ xG := xg (xt4 (List.mem_of_getElem? (i := 11) (by decide +kernel))) rfl
theorem wdX10_289 : (Jvm.Cond.methodLink "SmellBurdens" (289 : Nat) ({ cls := "SmellBurdens$Guess", name := "memoriesBy", desc := "(LSmellBurdens$Shelf;II)I" } : Jvm.MethodName)) ∈ xG := xg (xt4 (List.mem_of_getElem? (i := 18) (by decide +kernel))) rfl
def pX10_memories : List xE := [(0, 1, .aload_n 0, 0, 0, 0, []), (1, 3, .getfield 31, 7, 3, 0, []), (4, 1, .iload_n 1, 1, 0, 0, []), (5, 3, .invokevirtual 148, 0, 0, 0, []), (8, 3, .ifCond .eq 14, 22, 0, 0, []), (11, 1, .aload_n 0, 0, 0, 0, []), (12, 3, .getfield 14, 7, 0, 0, []), (15, 1, .iload_n 2, 2, 0, 0, []), (16, 3, .invokevirtual 75, 1, 0, 0, []), (19, 3, .ifCond .ne 5, 24, 0, 0, []), (22, 1, .iconst (-1), 1, 0, 0, []), (23, 1, .ireturn, 0, 0, 0, []), (24, 1, .aload_n 0, 0, 0, 0, []), (25, 3, .getfield 14, 7, 0, 0, []), (28, 1, .iload_n 2, 2, 0, 0, []), (29, 3, .invokestatic 284, 2, 0, 0, []), (32, 1, .istore_n 3, 3, 0, 0, []), (33, 1, .iload_n 3, 3, 0, 0, []), (34, 3, .ifCond .eq 9, 43, 0, 0, []), (37, 1, .aload_n 0, 0, 0, 0, []), (38, 1, .iload_n 3, 3, 0, 0, []), (39, 3, .invokevirtual 79, 3, 0, 0, []), (42, 1, .ireturn, 0, 0, 0, []), (43, 1, .aload_n 0, 0, 0, 0, []), (44, 3, .getfield 14, 7, 0, 0, []), (47, 1, .iload_n 2, 2, 0, 0, []), (48, 1, .aload_n 0, 0, 0, 0, []), (49, 3, .getfield 31, 7, 3, 0, []), (52, 1, .iload_n 1, 1, 0, 0, []), (53, 3, .invokevirtual 162, 4, 0, 0, []), (56, 3, .invokestatic 289, 5, 0, 0, []), (59, 1, .ireturn, 0, 0, 0, [])]
def mX10_memories : xM := (yX10_memories, cX10_memories, 4, (some FieldType.int), 0, 2, 7, 5, 117, 0, pX10_memories)
theorem dX10_memories : xDec cX10_memories pX10_memories = true := by decide +kernel
theorem hX10_memories : xHd mX10_memories := ⟨xg (w := (Jvm.Cond.code ({ cls := "SmellBurdens", name := "memories", desc := "(II)I" } : Jvm.MethodName) prog_1_method_30_code (4 : Nat) (Option.some Jvm.ClassFile.FieldType.int))) (xt4 (List.mem_of_getElem? (i := 10) (by decide +kernel))) rfl, xg (w := (Jvm.Cond.initialized "SmellBurdens")) (xt1 (List.mem_of_getElem? (i := 1) (by decide +kernel))) rfl, ⟨by decide +kernel, by decide +kernel, by decide +kernel⟩, xg (w := (Jvm.Cond.instanceMethod ({ cls := "SmellBurdens", name := "memories", desc := "(II)I" } : Jvm.MethodName))) (xt4 (List.mem_of_getElem? (i := 8) (by decide +kernel))) rfl, xg (w := (Jvm.Cond.selects "SmellBurdens" ({ cls := "SmellBurdens", name := "memories", desc := "(II)I" } : Jvm.MethodName) ({ cls := "SmellBurdens", name := "memories", desc := "(II)I" } : Jvm.MethodName))) (xt4 (List.mem_of_getElem? (i := 9) (by decide +kernel))) rfl, rfl⟩
theorem wdX10_293 : (Jvm.Cond.methodLink "SmellBurdens" (293 : Nat) ({ cls := "SmellBurdens$Guess", name := "kindsBy", desc := "(LSmellBurdens$Shelf;II)I" } : Jvm.MethodName)) ∈ xG := xg (xt4 (List.mem_of_getElem? (i := 29) (by decide +kernel))) rfl
def pX10_kinds : List xE := [(0, 1, .aload_n 0, 0, 0, 0, []), (1, 3, .getfield 31, 7, 3, 0, []), (4, 1, .iload_n 1, 1, 0, 0, []), (5, 3, .invokevirtual 148, 0, 0, 0, []), (8, 3, .ifCond .eq 14, 22, 0, 0, []), (11, 1, .aload_n 0, 0, 0, 0, []), (12, 3, .getfield 14, 7, 0, 0, []), (15, 1, .iload_n 2, 2, 0, 0, []), (16, 3, .invokevirtual 75, 1, 0, 0, []), (19, 3, .ifCond .ne 5, 24, 0, 0, []), (22, 1, .iconst (-1), 1, 0, 0, []), (23, 1, .ireturn, 0, 0, 0, []), (24, 1, .aload_n 0, 0, 0, 0, []), (25, 3, .getfield 14, 7, 0, 0, []), (28, 1, .iload_n 2, 2, 0, 0, []), (29, 3, .invokestatic 284, 2, 0, 0, []), (32, 1, .istore_n 3, 3, 0, 0, []), (33, 1, .iload_n 3, 3, 0, 0, []), (34, 3, .ifCond .eq 9, 43, 0, 0, []), (37, 1, .aload_n 0, 0, 0, 0, []), (38, 1, .iload_n 3, 3, 0, 0, []), (39, 3, .invokevirtual 79, 3, 0, 0, []), (42, 1, .ireturn, 0, 0, 0, []), (43, 1, .aload_n 0, 0, 0, 0, []), (44, 3, .getfield 14, 7, 0, 0, []), (47, 1, .iload_n 2, 2, 0, 0, []), (48, 1, .aload_n 0, 0, 0, 0, []), (49, 3, .getfield 38, 7, 4, 0, []), (52, 3, .getfield 169, 1, 1, 1, []), (55, 1, .iload_n 1, 1, 0, 0, []), (56, 3, .invokestatic 172, 4, 0, 0, []), (59, 3, .invokestatic 293, 5, 0, 0, []), (62, 1, .ireturn, 0, 0, 0, [])]
def mX10_kinds : xM := (yX10_kinds, cX10_kinds, 4, (some FieldType.int), 0, 2, 7, 5, 117, 0, pX10_kinds)
theorem dX10_kinds : xDec cX10_kinds pX10_kinds = true := by decide +kernel
theorem hX10_kinds : xHd mX10_kinds := ⟨xg (w := (Jvm.Cond.code ({ cls := "SmellBurdens", name := "kinds", desc := "(II)I" } : Jvm.MethodName) prog_1_method_31_code (4 : Nat) (Option.some Jvm.ClassFile.FieldType.int))) (xt4 (List.mem_of_getElem? (i := 28) (by decide +kernel))) rfl, xg (w := (Jvm.Cond.initialized "SmellBurdens")) (xt1 (List.mem_of_getElem? (i := 1) (by decide +kernel))) rfl, ⟨by decide +kernel, by decide +kernel, by decide +kernel⟩, xg (w := (Jvm.Cond.instanceMethod ({ cls := "SmellBurdens", name := "kinds", desc := "(II)I" } : Jvm.MethodName))) (xt4 (List.mem_of_getElem? (i := 26) (by decide +kernel))) rfl, xg (w := (Jvm.Cond.selects "SmellBurdens" ({ cls := "SmellBurdens", name := "kinds", desc := "(II)I" } : Jvm.MethodName) ({ cls := "SmellBurdens", name := "kinds", desc := "(II)I" } : Jvm.MethodName))) (xt4 (List.mem_of_getElem? (i := 27) (by decide +kernel))) rfl, rfl⟩
theorem wdX10_296 : (Jvm.Cond.methodLink "SmellBurdens" (296 : Nat) ({ cls := "SmellBurdens$Guess", name := "tellingMarks", desc := "(II)I" } : Jvm.MethodName)) ∈ xG := xg (xt4 (List.mem_of_getElem? (i := 36) (by decide +kernel))) rfl
theorem wdX10_299 : (Jvm.Cond.methodLink "SmellBurdens" (299 : Nat) ({ cls := "SmellBurdens$Guess", name := "greaterPart", desc := "(III)I" } : Jvm.MethodName)) ∈ xG := xg (xt4 (List.mem_of_getElem? (i := 44) (by decide +kernel))) rfl
def pX10_next : List xE := [(0, 1, .aload_n 0, 0, 0, 0, []), (1, 3, .getfield 31, 7, 3, 0, []), (4, 1, .iload_n 1, 1, 0, 0, []), (5, 3, .invokevirtual 148, 0, 0, 0, []), (8, 3, .ifCond .eq 14, 22, 0, 0, []), (11, 1, .aload_n 0, 0, 0, 0, []), (12, 3, .getfield 14, 7, 0, 0, []), (15, 1, .iload_n 2, 2, 0, 0, []), (16, 3, .invokevirtual 75, 1, 0, 0, []), (19, 3, .ifCond .ne 5, 24, 0, 0, []), (22, 1, .iconst (-1), 1, 0, 0, []), (23, 1, .ireturn, 0, 0, 0, []), (24, 1, .aload_n 0, 0, 0, 0, []), (25, 3, .getfield 14, 7, 0, 0, []), (28, 1, .iload_n 2, 2, 0, 0, []), (29, 3, .invokestatic 284, 2, 0, 0, []), (32, 1, .istore_n 3, 3, 0, 0, []), (33, 1, .iload_n 3, 3, 0, 0, []), (34, 3, .ifCond .eq 9, 43, 0, 0, []), (37, 1, .aload_n 0, 0, 0, 0, []), (38, 1, .iload_n 3, 3, 0, 0, []), (39, 3, .invokevirtual 79, 3, 0, 0, []), (42, 1, .ireturn, 0, 0, 0, []), (43, 1, .aload_n 0, 0, 0, 0, []), (44, 3, .getfield 31, 7, 3, 0, []), (47, 1, .iload_n 1, 1, 0, 0, []), (48, 3, .invokevirtual 162, 4, 0, 0, []), (51, 2, .istore 4, 4, 0, 0, []), (53, 1, .aload_n 0, 0, 0, 0, []), (54, 3, .getfield 14, 7, 0, 0, []), (57, 1, .iload_n 2, 2, 0, 0, []), (58, 2, .iload 4, 4, 0, 0, []), (60, 3, .invokestatic 289, 5, 0, 0, []), (63, 2, .istore 5, 5, 0, 0, []), (65, 2, .iload 5, 5, 0, 0, []), (67, 3, .ifCond .ne 6, 73, 0, 0, []), (70, 2, .bipush (-9), 9, 0, 0, []), (72, 1, .ireturn, 0, 0, 0, []), (73, 2, .iload 4, 4, 0, 0, []), (75, 2, .iload 5, 5, 0, 0, []), (77, 3, .invokestatic 296, 6, 0, 0, []), (80, 2, .istore 6, 6, 0, 0, []), (82, 1, .aload_n 0, 0, 0, 0, []), (83, 2, .iload 4, 4, 0, 0, []), (85, 2, .iload 5, 5, 0, 0, []), (87, 2, .iload 6, 6, 0, 0, []), (89, 3, .invokestatic 299, 7, 0, 0, []), (92, 3, .invokevirtual 95, 8, 0, 0, []), (95, 1, .pop, 0, 0, 0, []), (96, 2, .iload 6, 6, 0, 0, []), (98, 1, .ireturn, 0, 0, 0, [])]
def mX10_next : xM := (yX10_next, cX10_next, 7, (some FieldType.int), 0, 2, 7, 5, 117, 0, pX10_next)
theorem dX10_next : xDec cX10_next pX10_next = true := by decide +kernel
theorem hX10_next : xHd mX10_next := ⟨xg (w := (Jvm.Cond.code ({ cls := "SmellBurdens", name := "next", desc := "(II)I" } : Jvm.MethodName) prog_1_method_32_code (7 : Nat) (Option.some Jvm.ClassFile.FieldType.int))) (xt4 (List.mem_of_getElem? (i := 35) (by decide +kernel))) rfl, xg (w := (Jvm.Cond.initialized "SmellBurdens")) (xt1 (List.mem_of_getElem? (i := 1) (by decide +kernel))) rfl, ⟨by decide +kernel, by decide +kernel, by decide +kernel⟩, xg (w := (Jvm.Cond.instanceMethod ({ cls := "SmellBurdens", name := "next", desc := "(II)I" } : Jvm.MethodName))) (xt4 (List.mem_of_getElem? (i := 33) (by decide +kernel))) rfl, xg (w := (Jvm.Cond.selects "SmellBurdens" ({ cls := "SmellBurdens", name := "next", desc := "(II)I" } : Jvm.MethodName) ({ cls := "SmellBurdens", name := "next", desc := "(II)I" } : Jvm.MethodName))) (xt4 (List.mem_of_getElem? (i := 34) (by decide +kernel))) rfl, rfl⟩
theorem wdX10_302 : (Jvm.Cond.methodLink "SmellBurdens" (302 : Nat) ({ cls := "SmellBurdens$Wall", name := "takersByTurns", desc := "(LSmellBurdens$Plain;JII)I" } : Jvm.MethodName)) ∈ xG := xg (xt4 (List.mem_of_getElem? (i := 49) (by decide +kernel))) rfl
def pX10_duel : List xE := [(0, 1, .aload_n 0, 0, 0, 0, []), (1, 3, .getfield 31, 7, 3, 0, []), (4, 1, .iload_n 1, 1, 0, 0, []), (5, 3, .invokevirtual 154, 0, 0, 0, []), (8, 3, .ifCond .eq 12, 20, 0, 0, []), (11, 1, .iload_n 2, 2, 0, 0, []), (12, 3, .ifCond .lt 8, 20, 0, 0, []), (15, 1, .iload_n 2, 2, 0, 0, []), (16, 1, .iconst 2, 2, 0, 0, []), (17, 3, .if_icmp .le 5, 22, 0, 0, []), (20, 1, .iconst (-1), 1, 0, 0, []), (21, 1, .ireturn, 0, 0, 0, []), (22, 1, .aload_n 0, 0, 0, 0, []), (23, 3, .getfield 31, 7, 3, 0, []), (26, 1, .aload_n 0, 0, 0, 0, []), (27, 3, .getfield 38, 7, 4, 0, []), (30, 3, .getfield 169, 1, 1, 1, []), (33, 1, .iload_n 1, 1, 0, 0, []), (34, 1, .iload_n 2, 2, 0, 0, []), (35, 3, .invokestatic 302, 1, 0, 0, []), (38, 1, .ireturn, 0, 0, 0, [])]
def mX10_duel : xM := (yX10_duel, cX10_duel, 3, (some FieldType.int), 0, 2, 7, 6, 143, 0, pX10_duel)
theorem dX10_duel : xDec cX10_duel pX10_duel = true := by decide +kernel
theorem hX10_duel : xHd mX10_duel := ⟨xg (w := (Jvm.Cond.code ({ cls := "SmellBurdens", name := "duel", desc := "(II)I" } : Jvm.MethodName) prog_1_method_33_code (3 : Nat) (Option.some Jvm.ClassFile.FieldType.int))) (xt4 (List.mem_of_getElem? (i := 48) (by decide +kernel))) rfl, xg (w := (Jvm.Cond.initialized "SmellBurdens")) (xt1 (List.mem_of_getElem? (i := 1) (by decide +kernel))) rfl, ⟨by decide +kernel, by decide +kernel, by decide +kernel⟩, xg (w := (Jvm.Cond.instanceMethod ({ cls := "SmellBurdens", name := "duel", desc := "(II)I" } : Jvm.MethodName))) (xt4 (List.mem_of_getElem? (i := 46) (by decide +kernel))) rfl, xg (w := (Jvm.Cond.selects "SmellBurdens" ({ cls := "SmellBurdens", name := "duel", desc := "(II)I" } : Jvm.MethodName) ({ cls := "SmellBurdens", name := "duel", desc := "(II)I" } : Jvm.MethodName))) (xt4 (List.mem_of_getElem? (i := 47) (by decide +kernel))) rfl, rfl⟩
theorem wdX10_305 : (Jvm.Cond.methodLink "SmellBurdens" (305 : Nat) ({ cls := "SmellBurdens$Chances", name := "ofTaking", desc := "(LSmellBurdens$Plain;JII)V" } : Jvm.MethodName)) ∈ xG := xg (xt4 (List.mem_of_getElem? (i := 65) (by decide +kernel))) rfl
def pX10_odds : List xE := [(0, 1, .aload_n 0, 0, 0, 0, []), (1, 3, .getfield 31, 7, 3, 0, []), (4, 1, .iload_n 1, 1, 0, 0, []), (5, 3, .invokevirtual 154, 0, 0, 0, []), (8, 3, .ifCond .eq 13, 21, 0, 0, []), (11, 1, .iload_n 2, 2, 0, 0, []), (12, 3, .ifCond .lt 9, 21, 0, 0, []), (15, 1, .iload_n 2, 2, 0, 0, []), (16, 2, .bipush 12, 12, 0, 0, []), (18, 3, .if_icmp .le 5, 23, 0, 0, []), (21, 1, .iconst (-1), 1, 0, 0, []), (22, 1, .ireturn, 0, 0, 0, []), (23, 1, .aload_n 0, 0, 0, 0, []), (24, 3, .getfield 63, 7, 8, 0, []), (27, 1, .aload_n 0, 0, 0, 0, []), (28, 3, .getfield 31, 7, 3, 0, []), (31, 1, .aload_n 0, 0, 0, 0, []), (32, 3, .getfield 38, 7, 4, 0, []), (35, 3, .getfield 169, 1, 1, 1, []), (38, 1, .iload_n 1, 1, 0, 0, []), (39, 1, .iload_n 2, 2, 0, 0, []), (40, 3, .invokevirtual 305, 1, 0, 0, []), (43, 1, .iconst 1, 1, 0, 0, []), (44, 1, .ireturn, 0, 0, 0, [])]
def mX10_odds : xM := (yX10_odds, cX10_odds, 3, (some FieldType.int), 0, 2, 7, 6, 158, 0, pX10_odds)
theorem dX10_odds : xDec cX10_odds pX10_odds = true := by decide +kernel
theorem hX10_odds : xHd mX10_odds := ⟨xg (w := (Jvm.Cond.code ({ cls := "SmellBurdens", name := "odds", desc := "(II)I" } : Jvm.MethodName) prog_1_method_34_code (3 : Nat) (Option.some Jvm.ClassFile.FieldType.int))) (xt4 (List.mem_of_getElem? (i := 64) (by decide +kernel))) rfl, xg (w := (Jvm.Cond.initialized "SmellBurdens")) (xt1 (List.mem_of_getElem? (i := 1) (by decide +kernel))) rfl, ⟨by decide +kernel, by decide +kernel, by decide +kernel⟩, xg (w := (Jvm.Cond.instanceMethod ({ cls := "SmellBurdens", name := "odds", desc := "(II)I" } : Jvm.MethodName))) (xt4 (List.mem_of_getElem? (i := 62) (by decide +kernel))) rfl, xg (w := (Jvm.Cond.selects "SmellBurdens" ({ cls := "SmellBurdens", name := "odds", desc := "(II)I" } : Jvm.MethodName) ({ cls := "SmellBurdens", name := "odds", desc := "(II)I" } : Jvm.MethodName))) (xt4 (List.mem_of_getElem? (i := 63) (by decide +kernel))) rfl, rfl⟩
theorem wdX10_309 : (Jvm.Cond.methodLink "SmellBurdens" (309 : Nat) ({ cls := "SmellBurdens$Chances", name := "ofHomes", desc := "(LSmellBurdens$Plain;JI)V" } : Jvm.MethodName)) ∈ xG := xg (xt4 (List.mem_of_getElem? (i := 89) (by decide +kernel))) rfl
def pX10_mid : List xE := [(0, 1, .iload_n 1, 1, 0, 0, []), (1, 3, .ifCond .lt 9, 10, 0, 0, []), (4, 1, .iload_n 1, 1, 0, 0, []), (5, 2, .bipush 12, 12, 0, 0, []), (7, 3, .if_icmp .le 5, 12, 0, 0, []), (10, 1, .iconst (-1), 1, 0, 0, []), (11, 1, .ireturn, 0, 0, 0, []), (12, 1, .aload_n 0, 0, 0, 0, []), (13, 3, .getfield 31, 7, 3, 0, []), (16, 3, .getfield 195, 3, 0, 1, []), (19, 3, .ifCond .ne 6, 25, 0, 0, []), (22, 2, .bipush (-4), 4, 0, 0, []), (24, 1, .ireturn, 0, 0, 0, []), (25, 1, .aload_n 0, 0, 0, 0, []), (26, 3, .getfield 63, 7, 8, 0, []), (29, 1, .aload_n 0, 0, 0, 0, []), (30, 3, .getfield 31, 7, 3, 0, []), (33, 1, .aload_n 0, 0, 0, 0, []), (34, 3, .getfield 38, 7, 4, 0, []), (37, 3, .getfield 169, 1, 1, 1, []), (40, 1, .iload_n 1, 1, 0, 0, []), (41, 3, .invokevirtual 309, 0, 0, 0, []), (44, 1, .iconst 1, 1, 0, 0, []), (45, 1, .ireturn, 0, 0, 0, [])]
def mX10_mid : xM := (yX10_mid, cX10_mid, 2, (some FieldType.int), 0, 1, 7, 6, 158, 0, pX10_mid)
theorem dX10_mid : xDec cX10_mid pX10_mid = true := by decide +kernel
theorem hX10_mid : xHd mX10_mid := ⟨xg (w := (Jvm.Cond.code ({ cls := "SmellBurdens", name := "mid", desc := "(I)I" } : Jvm.MethodName) prog_1_method_35_code (2 : Nat) (Option.some Jvm.ClassFile.FieldType.int))) (xt4 (List.mem_of_getElem? (i := 88) (by decide +kernel))) rfl, xg (w := (Jvm.Cond.initialized "SmellBurdens")) (xt1 (List.mem_of_getElem? (i := 1) (by decide +kernel))) rfl, ⟨by decide +kernel, by decide +kernel, by decide +kernel⟩, xg (w := (Jvm.Cond.instanceMethod ({ cls := "SmellBurdens", name := "mid", desc := "(I)I" } : Jvm.MethodName))) (xt4 (List.mem_of_getElem? (i := 86) (by decide +kernel))) rfl, xg (w := (Jvm.Cond.selects "SmellBurdens" ({ cls := "SmellBurdens", name := "mid", desc := "(I)I" } : Jvm.MethodName) ({ cls := "SmellBurdens", name := "mid", desc := "(I)I" } : Jvm.MethodName))) (xt4 (List.mem_of_getElem? (i := 87) (by decide +kernel))) rfl, rfl⟩
theorem wdX10_313 : (Jvm.Cond.constantLong "SmellBurdens" (313 : Nat) (2147483647 : Int64)) ∈ xG := xg (xt4 (List.mem_of_getElem? (i := 99) (by decide +kernel))) rfl
theorem wdX10_315 : (Jvm.Cond.constantLong "SmellBurdens" (315 : Nat) (48271 : Int64)) ∈ xG := xg (xt4 (List.mem_of_getElem? (i := 100) (by decide +kernel))) rfl
theorem wdX10_317 : (Jvm.Cond.methodLink "SmellBurdens" (317 : Nat) ({ cls := "SmellBurdens", name := "doByLot", desc := "(J)V" } : Jvm.MethodName)) ∈ xG := xg (xt4 (List.mem_of_getElem? (i := 101) (by decide +kernel))) rfl
theorem wdX10_320 : (Jvm.Cond.methodLink "SmellBurdens" (320 : Nat) ({ cls := "SmellBurdens$Plain", name := "atHomes", desc := "(J)I" } : Jvm.MethodName)) ∈ xG := xg (xt4 (List.mem_of_getElem? (i := 109) (by decide +kernel))) rfl
def pX10_lots : List xE := [(0, 1, .iload_n 1, 1, 0, 0, []), (1, 1, .iconst 1, 1, 0, 0, []), (2, 3, .if_icmp .lt 23, 25, 0, 0, []), (5, 1, .iload_n 1, 1, 0, 0, []), (6, 2, .bipush 20, 20, 0, 0, []), (8, 3, .if_icmp .gt 17, 25, 0, 0, []), (11, 1, .iload_n 2, 2, 0, 0, []), (12, 1, .iconst 1, 1, 0, 0, []), (13, 3, .if_icmp .lt 12, 25, 0, 0, []), (16, 1, .iload_n 2, 2, 0, 0, []), (17, 1, .i2l, 0, 0, 0, []), (18, 3, .ldc2_w 313, 2147483647, 0, 0, []), (21, 1, .lcmp, 0, 0, 0, []), (22, 3, .ifCond .lt 5, 27, 0, 0, []), (25, 1, .iconst (-1), 1, 0, 0, []), (26, 1, .ireturn, 0, 0, 0, []), (27, 1, .aload_n 0, 0, 0, 0, []), (28, 3, .getfield 31, 7, 3, 0, []), (31, 3, .getfield 195, 3, 0, 1, []), (34, 3, .ifCond .ne 6, 40, 0, 0, []), (37, 2, .bipush (-4), 4, 0, 0, []), (39, 1, .ireturn, 0, 0, 0, []), (40, 1, .aload_n 0, 0, 0, 0, []), (41, 3, .getfield 38, 7, 4, 0, []), (44, 1, .iload_n 1, 1, 0, 0, []), (45, 3, .invokevirtual 198, 0, 0, 0, []), (48, 3, .ifCond .ne 6, 54, 0, 0, []), (51, 2, .bipush (-2), 2, 0, 0, []), (53, 1, .ireturn, 0, 0, 0, []), (54, 1, .iload_n 2, 2, 0, 0, []), (55, 1, .i2l, 0, 0, 0, []), (56, 1, .lstore_n 3, 3, 0, 0, []), (57, 1, .iconst 0, 0, 0, 0, []), (58, 2, .istore 5, 5, 0, 0, []), (60, 2, .iload 5, 5, 0, 0, []), (62, 1, .iload_n 1, 1, 0, 0, []), (63, 3, .if_icmp .ge 24, 87, 0, 0, []), (66, 1, .lload_n 3, 3, 0, 0, []), (67, 3, .ldc2_w 315, 48271, 0, 0, []), (70, 1, .lmul, 0, 0, 0, []), (71, 3, .ldc2_w 313, 2147483647, 0, 0, []), (74, 1, .lrem, 0, 0, 0, []), (75, 1, .lstore_n 3, 3, 0, 0, []), (76, 1, .aload_n 0, 0, 0, 0, []), (77, 1, .lload_n 3, 3, 0, 0, []), (78, 3, .invokevirtual 317, 1, 0, 0, []), (81, 3, .iinc 5 1, 5, 1, 0, []), (84, 3, .goto (-24), 60, 0, 0, []), (87, 1, .aload_n 0, 0, 0, 0, []), (88, 3, .getfield 31, 7, 3, 0, []), (91, 1, .aload_n 0, 0, 0, 0, []), (92, 3, .getfield 38, 7, 4, 0, []), (95, 3, .getfield 169, 1, 1, 1, []), (98, 3, .invokevirtual 320, 2, 0, 0, []), (101, 3, .invokestatic 178, 3, 0, 0, []), (104, 1, .ireturn, 0, 0, 0, [])]
def mX10_lots : xM := (yX10_lots, cX10_lots, 6, (some FieldType.int), 0, 2, 7, 7, 173, 0, pX10_lots)
theorem dX10_lots : xDec cX10_lots pX10_lots = true := by decide +kernel
theorem hX10_lots : xHd mX10_lots := ⟨xg (w := (Jvm.Cond.code ({ cls := "SmellBurdens", name := "lots", desc := "(II)I" } : Jvm.MethodName) prog_1_method_36_code (6 : Nat) (Option.some Jvm.ClassFile.FieldType.int))) (xt4 (List.mem_of_getElem? (i := 98) (by decide +kernel))) rfl, xg (w := (Jvm.Cond.initialized "SmellBurdens")) (xt1 (List.mem_of_getElem? (i := 1) (by decide +kernel))) rfl, ⟨by decide +kernel, by decide +kernel, by decide +kernel⟩, xg (w := (Jvm.Cond.instanceMethod ({ cls := "SmellBurdens", name := "lots", desc := "(II)I" } : Jvm.MethodName))) (xt4 (List.mem_of_getElem? (i := 96) (by decide +kernel))) rfl, xg (w := (Jvm.Cond.selects "SmellBurdens" ({ cls := "SmellBurdens", name := "lots", desc := "(II)I" } : Jvm.MethodName) ({ cls := "SmellBurdens", name := "lots", desc := "(II)I" } : Jvm.MethodName))) (xt4 (List.mem_of_getElem? (i := 97) (by decide +kernel))) rfl, rfl⟩
theorem wdX10_324 : (Jvm.Cond.fieldLink "SmellBurdens" (324 : Nat) "SmellBurdens" "told" "I") ∈ xG := xg (xt1 (List.mem_of_getElem? (i := 174) (by decide +kernel))) rfl
def pX10_asked : List xE := [(0, 1, .aload_n 0, 0, 0, 0, []), (1, 3, .getfield 324, 7, 11, 0, []), (4, 1, .ireturn, 0, 0, 0, [])]
def mX10_asked : xM := (yX10_asked, cX10_asked, 1, (some FieldType.int), 0, 0, 7, 0, 0, 0, pX10_asked)
theorem dX10_asked : xDec cX10_asked pX10_asked = true := by decide +kernel
theorem hX10_asked : xHd mX10_asked := ⟨xg (w := (Jvm.Cond.code ({ cls := "SmellBurdens", name := "asked", desc := "()I" } : Jvm.MethodName) prog_1_method_37_code (1 : Nat) (Option.some Jvm.ClassFile.FieldType.int))) (xt4 (List.mem_of_getElem? (i := 113) (by decide +kernel))) rfl, xg (w := (Jvm.Cond.initialized "SmellBurdens")) (xt1 (List.mem_of_getElem? (i := 1) (by decide +kernel))) rfl, ⟨by decide +kernel, by decide +kernel, by decide +kernel⟩, xg (w := (Jvm.Cond.instanceMethod ({ cls := "SmellBurdens", name := "asked", desc := "()I" } : Jvm.MethodName))) (xt4 (List.mem_of_getElem? (i := 111) (by decide +kernel))) rfl, xg (w := (Jvm.Cond.selects "SmellBurdens" ({ cls := "SmellBurdens", name := "asked", desc := "()I" } : Jvm.MethodName) ({ cls := "SmellBurdens", name := "asked", desc := "()I" } : Jvm.MethodName))) (xt4 (List.mem_of_getElem? (i := 112) (by decide +kernel))) rfl, rfl⟩
theorem wdX10_327 : (Jvm.Cond.fieldLinkNest "SmellBurdens" (327 : Nat) "SmellBurdens$Chances" "over" "J" "SmellBurdens") ∈ xNest := by decide +kernel
def pX10_upper : List xE := [(0, 1, .aload_n 0, 0, 0, 0, []), (1, 3, .getfield 63, 7, 8, 0, []), (4, 3, .getfield 327, 0, 0, 1, []), (7, 1, .lreturn, 0, 0, 0, [])]
def mX10_upper : xM := (yX10_upper, cX10_upper, 1, (some FieldType.long), 0, 0, 7, 0, 0, 0, pX10_upper)
theorem dX10_upper : xDec cX10_upper pX10_upper = true := by decide +kernel
theorem hX10_upper : xHd mX10_upper := ⟨xg (w := (Jvm.Cond.code ({ cls := "SmellBurdens", name := "upper", desc := "()J" } : Jvm.MethodName) prog_1_method_38_code (1 : Nat) (Option.some Jvm.ClassFile.FieldType.long))) (xt4 (List.mem_of_getElem? (i := 117) (by decide +kernel))) rfl, xg (w := (Jvm.Cond.initialized "SmellBurdens")) (xt1 (List.mem_of_getElem? (i := 1) (by decide +kernel))) rfl, ⟨by decide +kernel, by decide +kernel, by decide +kernel⟩, xg (w := (Jvm.Cond.instanceMethod ({ cls := "SmellBurdens", name := "upper", desc := "()J" } : Jvm.MethodName))) (xt4 (List.mem_of_getElem? (i := 115) (by decide +kernel))) rfl, xg (w := (Jvm.Cond.selects "SmellBurdens" ({ cls := "SmellBurdens", name := "upper", desc := "()J" } : Jvm.MethodName) ({ cls := "SmellBurdens", name := "upper", desc := "()J" } : Jvm.MethodName))) (xt4 (List.mem_of_getElem? (i := 116) (by decide +kernel))) rfl, rfl⟩
theorem wdX10_330 : (Jvm.Cond.fieldLinkNest "SmellBurdens" (330 : Nat) "SmellBurdens$Chances" "under" "J" "SmellBurdens") ∈ xNest := by decide +kernel
def pX10_lower : List xE := [(0, 1, .aload_n 0, 0, 0, 0, []), (1, 3, .getfield 63, 7, 8, 0, []), (4, 3, .getfield 330, 0, 1, 1, []), (7, 1, .lreturn, 0, 0, 0, [])]
def mX10_lower : xM := (yX10_lower, cX10_lower, 1, (some FieldType.long), 0, 0, 7, 0, 0, 0, pX10_lower)
theorem dX10_lower : xDec cX10_lower pX10_lower = true := by decide +kernel
theorem hX10_lower : xHd mX10_lower := ⟨xg (w := (Jvm.Cond.code ({ cls := "SmellBurdens", name := "lower", desc := "()J" } : Jvm.MethodName) prog_1_method_39_code (1 : Nat) (Option.some Jvm.ClassFile.FieldType.long))) (xt4 (List.mem_of_getElem? (i := 121) (by decide +kernel))) rfl, xg (w := (Jvm.Cond.initialized "SmellBurdens")) (xt1 (List.mem_of_getElem? (i := 1) (by decide +kernel))) rfl, ⟨by decide +kernel, by decide +kernel, by decide +kernel⟩, xg (w := (Jvm.Cond.instanceMethod ({ cls := "SmellBurdens", name := "lower", desc := "()J" } : Jvm.MethodName))) (xt4 (List.mem_of_getElem? (i := 119) (by decide +kernel))) rfl, xg (w := (Jvm.Cond.selects "SmellBurdens" ({ cls := "SmellBurdens", name := "lower", desc := "()J" } : Jvm.MethodName) ({ cls := "SmellBurdens", name := "lower", desc := "()J" } : Jvm.MethodName))) (xt4 (List.mem_of_getElem? (i := 120) (by decide +kernel))) rfl, rfl⟩
theorem wdX10_333 : (Jvm.Cond.methodLink "SmellBurdens" (333 : Nat) ({ cls := "SmellBurdens$Deeds", name := "howManyDays", desc := "()I" } : Jvm.MethodName)) ∈ xG := xg (xt4 (List.mem_of_getElem? (i := 126) (by decide +kernel))) rfl
theorem wdX10_336 : (Jvm.Cond.methodLink "SmellBurdens" (336 : Nat) ({ cls := "SmellBurdens$Plain", name := "roadsAsNumber", desc := "()I" } : Jvm.MethodName)) ∈ xG := xg (xt4 (List.mem_of_getElem? (i := 136) (by decide +kernel))) rfl
theorem wdX10_339 : (Jvm.Cond.methodLink "SmellBurdens" (339 : Nat) ({ cls := "SmellBurdens$Plain", name := "howManyAre", desc := "(I)I" } : Jvm.MethodName)) ∈ xG := xg (xt4 (List.mem_of_getElem? (i := 140) (by decide +kernel))) rfl
theorem wdX10_342 : (Jvm.Cond.methodLink "SmellBurdens" (342 : Nat) ({ cls := "SmellBurdens$Shelf", name := "howManyThere", desc := "()I" } : Jvm.MethodName)) ∈ xG := xg (xt4 (List.mem_of_getElem? (i := 145) (by decide +kernel))) rfl
theorem wdX10_345 : (Jvm.Cond.methodLink "SmellBurdens" (345 : Nat) ({ cls := "SmellBurdens", name := "howManyKept", desc := "()I" } : Jvm.MethodName)) ∈ xG := xg (xt4 (List.mem_of_getElem? (i := 149) (by decide +kernel))) rfl
def pX10_count : List xE := [(0, 1, .iload_n 1, 1, 0, 0, []), (1, 59, .tableswitch 153 0 10 #[59, 67, 75, 83, 91, 106, 114, 123, 132, 140, 148], 154, 0, 0, [(0, 60), (1, 68), (2, 76), (3, 84), (4, 92), (5, 107), (6, 115), (7, 124), (8, 133), (9, 141), (10, 149)]), (60, 1, .aload_n 0, 0, 0, 0, []), (61, 3, .getfield 31, 7, 3, 0, []), (64, 3, .getfield 195, 3, 0, 1, []), (67, 1, .ireturn, 0, 0, 0, []), (68, 1, .aload_n 0, 0, 0, 0, []), (69, 3, .getfield 31, 7, 3, 0, []), (72, 3, .getfield 144, 3, 1, 1, []), (75, 1, .ireturn, 0, 0, 0, []), (76, 1, .aload_n 0, 0, 0, 0, []), (77, 3, .getfield 38, 7, 4, 0, []), (80, 3, .invokevirtual 333, 0, 0, 0, []), (83, 1, .ireturn, 0, 0, 0, []), (84, 1, .aload_n 0, 0, 0, 0, []), (85, 3, .getfield 38, 7, 4, 0, []), (88, 3, .getfield 217, 1, 3, 1, []), (91, 1, .ireturn, 0, 0, 0, []), (92, 1, .aload_n 0, 0, 0, 0, []), (93, 3, .getfield 31, 7, 3, 0, []), (96, 1, .aload_n 0, 0, 0, 0, []), (97, 3, .getfield 38, 7, 4, 0, []), (100, 3, .getfield 169, 1, 1, 1, []), (103, 3, .invokevirtual 320, 1, 0, 0, []), (106, 1, .ireturn, 0, 0, 0, []), (107, 1, .aload_n 0, 0, 0, 0, []), (108, 3, .getfield 31, 7, 3, 0, []), (111, 3, .invokevirtual 336, 2, 0, 0, []), (114, 1, .ireturn, 0, 0, 0, []), (115, 1, .aload_n 0, 0, 0, 0, []), (116, 3, .getfield 31, 7, 3, 0, []), (119, 1, .iconst 1, 1, 0, 0, []), (120, 3, .invokevirtual 339, 3, 0, 0, []), (123, 1, .ireturn, 0, 0, 0, []), (124, 1, .aload_n 0, 0, 0, 0, []), (125, 3, .getfield 31, 7, 3, 0, []), (128, 1, .iconst 3, 3, 0, 0, []), (129, 3, .invokevirtual 339, 3, 0, 0, []), (132, 1, .ireturn, 0, 0, 0, []), (133, 1, .aload_n 0, 0, 0, 0, []), (134, 3, .getfield 14, 7, 0, 0, []), (137, 3, .invokevirtual 342, 4, 0, 0, []), (140, 1, .ireturn, 0, 0, 0, []), (141, 1, .aload_n 0, 0, 0, 0, []), (142, 3, .getfield 18, 7, 1, 0, []), (145, 3, .invokevirtual 342, 4, 0, 0, []), (148, 1, .ireturn, 0, 0, 0, []), (149, 1, .aload_n 0, 0, 0, 0, []), (150, 3, .invokevirtual 345, 5, 0, 0, []), (153, 1, .ireturn, 0, 0, 0, []), (154, 1, .iconst (-1), 1, 0, 0, []), (155, 1, .ireturn, 0, 0, 0, [])]
def mX10_count : xM := (yX10_count, cX10_count, 2, (some FieldType.int), 0, 1, 7, 4, 92, 0, pX10_count)
theorem dX10_count : xDec cX10_count pX10_count = true := by decide +kernel
theorem hX10_count : xHd mX10_count := ⟨xg (w := (Jvm.Cond.code ({ cls := "SmellBurdens", name := "count", desc := "(I)I" } : Jvm.MethodName) prog_1_method_40_code (2 : Nat) (Option.some Jvm.ClassFile.FieldType.int))) (xt4 (List.mem_of_getElem? (i := 125) (by decide +kernel))) rfl, xg (w := (Jvm.Cond.initialized "SmellBurdens")) (xt1 (List.mem_of_getElem? (i := 1) (by decide +kernel))) rfl, ⟨by decide +kernel, by decide +kernel, by decide +kernel⟩, xg (w := (Jvm.Cond.instanceMethod ({ cls := "SmellBurdens", name := "count", desc := "(I)I" } : Jvm.MethodName))) (xt4 (List.mem_of_getElem? (i := 123) (by decide +kernel))) rfl, xg (w := (Jvm.Cond.selects "SmellBurdens" ({ cls := "SmellBurdens", name := "count", desc := "(I)I" } : Jvm.MethodName) ({ cls := "SmellBurdens", name := "count", desc := "(I)I" } : Jvm.MethodName))) (xt4 (List.mem_of_getElem? (i := 124) (by decide +kernel))) rfl, rfl⟩
theorem wdX10_348 : (Jvm.Cond.fieldLink "SmellBurdens" (348 : Nat) "SmellBurdens" "latestFinding" "I") ∈ xG := xg (xt1 (List.mem_of_getElem? (i := 173) (by decide +kernel))) rfl
def pX10_finding : List xE := [(0, 1, .aload_n 0, 0, 0, 0, []), (1, 3, .getfield 348, 7, 10, 0, []), (4, 1, .ireturn, 0, 0, 0, [])]
def mX10_finding : xM := (yX10_finding, cX10_finding, 1, (some FieldType.int), 0, 0, 7, 0, 0, 0, pX10_finding)
theorem dX10_finding : xDec cX10_finding pX10_finding = true := by decide +kernel
theorem hX10_finding : xHd mX10_finding := ⟨xg (w := (Jvm.Cond.code ({ cls := "SmellBurdens", name := "finding", desc := "()I" } : Jvm.MethodName) prog_1_method_41_code (1 : Nat) (Option.some Jvm.ClassFile.FieldType.int))) (xt4 (List.mem_of_getElem? (i := 160) (by decide +kernel))) rfl, xg (w := (Jvm.Cond.initialized "SmellBurdens")) (xt1 (List.mem_of_getElem? (i := 1) (by decide +kernel))) rfl, ⟨by decide +kernel, by decide +kernel, by decide +kernel⟩, xg (w := (Jvm.Cond.instanceMethod ({ cls := "SmellBurdens", name := "finding", desc := "()I" } : Jvm.MethodName))) (xt4 (List.mem_of_getElem? (i := 158) (by decide +kernel))) rfl, xg (w := (Jvm.Cond.selects "SmellBurdens" ({ cls := "SmellBurdens", name := "finding", desc := "()I" } : Jvm.MethodName) ({ cls := "SmellBurdens", name := "finding", desc := "()I" } : Jvm.MethodName))) (xt4 (List.mem_of_getElem? (i := 159) (by decide +kernel))) rfl, rfl⟩
def pX10_findings : List xE := [(0, 1, .iload_n 1, 1, 0, 0, []), (1, 1, .iconst 1, 1, 0, 0, []), (2, 3, .if_icmp .lt 12, 14, 0, 0, []), (5, 1, .iload_n 1, 1, 0, 0, []), (6, 1, .aload_n 0, 0, 0, 0, []), (7, 3, .getfield 67, 7, 9, 0, []), (10, 1, .arraylength, 0, 0, 0, []), (11, 3, .if_icmp .lt 5, 16, 0, 0, []), (14, 1, .iconst (-1), 1, 0, 0, []), (15, 1, .ireturn, 0, 0, 0, []), (16, 1, .aload_n 0, 0, 0, 0, []), (17, 3, .getfield 67, 7, 9, 0, []), (20, 1, .iload_n 1, 1, 0, 0, []), (21, 1, .iaload, 0, 0, 0, []), (22, 1, .ireturn, 0, 0, 0, [])]
def mX10_findings : xM := (yX10_findings, cX10_findings, 2, (some FieldType.int), 0, 1, 7, 0, 0, 0, pX10_findings)
theorem dX10_findings : xDec cX10_findings pX10_findings = true := by decide +kernel
theorem hX10_findings : xHd mX10_findings := ⟨xg (w := (Jvm.Cond.code ({ cls := "SmellBurdens", name := "findings", desc := "(I)I" } : Jvm.MethodName) prog_1_method_42_code (2 : Nat) (Option.some Jvm.ClassFile.FieldType.int))) (xt4 (List.mem_of_getElem? (i := 164) (by decide +kernel))) rfl, xg (w := (Jvm.Cond.initialized "SmellBurdens")) (xt1 (List.mem_of_getElem? (i := 1) (by decide +kernel))) rfl, ⟨by decide +kernel, by decide +kernel, by decide +kernel⟩, xg (w := (Jvm.Cond.instanceMethod ({ cls := "SmellBurdens", name := "findings", desc := "(I)I" } : Jvm.MethodName))) (xt4 (List.mem_of_getElem? (i := 162) (by decide +kernel))) rfl, xg (w := (Jvm.Cond.selects "SmellBurdens" ({ cls := "SmellBurdens", name := "findings", desc := "(I)I" } : Jvm.MethodName) ({ cls := "SmellBurdens", name := "findings", desc := "(I)I" } : Jvm.MethodName))) (xt4 (List.mem_of_getElem? (i := 163) (by decide +kernel))) rfl, rfl⟩
theorem wdX10_351 : (Jvm.Cond.constantLong "SmellBurdens" (351 : Nat) (17 : Int64)) ∈ xG := xg (xt4 (List.mem_of_getElem? (i := 169) (by decide +kernel))) rfl
theorem wdX10_353 : (Jvm.Cond.constantLong "SmellBurdens" (353 : Nat) (31 : Int64)) ∈ xG := xg (xt4 (List.mem_of_getElem? (i := 170) (by decide +kernel))) rfl
theorem wdX10_355 : (Jvm.Cond.methodLink "SmellBurdens" (355 : Nat) ({ cls := "SmellBurdens", name := "count", desc := "(I)I" } : Jvm.MethodName)) ∈ xG := xg (xt4 (List.mem_of_getElem? (i := 171) (by decide +kernel))) rfl
theorem wdX10_358 : (Jvm.Cond.methodLink "SmellBurdens" (358 : Nat) ({ cls := "SmellBurdens", name := "keptSize", desc := "(I)I" } : Jvm.MethodName)) ∈ xG := xg (xt4 (List.mem_of_getElem? (i := 153) (by decide +kernel))) rfl
theorem wdX10_361 : (Jvm.Cond.methodLink "SmellBurdens" (361 : Nat) ({ cls := "SmellBurdens$Shelf", name := "mixedInto", desc := "(J)J" } : Jvm.MethodName)) ∈ xG := xg (xt4 (List.mem_of_getElem? (i := 172) (by decide +kernel))) rfl
def pX10_digest_0 : List xE := [(0, 3, .ldc2_w 351, 17, 0, 0, []), (3, 1, .lstore_n 1, 1, 0, 0, []), (4, 1, .iconst 0, 0, 0, 0, []), (5, 1, .istore_n 3, 3, 0, 0, []), (6, 1, .iload_n 3, 3, 0, 0, []), (7, 2, .bipush 11, 11, 0, 0, []), (9, 3, .if_icmp .ge 22, 31, 0, 0, []), (12, 3, .ldc2_w 353, 31, 0, 0, []), (15, 1, .lload_n 1, 1, 0, 0, []), (16, 1, .lmul, 0, 0, 0, []), (17, 1, .aload_n 0, 0, 0, 0, []), (18, 1, .iload_n 3, 3, 0, 0, []), (19, 3, .invokevirtual 355, 0, 0, 0, []), (22, 1, .i2l, 0, 0, 0, []), (23, 1, .ladd, 0, 0, 0, []), (24, 1, .lstore_n 1, 1, 0, 0, []), (25, 3, .iinc 3 1, 3, 1, 0, []), (28, 3, .goto (-22), 6, 0, 0, []), (31, 1, .iconst 0, 0, 0, 0, []), (32, 1, .istore_n 3, 3, 0, 0, []), (33, 1, .iload_n 3, 3, 0, 0, []), (34, 1, .aload_n 0, 0, 0, 0, []), (35, 3, .getfield 31, 7, 3, 0, []), (38, 3, .getfield 195, 3, 0, 1, []), (41, 3, .if_icmp .ge 39, 80, 0, 0, []), (44, 1, .iconst 0, 0, 0, 0, []), (45, 2, .istore 4, 4, 0, 0, []), (47, 2, .iload 4, 4, 0, 0, []), (49, 1, .iconst 3, 3, 0, 0, []), (50, 3, .if_icmp .gt 24, 74, 0, 0, []), (53, 3, .ldc2_w 353, 31, 0, 0, []), (56, 1, .lload_n 1, 1, 0, 0, []), (57, 1, .lmul, 0, 0, 0, []), (58, 1, .aload_n 0, 0, 0, 0, []), (59, 1, .iload_n 3, 3, 0, 0, []), (60, 2, .iload 4, 4, 0, 0, []), (62, 3, .invokevirtual 151, 1, 0, 0, []), (65, 1, .i2l, 0, 0, 0, []), (66, 1, .ladd, 0, 0, 0, []), (67, 1, .lstore_n 1, 1, 0, 0, []), (68, 3, .iinc 4 1, 4, 1, 0, []), (71, 3, .goto (-24), 47, 0, 0, []), (74, 3, .iinc 3 1, 3, 1, 0, []), (77, 3, .goto (-44), 33, 0, 0, []), (80, 1, .iconst 0, 0, 0, 0, []), (81, 1, .istore_n 3, 3, 0, 0, []), (82, 1, .iload_n 3, 3, 0, 0, []), (83, 1, .aload_n 0, 0, 0, 0, []), (84, 3, .getfield 31, 7, 3, 0, []), (87, 3, .getfield 144, 3, 1, 1, []), (90, 3, .if_icmp .ge 39, 129, 0, 0, []), (93, 1, .iconst 0, 0, 0, 0, []), (94, 2, .istore 4, 4, 0, 0, []), (96, 2, .iload 4, 4, 0, 0, []), (98, 1, .iconst 4, 4, 0, 0, []), (99, 3, .if_icmp .gt 24, 123, 0, 0, []), (102, 3, .ldc2_w 353, 31, 0, 0, []), (105, 1, .lload_n 1, 1, 0, 0, []), (106, 1, .lmul, 0, 0, 0, []), (107, 1, .aload_n 0, 0, 0, 0, []), (108, 1, .iload_n 3, 3, 0, 0, []), (109, 2, .iload 4, 4, 0, 0, []), (111, 3, .invokevirtual 157, 2, 0, 0, []), (114, 1, .i2l, 0, 0, 0, []), (115, 1, .ladd, 0, 0, 0, []), (116, 1, .lstore_n 1, 1, 0, 0, []), (117, 3, .iinc 4 1, 4, 1, 0, []), (120, 3, .goto (-24), 96, 0, 0, []), (123, 3, .iinc 3 1, 3, 1, 0, []), (126, 3, .goto (-44), 82, 0, 0, []), (129, 1, .iconst 0, 0, 0, 0, []), (130, 1, .istore_n 3, 3, 0, 0, []), (131, 1, .iload_n 3, 3, 0, 0, []), (132, 1, .iconst 3, 3, 0, 0, []), (133, 3, .if_icmp .ge 22, 155, 0, 0, []), (136, 3, .ldc2_w 353, 31, 0, 0, []), (139, 1, .lload_n 1, 1, 0, 0, []), (140, 1, .lmul, 0, 0, 0, []), (141, 1, .aload_n 0, 0, 0, 0, []), (142, 1, .iload_n 3, 3, 0, 0, [])]
def pX10_digest_1 : List xE := [(143, 3, .invokevirtual 358, 3, 0, 0, []), (146, 1, .i2l, 0, 0, 0, []), (147, 1, .ladd, 0, 0, 0, []), (148, 1, .lstore_n 1, 1, 0, 0, []), (149, 3, .iinc 3 1, 3, 1, 0, []), (152, 3, .goto (-21), 131, 0, 0, []), (155, 1, .aload_n 0, 0, 0, 0, []), (156, 3, .getfield 18, 7, 1, 0, []), (159, 1, .aload_n 0, 0, 0, 0, []), (160, 3, .getfield 14, 7, 0, 0, []), (163, 1, .lload_n 1, 1, 0, 0, []), (164, 3, .invokevirtual 361, 4, 0, 0, []), (167, 3, .invokevirtual 361, 4, 0, 0, []), (170, 1, .lreturn, 0, 0, 0, [])]
def pX10_digest : List xE := pX10_digest_0 ++ (pX10_digest_1)
def mX10_digest : xM := (yX10_digest, cX10_digest, 5, (some FieldType.long), 0, 0, 7, 6, 153, 0, pX10_digest)
theorem dX10_digest : xDec cX10_digest pX10_digest = true := by decide +kernel
theorem hX10_digest : xHd mX10_digest := ⟨xg (w := (Jvm.Cond.code ({ cls := "SmellBurdens", name := "digest", desc := "()J" } : Jvm.MethodName) prog_1_method_43_code (5 : Nat) (Option.some Jvm.ClassFile.FieldType.long))) (xt4 (List.mem_of_getElem? (i := 168) (by decide +kernel))) rfl, xg (w := (Jvm.Cond.initialized "SmellBurdens")) (xt1 (List.mem_of_getElem? (i := 1) (by decide +kernel))) rfl, ⟨by decide +kernel, by decide +kernel, by decide +kernel⟩, xg (w := (Jvm.Cond.instanceMethod ({ cls := "SmellBurdens", name := "digest", desc := "()J" } : Jvm.MethodName))) (xt4 (List.mem_of_getElem? (i := 166) (by decide +kernel))) rfl, xg (w := (Jvm.Cond.selects "SmellBurdens" ({ cls := "SmellBurdens", name := "digest", desc := "()J" } : Jvm.MethodName) ({ cls := "SmellBurdens", name := "digest", desc := "()J" } : Jvm.MethodName))) (xt4 (List.mem_of_getElem? (i := 167) (by decide +kernel))) rfl, rfl⟩
def pX10_refuse : List xE := [(0, 1, .iload_n 1, 1, 0, 0, []), (1, 3, .ifCond .lt 27, 28, 0, 0, []), (4, 1, .iload_n 1, 1, 0, 0, []), (5, 1, .aload_n 0, 0, 0, 0, []), (6, 3, .getfield 67, 7, 9, 0, []), (9, 1, .arraylength, 0, 0, 0, []), (10, 3, .if_icmp .ge 18, 28, 0, 0, []), (13, 1, .aload_n 0, 0, 0, 0, []), (14, 1, .iload_n 1, 1, 0, 0, []), (15, 3, .putfield 348, 7, 10, 0, []), (18, 1, .aload_n 0, 0, 0, 0, []), (19, 3, .getfield 67, 7, 9, 0, []), (22, 1, .iload_n 1, 1, 0, 0, []), (23, 1, .dup2, 0, 0, 0, []), (24, 1, .iaload, 0, 0, 0, []), (25, 1, .iconst 1, 1, 0, 0, []), (26, 1, .iadd, 0, 0, 0, []), (27, 1, .iastore, 0, 0, 0, []), (28, 2, .bipush (-3), 3, 0, 0, []), (30, 1, .ireturn, 0, 0, 0, [])]
def mX10_refuse : xM := (yX10_refuse, cX10_refuse, 2, (some FieldType.int), 0, 1, 7, 0, 0, 0, pX10_refuse)
theorem dX10_refuse : xDec cX10_refuse pX10_refuse = true := by decide +kernel
theorem hX10_refuse : xHd mX10_refuse := ⟨xg (w := (Jvm.Cond.code ({ cls := "SmellBurdens", name := "refuse", desc := "(I)I" } : Jvm.MethodName) prog_1_method_44_code (2 : Nat) (Option.some Jvm.ClassFile.FieldType.int))) (xt1 (List.mem_of_getElem? (i := 211) (by decide +kernel))) rfl, xg (w := (Jvm.Cond.initialized "SmellBurdens")) (xt1 (List.mem_of_getElem? (i := 1) (by decide +kernel))) rfl, ⟨by decide +kernel, by decide +kernel, by decide +kernel⟩, xg (w := (Jvm.Cond.instanceMethod ({ cls := "SmellBurdens", name := "refuse", desc := "(I)I" } : Jvm.MethodName))) (xt1 (List.mem_of_getElem? (i := 210) (by decide +kernel))) rfl, xg (w := (Jvm.Cond.selects "SmellBurdens" ({ cls := "SmellBurdens", name := "refuse", desc := "(I)I" } : Jvm.MethodName) ({ cls := "SmellBurdens", name := "refuse", desc := "(I)I" } : Jvm.MethodName))) (xsl (List.mem_of_getElem? (i := 0) (by decide +kernel))) rfl, rfl⟩
def pX10_tell : List xE := [(0, 1, .aload_n 0, 0, 0, 0, []), (1, 1, .iload_n 1, 1, 0, 0, []), (2, 3, .putfield 324, 7, 11, 0, []), (5, 1, .iconst 1, 1, 0, 0, []), (6, 1, .ireturn, 0, 0, 0, [])]
def mX10_tell : xM := (yX10_tell, cX10_tell, 2, (some FieldType.int), 0, 1, 7, 0, 0, 0, pX10_tell)
theorem dX10_tell : xDec cX10_tell pX10_tell = true := by decide +kernel
theorem hX10_tell : xHd mX10_tell := ⟨xg (w := (Jvm.Cond.code ({ cls := "SmellBurdens", name := "tell", desc := "(I)I" } : Jvm.MethodName) prog_1_method_45_code (2 : Nat) (Option.some Jvm.ClassFile.FieldType.int))) (xt2 (List.mem_of_getElem? (i := 8) (by decide +kernel))) rfl, xg (w := (Jvm.Cond.initialized "SmellBurdens")) (xt1 (List.mem_of_getElem? (i := 1) (by decide +kernel))) rfl, ⟨by decide +kernel, by decide +kernel, by decide +kernel⟩, xg (w := (Jvm.Cond.instanceMethod ({ cls := "SmellBurdens", name := "tell", desc := "(I)I" } : Jvm.MethodName))) (xt2 (List.mem_of_getElem? (i := 7) (by decide +kernel))) rfl, xg (w := (Jvm.Cond.selects "SmellBurdens" ({ cls := "SmellBurdens", name := "tell", desc := "(I)I" } : Jvm.MethodName) ({ cls := "SmellBurdens", name := "tell", desc := "(I)I" } : Jvm.MethodName))) (xsl (List.mem_of_getElem? (i := 1) (by decide +kernel))) rfl, rfl⟩
def pX10_isSet : List xE := [(0, 1, .iload_n 0, 0, 0, 0, []), (1, 3, .ifCond .lt 13, 14, 0, 0, []), (4, 1, .iload_n 0, 0, 0, 0, []), (5, 2, .bipush 16, 16, 0, 0, []), (7, 3, .if_icmp .ge 7, 14, 0, 0, []), (10, 1, .iconst 1, 1, 0, 0, []), (11, 3, .goto 4, 15, 0, 0, []), (14, 1, .iconst 0, 0, 0, 0, []), (15, 1, .ireturn, 0, 0, 0, [])]
def mX10_isSet : xM := (yX10_isSet, cX10_isSet, 1, (some FieldType.boolean), 1, 1, 7, 0, 0, 0, pX10_isSet)
theorem dX10_isSet : xDec cX10_isSet pX10_isSet = true := by decide +kernel
theorem hX10_isSet : xHd mX10_isSet := ⟨xg (w := (Jvm.Cond.code ({ cls := "SmellBurdens", name := "isSet", desc := "(I)Z" } : Jvm.MethodName) prog_1_method_46_code (1 : Nat) (Option.some Jvm.ClassFile.FieldType.boolean))) (xt3 (List.mem_of_getElem? (i := 110) (by decide +kernel))) rfl, xg (w := (Jvm.Cond.initialized "SmellBurdens")) (xt1 (List.mem_of_getElem? (i := 1) (by decide +kernel))) rfl, ⟨by decide +kernel, by decide +kernel, by decide +kernel⟩, xg (w := (Jvm.Cond.static ({ cls := "SmellBurdens", name := "isSet", desc := "(I)Z" } : Jvm.MethodName))) (xt3 (List.mem_of_getElem? (i := 109) (by decide +kernel))) rfl⟩
def pX10_keptAt : List xE := [(0, 1, .iload_n 1, 1, 0, 0, []), (1, 3, .ifCond .lt 21, 22, 0, 0, []), (4, 1, .iload_n 1, 1, 0, 0, []), (5, 1, .aload_n 0, 0, 0, 0, []), (6, 3, .getfield 42, 7, 5, 0, []), (9, 1, .arraylength, 0, 0, 0, []), (10, 3, .if_icmp .ge 12, 22, 0, 0, []), (13, 1, .aload_n 0, 0, 0, 0, []), (14, 3, .getfield 42, 7, 5, 0, []), (17, 1, .iload_n 1, 1, 0, 0, []), (18, 1, .aaload, 0, 0, 0, []), (19, 3, .goto 4, 23, 0, 0, []), (22, 1, .aconst_null, 0, 0, 0, []), (23, 1, .areturn, 0, 0, 0, [])]
def mX10_keptAt : xM := (yX10_keptAt, cX10_keptAt, 2, (some (FieldType.object "SmellBurdens$Deeds")), 0, 1, 7, 0, 0, 0, pX10_keptAt)
theorem dX10_keptAt : xDec cX10_keptAt pX10_keptAt = true := by decide +kernel
theorem hX10_keptAt : xHd mX10_keptAt := ⟨xg (w := (Jvm.Cond.code ({ cls := "SmellBurdens", name := "keptAt", desc := "(I)LSmellBurdens$Deeds;" } : Jvm.MethodName) prog_1_method_47_code (2 : Nat) (Option.some (Jvm.ClassFile.FieldType.object "SmellBurdens$Deeds")))) (xt2 (List.mem_of_getElem? (i := 140) (by decide +kernel))) rfl, xg (w := (Jvm.Cond.initialized "SmellBurdens")) (xt1 (List.mem_of_getElem? (i := 1) (by decide +kernel))) rfl, ⟨by decide +kernel, by decide +kernel, by decide +kernel⟩, xg (w := (Jvm.Cond.instanceMethod ({ cls := "SmellBurdens", name := "keptAt", desc := "(I)LSmellBurdens$Deeds;" } : Jvm.MethodName))) (xt2 (List.mem_of_getElem? (i := 139) (by decide +kernel))) rfl, xg (w := (Jvm.Cond.selects "SmellBurdens" ({ cls := "SmellBurdens", name := "keptAt", desc := "(I)LSmellBurdens$Deeds;" } : Jvm.MethodName) ({ cls := "SmellBurdens", name := "keptAt", desc := "(I)LSmellBurdens$Deeds;" } : Jvm.MethodName))) (xsl (List.mem_of_getElem? (i := 10) (by decide +kernel))) rfl, rfl⟩
def pX10_keptSize : List xE := [(0, 1, .aload_n 0, 0, 0, 0, []), (1, 1, .iload_n 1, 1, 0, 0, []), (2, 3, .invokevirtual 138, 0, 0, 0, []), (5, 1, .astore_n 2, 2, 0, 0, []), (6, 1, .aload_n 2, 2, 0, 0, []), (7, 3, .ifnonnull 7, 14, 0, 0, []), (10, 1, .iconst (-1), 1, 0, 0, []), (11, 3, .goto 7, 18, 0, 0, []), (14, 1, .aload_n 2, 2, 0, 0, []), (15, 3, .getfield 217, 1, 3, 1, []), (18, 1, .ireturn, 0, 0, 0, [])]
def mX10_keptSize : xM := (yX10_keptSize, cX10_keptSize, 3, (some FieldType.int), 0, 1, 7, 1, 21, 0, pX10_keptSize)
theorem dX10_keptSize : xDec cX10_keptSize pX10_keptSize = true := by decide +kernel
theorem hX10_keptSize : xHd mX10_keptSize := ⟨xg (w := (Jvm.Cond.code ({ cls := "SmellBurdens", name := "keptSize", desc := "(I)I" } : Jvm.MethodName) prog_1_method_48_code (3 : Nat) (Option.some Jvm.ClassFile.FieldType.int))) (xt4 (List.mem_of_getElem? (i := 156) (by decide +kernel))) rfl, xg (w := (Jvm.Cond.initialized "SmellBurdens")) (xt1 (List.mem_of_getElem? (i := 1) (by decide +kernel))) rfl, ⟨by decide +kernel, by decide +kernel, by decide +kernel⟩, xg (w := (Jvm.Cond.instanceMethod ({ cls := "SmellBurdens", name := "keptSize", desc := "(I)I" } : Jvm.MethodName))) (xt4 (List.mem_of_getElem? (i := 155) (by decide +kernel))) rfl, xg (w := (Jvm.Cond.selects "SmellBurdens" ({ cls := "SmellBurdens", name := "keptSize", desc := "(I)I" } : Jvm.MethodName) ({ cls := "SmellBurdens", name := "keptSize", desc := "(I)I" } : Jvm.MethodName))) (xsl (List.mem_of_getElem? (i := 25) (by decide +kernel))) rfl, rfl⟩
def pX10_howManyKept : List xE := [(0, 1, .iconst 0, 0, 0, 0, []), (1, 1, .istore_n 1, 1, 0, 0, []), (2, 1, .iconst 0, 0, 0, 0, []), (3, 1, .istore_n 2, 2, 0, 0, []), (4, 1, .iload_n 2, 2, 0, 0, []), (5, 1, .iconst 3, 3, 0, 0, []), (6, 3, .if_icmp .ge 26, 32, 0, 0, []), (9, 1, .iload_n 1, 1, 0, 0, []), (10, 1, .aload_n 0, 0, 0, 0, []), (11, 1, .iload_n 2, 2, 0, 0, []), (12, 3, .invokevirtual 358, 0, 0, 0, []), (15, 1, .iconst (-1), 1, 0, 0, []), (16, 3, .if_icmp .ne 7, 23, 0, 0, []), (19, 1, .iconst 0, 0, 0, 0, []), (20, 3, .goto 4, 24, 0, 0, []), (23, 1, .iconst 1, 1, 0, 0, []), (24, 1, .iadd, 0, 0, 0, []), (25, 1, .istore_n 1, 1, 0, 0, []), (26, 3, .iinc 2 1, 2, 1, 0, []), (29, 3, .goto (-25), 4, 0, 0, []), (32, 1, .iload_n 1, 1, 0, 0, []), (33, 1, .ireturn, 0, 0, 0, [])]
def mX10_howManyKept : xM := (yX10_howManyKept, cX10_howManyKept, 3, (some FieldType.int), 0, 0, 7, 2, 43, 0, pX10_howManyKept)
theorem dX10_howManyKept : xDec cX10_howManyKept pX10_howManyKept = true := by decide +kernel
theorem hX10_howManyKept : xHd mX10_howManyKept := ⟨xg (w := (Jvm.Cond.code ({ cls := "SmellBurdens", name := "howManyKept", desc := "()I" } : Jvm.MethodName) prog_1_method_49_code (3 : Nat) (Option.some Jvm.ClassFile.FieldType.int))) (xt4 (List.mem_of_getElem? (i := 152) (by decide +kernel))) rfl, xg (w := (Jvm.Cond.initialized "SmellBurdens")) (xt1 (List.mem_of_getElem? (i := 1) (by decide +kernel))) rfl, ⟨by decide +kernel, by decide +kernel, by decide +kernel⟩, xg (w := (Jvm.Cond.instanceMethod ({ cls := "SmellBurdens", name := "howManyKept", desc := "()I" } : Jvm.MethodName))) (xt4 (List.mem_of_getElem? (i := 151) (by decide +kernel))) rfl, xg (w := (Jvm.Cond.selects "SmellBurdens" ({ cls := "SmellBurdens", name := "howManyKept", desc := "()I" } : Jvm.MethodName) ({ cls := "SmellBurdens", name := "howManyKept", desc := "()I" } : Jvm.MethodName))) (xsl (List.mem_of_getElem? (i := 24) (by decide +kernel))) rfl, rfl⟩
theorem wdX10_365 : (Jvm.Cond.methodLink "SmellBurdens" (365 : Nat) ({ cls := "SmellBurdens$Plain", name := "takesOf", desc := "(JII)I" } : Jvm.MethodName)) ∈ xG := xg (xt2 (List.mem_of_getElem? (i := 170) (by decide +kernel))) rfl
theorem wdX10_368 : (Jvm.Cond.methodLink "SmellBurdens" (368 : Nat) ({ cls := "SmellBurdens$Plain", name := "loadTaken", desc := "(II)I" } : Jvm.MethodName)) ∈ xG := xg (xt2 (List.mem_of_getElem? (i := 210) (by decide +kernel))) rfl
def pX10_ofAss : List xE := [(0, 1, .aload_n 0, 0, 0, 0, []), (1, 3, .getfield 38, 7, 4, 0, []), (4, 3, .getfield 169, 1, 1, 1, []), (7, 1, .lstore_n 3, 3, 0, 0, []), (8, 1, .iload_n 2, 2, 0, 0, []), (9, 27, .tableswitch 48 0 2 #[27, 36, 42], 57, 0, 0, [(0, 36), (1, 45), (2, 51)]), (36, 1, .aload_n 0, 0, 0, 0, []), (37, 3, .getfield 31, 7, 3, 0, []), (40, 1, .iload_n 1, 1, 0, 0, []), (41, 3, .invokevirtual 162, 0, 0, 0, []), (44, 1, .ireturn, 0, 0, 0, []), (45, 1, .lload_n 3, 3, 0, 0, []), (46, 1, .iload_n 1, 1, 0, 0, []), (47, 3, .invokestatic 172, 1, 0, 0, []), (50, 1, .ireturn, 0, 0, 0, []), (51, 1, .lload_n 3, 3, 0, 0, []), (52, 1, .iload_n 1, 1, 0, 0, []), (53, 3, .invokestatic 211, 2, 0, 0, []), (56, 1, .ireturn, 0, 0, 0, []), (57, 1, .aload_n 0, 0, 0, 0, []), (58, 3, .getfield 31, 7, 3, 0, []), (61, 1, .lload_n 3, 3, 0, 0, []), (62, 2, .bipush 27, 27, 0, 0, []), (64, 2, .bipush 15, 15, 0, 0, []), (66, 3, .invokevirtual 365, 3, 0, 0, []), (69, 1, .iload_n 1, 1, 0, 0, []), (70, 3, .invokestatic 368, 4, 0, 0, []), (73, 1, .ireturn, 0, 0, 0, [])]
def mX10_ofAss : xM := (yX10_ofAss, cX10_ofAss, 5, (some FieldType.int), 0, 2, 7, 5, 129, 0, pX10_ofAss)
theorem dX10_ofAss : xDec cX10_ofAss pX10_ofAss = true := by decide +kernel
theorem hX10_ofAss : xHd mX10_ofAss := ⟨xg (w := (Jvm.Cond.code ({ cls := "SmellBurdens", name := "ofAss", desc := "(II)I" } : Jvm.MethodName) prog_1_method_50_code (5 : Nat) (Option.some Jvm.ClassFile.FieldType.int))) (xt2 (List.mem_of_getElem? (i := 156) (by decide +kernel))) rfl, xg (w := (Jvm.Cond.initialized "SmellBurdens")) (xt1 (List.mem_of_getElem? (i := 1) (by decide +kernel))) rfl, ⟨by decide +kernel, by decide +kernel, by decide +kernel⟩, xg (w := (Jvm.Cond.instanceMethod ({ cls := "SmellBurdens", name := "ofAss", desc := "(II)I" } : Jvm.MethodName))) (xt2 (List.mem_of_getElem? (i := 155) (by decide +kernel))) rfl, xg (w := (Jvm.Cond.selects "SmellBurdens" ({ cls := "SmellBurdens", name := "ofAss", desc := "(II)I" } : Jvm.MethodName) ({ cls := "SmellBurdens", name := "ofAss", desc := "(II)I" } : Jvm.MethodName))) (xsl (List.mem_of_getElem? (i := 11) (by decide +kernel))) rfl, rfl⟩
theorem wdX10_371 : (Jvm.Cond.methodLink "SmellBurdens" (371 : Nat) ({ cls := "SmellBurdens$Plain", name := "homeOf", desc := "(I)I" } : Jvm.MethodName)) ∈ xG := xg (xt2 (List.mem_of_getElem? (i := 227) (by decide +kernel))) rfl
theorem wdX10_374 : (Jvm.Cond.methodLink "SmellBurdens" (374 : Nat) ({ cls := "SmellBurdens$Plain", name := "isHome", desc := "(JI)Z" } : Jvm.MethodName)) ∈ xG := xg (xt2 (List.mem_of_getElem? (i := 228) (by decide +kernel))) rfl
theorem wdX10_378 : (Jvm.Cond.methodLink "SmellBurdens" (378 : Nat) ({ cls := "SmellBurdens$Plain", name := "takerOf", desc := "(II)I" } : Jvm.MethodName)) ∈ xG := xg (xt2 (List.mem_of_getElem? (i := 232) (by decide +kernel))) rfl
def pX10_ofLoad : List xE := [(0, 1, .aload_n 0, 0, 0, 0, []), (1, 3, .getfield 38, 7, 4, 0, []), (4, 3, .getfield 169, 1, 1, 1, []), (7, 1, .lstore_n 3, 3, 0, 0, []), (8, 1, .iload_n 2, 2, 0, 0, []), (9, 31, .tableswitch 70 0 3 #[31, 37, 43, 52], 79, 0, 0, [(0, 40), (1, 46), (2, 52), (3, 61)]), (40, 1, .lload_n 3, 3, 0, 0, []), (41, 1, .iload_n 1, 1, 0, 0, []), (42, 3, .invokestatic 208, 0, 0, 0, []), (45, 1, .ireturn, 0, 0, 0, []), (46, 1, .lload_n 3, 3, 0, 0, []), (47, 1, .iload_n 1, 1, 0, 0, []), (48, 3, .invokestatic 244, 1, 0, 0, []), (51, 1, .ireturn, 0, 0, 0, []), (52, 1, .aload_n 0, 0, 0, 0, []), (53, 3, .getfield 31, 7, 3, 0, []), (56, 1, .iload_n 1, 1, 0, 0, []), (57, 3, .invokevirtual 371, 2, 0, 0, []), (60, 1, .ireturn, 0, 0, 0, []), (61, 1, .aload_n 0, 0, 0, 0, []), (62, 3, .getfield 31, 7, 3, 0, []), (65, 1, .lload_n 3, 3, 0, 0, []), (66, 1, .iload_n 1, 1, 0, 0, []), (67, 3, .invokevirtual 374, 3, 0, 0, []), (70, 3, .ifCond .eq 7, 77, 0, 0, []), (73, 1, .iconst 1, 1, 0, 0, []), (74, 3, .goto 4, 78, 0, 0, []), (77, 1, .iconst 0, 0, 0, 0, []), (78, 1, .ireturn, 0, 0, 0, []), (79, 1, .aload_n 0, 0, 0, 0, []), (80, 3, .getfield 31, 7, 3, 0, []), (83, 1, .lload_n 3, 3, 0, 0, []), (84, 2, .bipush 27, 27, 0, 0, []), (86, 2, .bipush 15, 15, 0, 0, []), (88, 3, .invokevirtual 365, 4, 0, 0, []), (91, 1, .iload_n 1, 1, 0, 0, []), (92, 3, .invokestatic 378, 5, 0, 0, []), (95, 1, .ireturn, 0, 0, 0, [])]
def mX10_ofLoad : xM := (yX10_ofLoad, cX10_ofLoad, 5, (some FieldType.int), 0, 2, 7, 5, 129, 0, pX10_ofLoad)
theorem dX10_ofLoad : xDec cX10_ofLoad pX10_ofLoad = true := by decide +kernel
theorem hX10_ofLoad : xHd mX10_ofLoad := ⟨xg (w := (Jvm.Cond.code ({ cls := "SmellBurdens", name := "ofLoad", desc := "(II)I" } : Jvm.MethodName) prog_1_method_51_code (5 : Nat) (Option.some Jvm.ClassFile.FieldType.int))) (xt2 (List.mem_of_getElem? (i := 224) (by decide +kernel))) rfl, xg (w := (Jvm.Cond.initialized "SmellBurdens")) (xt1 (List.mem_of_getElem? (i := 1) (by decide +kernel))) rfl, ⟨by decide +kernel, by decide +kernel, by decide +kernel⟩, xg (w := (Jvm.Cond.instanceMethod ({ cls := "SmellBurdens", name := "ofLoad", desc := "(II)I" } : Jvm.MethodName))) (xt2 (List.mem_of_getElem? (i := 223) (by decide +kernel))) rfl, xg (w := (Jvm.Cond.selects "SmellBurdens" ({ cls := "SmellBurdens", name := "ofLoad", desc := "(II)I" } : Jvm.MethodName) ({ cls := "SmellBurdens", name := "ofLoad", desc := "(II)I" } : Jvm.MethodName))) (xsl (List.mem_of_getElem? (i := 13) (by decide +kernel))) rfl, rfl⟩
theorem wdX10_381 : (Jvm.Cond.methodLink "SmellBurdens" (381 : Nat) ({ cls := "SmellBurdens$Plain", name := "gone", desc := "(JI)J" } : Jvm.MethodName)) ∈ xG := xg (xt3 (List.mem_of_getElem? (i := 43) (by decide +kernel))) rfl
theorem wdX10_385 : (Jvm.Cond.methodLink "SmellBurdens" (385 : Nat) ({ cls := "SmellBurdens$Deeds", name := "add", desc := "(JZ)V" } : Jvm.MethodName)) ∈ xG := xg (xt3 (List.mem_of_getElem? (i := 54) (by decide +kernel))) rfl
theorem wdX10_389 : (Jvm.Cond.methodLink "SmellBurdens" (389 : Nat) ({ cls := "SmellBurdens$Plain", name := "howManyTaken", desc := "(I)I" } : Jvm.MethodName)) ∈ xG := xg (xt3 (List.mem_of_getElem? (i := 58) (by decide +kernel))) rfl
def pX10_doDay : List xE := [(0, 1, .aload_n 0, 0, 0, 0, []), (1, 3, .getfield 31, 7, 3, 0, []), (4, 1, .aload_n 0, 0, 0, 0, []), (5, 3, .getfield 38, 7, 4, 0, []), (8, 3, .getfield 169, 1, 1, 1, []), (11, 2, .bipush 27, 27, 0, 0, []), (13, 2, .bipush 15, 15, 0, 0, []), (15, 3, .invokevirtual 365, 0, 0, 0, []), (18, 1, .istore_n 1, 1, 0, 0, []), (19, 1, .aload_n 0, 0, 0, 0, []), (20, 3, .getfield 38, 7, 4, 0, []), (23, 1, .aload_n 0, 0, 0, 0, []), (24, 3, .getfield 31, 7, 3, 0, []), (27, 1, .aload_n 0, 0, 0, 0, []), (28, 3, .getfield 38, 7, 4, 0, []), (31, 3, .getfield 169, 1, 1, 1, []), (34, 1, .iload_n 1, 1, 0, 0, []), (35, 3, .invokevirtual 381, 1, 0, 0, []), (38, 1, .iconst 1, 1, 0, 0, []), (39, 3, .invokevirtual 385, 2, 0, 0, []), (42, 1, .iload_n 1, 1, 0, 0, []), (43, 3, .invokestatic 389, 3, 0, 0, []), (46, 1, .ireturn, 0, 0, 0, [])]
def mX10_doDay : xM := (yX10_doDay, cX10_doDay, 2, (some FieldType.int), 0, 0, 7, 5, 129, 0, pX10_doDay)
theorem dX10_doDay : xDec cX10_doDay pX10_doDay = true := by decide +kernel
theorem hX10_doDay : xHd mX10_doDay := ⟨xg (w := (Jvm.Cond.code ({ cls := "SmellBurdens", name := "doDay", desc := "()I" } : Jvm.MethodName) prog_1_method_52_code (2 : Nat) (Option.some Jvm.ClassFile.FieldType.int))) (xt3 (List.mem_of_getElem? (i := 42) (by decide +kernel))) rfl, xg (w := (Jvm.Cond.initialized "SmellBurdens")) (xt1 (List.mem_of_getElem? (i := 1) (by decide +kernel))) rfl, ⟨by decide +kernel, by decide +kernel, by decide +kernel⟩, xg (w := (Jvm.Cond.instanceMethod ({ cls := "SmellBurdens", name := "doDay", desc := "()I" } : Jvm.MethodName))) (xt3 (List.mem_of_getElem? (i := 41) (by decide +kernel))) rfl, xg (w := (Jvm.Cond.selects "SmellBurdens" ({ cls := "SmellBurdens", name := "doDay", desc := "()I" } : Jvm.MethodName) ({ cls := "SmellBurdens", name := "doDay", desc := "()I" } : Jvm.MethodName))) (xsl (List.mem_of_getElem? (i := 14) (by decide +kernel))) rfl, rfl⟩
theorem wdX10_392 : (Jvm.Cond.methodLink "SmellBurdens" (392 : Nat) ({ cls := "SmellBurdens$Scene", name := "withMarks", desc := "(JII)J" } : Jvm.MethodName)) ∈ xG := xg (xt3 (List.mem_of_getElem? (i := 69) (by decide +kernel))) rfl
def pX10_doSmear : List xE := [(0, 1, .aload_n 0, 0, 0, 0, []), (1, 3, .getfield 38, 7, 4, 0, []), (4, 3, .getfield 169, 1, 1, 1, []), (7, 1, .lstore_n 3, 3, 0, 0, []), (8, 1, .aload_n 0, 0, 0, 0, []), (9, 3, .getfield 38, 7, 4, 0, []), (12, 1, .lload_n 3, 3, 0, 0, []), (13, 1, .iload_n 1, 1, 0, 0, []), (14, 1, .lload_n 3, 3, 0, 0, []), (15, 1, .iload_n 1, 1, 0, 0, []), (16, 3, .invokestatic 208, 0, 0, 0, []), (19, 1, .iconst 1, 1, 0, 0, []), (20, 1, .iload_n 2, 2, 0, 0, []), (21, 1, .ishl, 0, 0, 0, []), (22, 1, .ixor, 0, 0, 0, []), (23, 3, .invokestatic 392, 1, 0, 0, []), (26, 1, .iconst 0, 0, 0, 0, []), (27, 3, .invokevirtual 385, 2, 0, 0, []), (30, 1, .return_, 0, 0, 0, [])]
def mX10_doSmear : xM := (yX10_doSmear, cX10_doSmear, 5, (none : Option FieldType), 0, 2, 7, 2, 47, 0, pX10_doSmear)
theorem dX10_doSmear : xDec cX10_doSmear pX10_doSmear = true := by decide +kernel
theorem hX10_doSmear : xHd mX10_doSmear := ⟨xg (w := (Jvm.Cond.code ({ cls := "SmellBurdens", name := "doSmear", desc := "(II)V" } : Jvm.MethodName) prog_1_method_53_code (5 : Nat) (Option.none : Option Jvm.ClassFile.FieldType))) (xt3 (List.mem_of_getElem? (i := 68) (by decide +kernel))) rfl, xg (w := (Jvm.Cond.initialized "SmellBurdens")) (xt1 (List.mem_of_getElem? (i := 1) (by decide +kernel))) rfl, ⟨by decide +kernel, by decide +kernel, by decide +kernel⟩, xg (w := (Jvm.Cond.instanceMethod ({ cls := "SmellBurdens", name := "doSmear", desc := "(II)V" } : Jvm.MethodName))) (xt3 (List.mem_of_getElem? (i := 67) (by decide +kernel))) rfl, xg (w := (Jvm.Cond.selects "SmellBurdens" ({ cls := "SmellBurdens", name := "doSmear", desc := "(II)V" } : Jvm.MethodName) ({ cls := "SmellBurdens", name := "doSmear", desc := "(II)V" } : Jvm.MethodName))) (xsl (List.mem_of_getElem? (i := 15) (by decide +kernel))) rfl, rfl⟩
theorem wdX10_396 : (Jvm.Cond.methodLink "SmellBurdens" (396 : Nat) ({ cls := "SmellBurdens$Scene", name := "withInn", desc := "(JII)J" } : Jvm.MethodName)) ∈ xG := xg (xt3 (List.mem_of_getElem? (i := 78) (by decide +kernel))) rfl
def pX10_doLead : List xE := [(0, 1, .aload_n 0, 0, 0, 0, []), (1, 3, .getfield 38, 7, 4, 0, []), (4, 1, .aload_n 0, 0, 0, 0, []), (5, 3, .getfield 38, 7, 4, 0, []), (8, 3, .getfield 169, 1, 1, 1, []), (11, 1, .iload_n 1, 1, 0, 0, []), (12, 1, .iload_n 2, 2, 0, 0, []), (13, 3, .invokestatic 396, 0, 0, 0, []), (16, 1, .iconst 0, 0, 0, 0, []), (17, 3, .invokevirtual 385, 1, 0, 0, []), (20, 1, .return_, 0, 0, 0, [])]
def mX10_doLead : xM := (yX10_doLead, cX10_doLead, 3, (none : Option FieldType), 0, 2, 7, 2, 47, 0, pX10_doLead)
theorem dX10_doLead : xDec cX10_doLead pX10_doLead = true := by decide +kernel
theorem hX10_doLead : xHd mX10_doLead := ⟨xg (w := (Jvm.Cond.code ({ cls := "SmellBurdens", name := "doLead", desc := "(II)V" } : Jvm.MethodName) prog_1_method_54_code (3 : Nat) (Option.none : Option Jvm.ClassFile.FieldType))) (xt3 (List.mem_of_getElem? (i := 77) (by decide +kernel))) rfl, xg (w := (Jvm.Cond.initialized "SmellBurdens")) (xt1 (List.mem_of_getElem? (i := 1) (by decide +kernel))) rfl, ⟨by decide +kernel, by decide +kernel, by decide +kernel⟩, xg (w := (Jvm.Cond.instanceMethod ({ cls := "SmellBurdens", name := "doLead", desc := "(II)V" } : Jvm.MethodName))) (xt3 (List.mem_of_getElem? (i := 76) (by decide +kernel))) rfl, xg (w := (Jvm.Cond.selects "SmellBurdens" ({ cls := "SmellBurdens", name := "doLead", desc := "(II)V" } : Jvm.MethodName) ({ cls := "SmellBurdens", name := "doLead", desc := "(II)V" } : Jvm.MethodName))) (xsl (List.mem_of_getElem? (i := 16) (by decide +kernel))) rfl, rfl⟩
theorem wdX10_399 : (Jvm.Cond.constantLong "SmellBurdens" (399 : Nat) (8 : Int64)) ∈ xG := xg (xt4 (List.mem_of_getElem? (i := 105) (by decide +kernel))) rfl
theorem wdX10_401 : (Jvm.Cond.constantLong "SmellBurdens" (401 : Nat) (4 : Int64)) ∈ xG := xg (xt4 (List.mem_of_getElem? (i := 106) (by decide +kernel))) rfl
theorem wdX10_403 : (Jvm.Cond.constantLong "SmellBurdens" (403 : Nat) (64 : Int64)) ∈ xG := xg (xt4 (List.mem_of_getElem? (i := 107) (by decide +kernel))) rfl
theorem wdX10_405 : (Jvm.Cond.constantLong "SmellBurdens" (405 : Nat) (5 : Int64)) ∈ xG := xg (xt4 (List.mem_of_getElem? (i := 108) (by decide +kernel))) rfl
def pX10_doByLot : List xE := [(0, 1, .aload_n 0, 0, 0, 0, []), (1, 3, .getfield 31, 7, 3, 0, []), (4, 3, .getfield 195, 3, 0, 1, []), (7, 3, .ifCond .le 13, 20, 0, 0, []), (10, 1, .aload_n 0, 0, 0, 0, []), (11, 3, .getfield 31, 7, 3, 0, []), (14, 3, .getfield 144, 3, 1, 1, []), (17, 3, .ifCond .gt 4, 21, 0, 0, []), (20, 1, .return_, 0, 0, 0, []), (21, 1, .lload_n 1, 1, 0, 0, []), (22, 3, .ldc2_w 399, 8, 0, 0, []), (25, 1, .ldiv, 0, 0, 0, []), (26, 3, .ldc2_w 401, 4, 0, 0, []), (29, 1, .lrem, 0, 0, 0, []), (30, 1, .l2i, 0, 0, 0, []), (31, 1, .istore_n 3, 3, 0, 0, []), (32, 1, .iload_n 3, 3, 0, 0, []), (33, 3, .ifCond .ne 31, 64, 0, 0, []), (36, 1, .aload_n 0, 0, 0, 0, []), (37, 1, .lload_n 1, 1, 0, 0, []), (38, 1, .aload_n 0, 0, 0, 0, []), (39, 3, .getfield 31, 7, 3, 0, []), (42, 3, .getfield 144, 3, 1, 1, []), (45, 1, .i2l, 0, 0, 0, []), (46, 1, .lrem, 0, 0, 0, []), (47, 1, .l2i, 0, 0, 0, []), (48, 1, .lload_n 1, 1, 0, 0, []), (49, 3, .ldc2_w 403, 64, 0, 0, []), (52, 1, .ldiv, 0, 0, 0, []), (53, 3, .ldc2_w 401, 4, 0, 0, []), (56, 1, .lrem, 0, 0, 0, []), (57, 1, .l2i, 0, 0, 0, []), (58, 3, .invokevirtual 205, 0, 0, 0, []), (61, 3, .goto 41, 102, 0, 0, []), (64, 1, .iload_n 3, 3, 0, 0, []), (65, 1, .iconst 1, 1, 0, 0, []), (66, 3, .if_icmp .ne 31, 97, 0, 0, []), (69, 1, .aload_n 0, 0, 0, 0, []), (70, 1, .lload_n 1, 1, 0, 0, []), (71, 1, .aload_n 0, 0, 0, 0, []), (72, 3, .getfield 31, 7, 3, 0, []), (75, 3, .getfield 195, 3, 0, 1, []), (78, 1, .i2l, 0, 0, 0, []), (79, 1, .lrem, 0, 0, 0, []), (80, 1, .l2i, 0, 0, 0, []), (81, 1, .lload_n 1, 1, 0, 0, []), (82, 3, .ldc2_w 403, 64, 0, 0, []), (85, 1, .ldiv, 0, 0, 0, []), (86, 3, .ldc2_w 405, 5, 0, 0, []), (89, 1, .lrem, 0, 0, 0, []), (90, 1, .l2i, 0, 0, 0, []), (91, 3, .invokevirtual 214, 1, 0, 0, []), (94, 3, .goto 8, 102, 0, 0, []), (97, 1, .aload_n 0, 0, 0, 0, []), (98, 3, .invokevirtual 201, 2, 0, 0, []), (101, 1, .pop, 0, 0, 0, []), (102, 1, .return_, 0, 0, 0, [])]
def mX10_doByLot : xM := (yX10_doByLot, cX10_doByLot, 4, (none : Option FieldType), 0, 1, 7, 6, 150, 0, pX10_doByLot)
theorem dX10_doByLot : xDec cX10_doByLot pX10_doByLot = true := by decide +kernel
theorem hX10_doByLot : xHd mX10_doByLot := ⟨xg (w := (Jvm.Cond.code ({ cls := "SmellBurdens", name := "doByLot", desc := "(J)V" } : Jvm.MethodName) prog_1_method_55_code (4 : Nat) (Option.none : Option Jvm.ClassFile.FieldType))) (xt4 (List.mem_of_getElem? (i := 104) (by decide +kernel))) rfl, xg (w := (Jvm.Cond.initialized "SmellBurdens")) (xt1 (List.mem_of_getElem? (i := 1) (by decide +kernel))) rfl, ⟨by decide +kernel, by decide +kernel, by decide +kernel⟩, xg (w := (Jvm.Cond.instanceMethod ({ cls := "SmellBurdens", name := "doByLot", desc := "(J)V" } : Jvm.MethodName))) (xt4 (List.mem_of_getElem? (i := 103) (by decide +kernel))) rfl, xg (w := (Jvm.Cond.selects "SmellBurdens" ({ cls := "SmellBurdens", name := "doByLot", desc := "(J)V" } : Jvm.MethodName) ({ cls := "SmellBurdens", name := "doByLot", desc := "(J)V" } : Jvm.MethodName))) (xsl (List.mem_of_getElem? (i := 23) (by decide +kernel))) rfl, rfl⟩
end
section
/-! 17.prog-ref1: printed of the program by wip/whole/gen_prog.py -/
def pX11_in : List xE := [(0, 1, .lload_n 0, 0, 0, 0, []), (1, 1, .lload_n 2, 2, 0, 0, []), (2, 1, .lcmp, 0, 0, 0, []), (3, 3, .ifCond .lt 14, 17, 0, 0, []), (6, 1, .lload_n 0, 0, 0, 0, []), (7, 2, .lload 4, 4, 0, 0, []), (9, 1, .lcmp, 0, 0, 0, []), (10, 3, .ifCond .gt 7, 17, 0, 0, []), (13, 1, .iconst 1, 1, 0, 0, []), (14, 3, .goto 4, 18, 0, 0, []), (17, 1, .iconst 0, 0, 0, 0, []), (18, 1, .ireturn, 0, 0, 0, [])]
def mX11_in : xM := (yX11_in, cX11_in, 6, (some FieldType.boolean), 1, 3, 8, 0, 0, 0, pX11_in)
theorem dX11_in : xDec cX11_in pX11_in = true := by decide +kernel
theorem hX11_in : xHd mX11_in := ⟨xg (w := (Jvm.Cond.code ({ cls := "SmellBurdensModel", name := "in", desc := "(JJJ)Z" } : Jvm.MethodName) prog_13_method_2_code (6 : Nat) (Option.some Jvm.ClassFile.FieldType.boolean))) (xt5 (List.mem_of_getElem? (i := 63) (by decide +kernel))) rfl, xg (w := (Jvm.Cond.initialized "SmellBurdensModel")) (xt1 (List.mem_of_getElem? (i := 10) (by decide +kernel))) rfl, ⟨by decide +kernel, by decide +kernel, by decide +kernel⟩, xg (w := (Jvm.Cond.static ({ cls := "SmellBurdensModel", name := "in", desc := "(JJJ)Z" } : Jvm.MethodName))) (xt5 (List.mem_of_getElem? (i := 62) (by decide +kernel))) rfl⟩
theorem wdX11_1 : (Jvm.Cond.methodLink "SmellBurdensModel" (1 : Nat) ({ cls := "java/lang/Object", name := "<init>", desc := "()V" } : Jvm.MethodName)) ∈ xG := xg (xt4 (List.mem_of_getElem? (i := 182) (by decide +kernel))) rfl
theorem wdX11_7 : (Jvm.Cond.fieldLink "SmellBurdensModel" (7 : Nat) "SmellBurdensModel" "found" "[I") ∈ xG := xg (xt4 (List.mem_of_getElem? (i := 187) (by decide +kernel))) rfl
theorem wdX11_13 : (Jvm.Cond.fieldLink "SmellBurdensModel" (13 : Nat) "SmellBurdensModel" "rowSizes" "[I") ∈ xG := xg (xt4 (List.mem_of_getElem? (i := 188) (by decide +kernel))) rfl
theorem wdX11_16 : (Jvm.Cond.fieldLink "SmellBurdensModel" (16 : Nat) "SmellBurdensModel" "rows" "[I") ∈ xG := xg (xt4 (List.mem_of_getElem? (i := 189) (by decide +kernel))) rfl
theorem wdX11_19 : (Jvm.Cond.fieldLink "SmellBurdensModel" (19 : Nat) "SmellBurdensModel" "textSizes" "[I") ∈ xG := xg (xt4 (List.mem_of_getElem? (i := 190) (by decide +kernel))) rfl
theorem wdX11_22 : (Jvm.Cond.fieldLink "SmellBurdensModel" (22 : Nat) "SmellBurdensModel" "texts" "[I") ∈ xG := xg (xt4 (List.mem_of_getElem? (i := 191) (by decide +kernel))) rfl
theorem wdX11_25 : (Jvm.Cond.fieldLink "SmellBurdensModel" (25 : Nat) "SmellBurdensModel" "moved" "[I") ∈ xG := xg (xt4 (List.mem_of_getElem? (i := 192) (by decide +kernel))) rfl
theorem wdX11_28 : (Jvm.Cond.fieldLink "SmellBurdensModel" (28 : Nat) "SmellBurdensModel" "roads" "[I") ∈ xG := xg (xt4 (List.mem_of_getElem? (i := 195) (by decide +kernel))) rfl
theorem wdX11_31 : (Jvm.Cond.fieldLink "SmellBurdensModel" (31 : Nat) "SmellBurdensModel" "sorts" "[I") ∈ xG := xg (xt4 (List.mem_of_getElem? (i := 196) (by decide +kernel))) rfl
theorem wdX11_34 : (Jvm.Cond.fieldLink "SmellBurdensModel" (34 : Nat) "SmellBurdensModel" "homes" "[I") ∈ xG := xg (xt4 (List.mem_of_getElem? (i := 197) (by decide +kernel))) rfl
theorem wdX11_37 : (Jvm.Cond.fieldLink "SmellBurdensModel" (37 : Nat) "SmellBurdensModel" "now" "[I") ∈ xG := xg (xt4 (List.mem_of_getElem? (i := 198) (by decide +kernel))) rfl
theorem wdX11_40 : (Jvm.Cond.fieldLink "SmellBurdensModel" (40 : Nat) "SmellBurdensModel" "takes" "[I") ∈ xG := xg (xt4 (List.mem_of_getElem? (i := 199) (by decide +kernel))) rfl
theorem wdX11_43 : (Jvm.Cond.fieldLink "SmellBurdensModel" (43 : Nat) "SmellBurdensModel" "read" "[I") ∈ xG := xg (xt4 (List.mem_of_getElem? (i := 204) (by decide +kernel))) rfl
theorem wdX11_46 : (Jvm.Cond.fieldLink "SmellBurdensModel" (46 : Nat) "SmellBurdensModel" "history" "[I") ∈ xG := xg (xt4 (List.mem_of_getElem? (i := 206) (by decide +kernel))) rfl
theorem wdX11_49 : (Jvm.Cond.fieldLink "SmellBurdensModel" (49 : Nat) "SmellBurdensModel" "keptDeeds" "[I") ∈ xG := xg (xt4 (List.mem_of_getElem? (i := 207) (by decide +kernel))) rfl
theorem wdX11_52 : (Jvm.Cond.fieldLink "SmellBurdensModel" (52 : Nat) "SmellBurdensModel" "kept" "[I") ∈ xG := xg (xt4 (List.mem_of_getElem? (i := 208) (by decide +kernel))) rfl
theorem wdX11_55 : (Jvm.Cond.fieldLink "SmellBurdensModel" (55 : Nat) "SmellBurdensModel" "aside" "[I") ∈ xG := xg (xt4 (List.mem_of_getElem? (i := 209) (by decide +kernel))) rfl
theorem wdX11_58 : (Jvm.Cond.fieldLink "SmellBurdensModel" (58 : Nat) "SmellBurdensModel" "met" "[J") ∈ xG := xg (xt4 (List.mem_of_getElem? (i := 210) (by decide +kernel))) rfl
theorem wdX11_62 : (Jvm.Cond.fieldLink "SmellBurdensModel" (62 : Nat) "SmellBurdensModel" "given" "[I") ∈ xG := xg (xt4 (List.mem_of_getElem? (i := 211) (by decide +kernel))) rfl
theorem wdX11_65 : (Jvm.Cond.fieldLink "SmellBurdensModel" (65 : Nat) "SmellBurdensModel" "order" "[I") ∈ xG := xg (xt4 (List.mem_of_getElem? (i := 212) (by decide +kernel))) rfl
theorem wdX11_68 : (Jvm.Cond.fieldLink "SmellBurdensModel" (68 : Nat) "SmellBurdensModel" "worths" "[I") ∈ xG := xg (xt4 (List.mem_of_getElem? (i := 213) (by decide +kernel))) rfl
theorem wdX11_71 : (Jvm.Cond.fieldLink "SmellBurdensModel" (71 : Nat) "SmellBurdensModel" "then" "[I") ∈ xG := xg (xt4 (List.mem_of_getElem? (i := 214) (by decide +kernel))) rfl
theorem wdX11_74 : (Jvm.Cond.fieldLink "SmellBurdensModel" (74 : Nat) "SmellBurdensModel" "under" "J") ∈ xG := xg (xt4 (List.mem_of_getElem? (i := 185) (by decide +kernel))) rfl
def pX11_init_0 : List xE := [(0, 1, .aload_n 0, 0, 0, 0, []), (1, 3, .invokespecial 1, 0, 0, 1, []), (4, 1, .aload_n 0, 0, 0, 0, []), (5, 2, .bipush 6, 6, 0, 0, []), (7, 2, .newarray .int, 0, 0, 1, []), (9, 3, .putfield 7, 8, 4, 0, []), (12, 1, .aload_n 0, 0, 0, 0, []), (13, 2, .bipush 6, 6, 0, 0, []), (15, 2, .newarray .int, 0, 0, 1, []), (17, 3, .putfield 13, 8, 5, 0, []), (20, 1, .aload_n 0, 0, 0, 0, []), (21, 3, .sipush 240, 240, 0, 0, []), (24, 2, .newarray .int, 0, 0, 1, []), (26, 3, .putfield 16, 8, 6, 0, []), (29, 1, .aload_n 0, 0, 0, 0, []), (30, 1, .iconst 4, 4, 0, 0, []), (31, 2, .newarray .int, 0, 0, 1, []), (33, 3, .putfield 19, 8, 7, 0, []), (36, 1, .aload_n 0, 0, 0, 0, []), (37, 3, .sipush 240, 240, 0, 0, []), (40, 2, .newarray .int, 0, 0, 1, []), (42, 3, .putfield 22, 8, 8, 0, []), (45, 1, .aload_n 0, 0, 0, 0, []), (46, 2, .bipush 40, 40, 0, 0, []), (48, 2, .newarray .int, 0, 0, 1, []), (50, 3, .putfield 25, 8, 9, 0, []), (53, 1, .aload_n 0, 0, 0, 0, []), (54, 1, .iconst 5, 5, 0, 0, []), (55, 2, .newarray .int, 0, 0, 1, []), (57, 3, .putfield 28, 8, 12, 0, []), (60, 1, .aload_n 0, 0, 0, 0, []), (61, 1, .iconst 4, 4, 0, 0, []), (62, 2, .newarray .int, 0, 0, 1, []), (64, 3, .putfield 31, 8, 13, 0, []), (67, 1, .aload_n 0, 0, 0, 0, []), (68, 1, .iconst 5, 5, 0, 0, []), (69, 2, .newarray .int, 0, 0, 1, []), (71, 3, .putfield 34, 8, 14, 0, []), (74, 1, .aload_n 0, 0, 0, 0, []), (75, 2, .bipush 19, 19, 0, 0, []), (77, 2, .newarray .int, 0, 0, 1, []), (79, 3, .putfield 37, 8, 15, 0, []), (82, 1, .aload_n 0, 0, 0, 0, []), (83, 1, .iconst 4, 4, 0, 0, []), (84, 2, .newarray .int, 0, 0, 1, []), (86, 3, .putfield 40, 8, 16, 0, []), (89, 1, .aload_n 0, 0, 0, 0, []), (90, 2, .bipush 34, 34, 0, 0, []), (92, 2, .newarray .int, 0, 0, 1, []), (94, 3, .putfield 43, 8, 21, 0, []), (97, 1, .aload_n 0, 0, 0, 0, []), (98, 3, .sipush 760, 760, 0, 0, []), (101, 2, .newarray .int, 0, 0, 1, []), (103, 3, .putfield 46, 8, 23, 0, []), (106, 1, .aload_n 0, 0, 0, 0, []), (107, 1, .iconst 3, 3, 0, 0, []), (108, 2, .newarray .int, 0, 0, 1, []), (110, 3, .putfield 49, 8, 24, 0, []), (113, 1, .aload_n 0, 0, 0, 0, []), (114, 3, .sipush 2337, 2337, 0, 0, []), (117, 2, .newarray .int, 0, 0, 1, []), (119, 3, .putfield 52, 8, 25, 0, []), (122, 1, .aload_n 0, 0, 0, 0, []), (123, 2, .bipush 19, 19, 0, 0, []), (125, 2, .newarray .int, 0, 0, 1, []), (127, 3, .putfield 55, 8, 26, 0, []), (130, 1, .aload_n 0, 0, 0, 0, []), (131, 2, .bipush 61, 61, 0, 0, []), (133, 2, .newarray .long, 0, 0, 2, []), (135, 3, .putfield 58, 8, 27, 0, []), (138, 1, .aload_n 0, 0, 0, 0, []), (139, 1, .iconst 4, 4, 0, 0, []), (140, 2, .newarray .int, 0, 0, 1, []), (142, 3, .putfield 62, 8, 28, 0, []), (145, 1, .aload_n 0, 0, 0, 0, []), (146, 1, .iconst 4, 4, 0, 0, []), (147, 2, .newarray .int, 0, 0, 1, []), (149, 3, .putfield 65, 8, 29, 0, []), (152, 1, .aload_n 0, 0, 0, 0, []), (153, 2, .bipush 16, 16, 0, 0, [])]
def pX11_init_1 : List xE := [(155, 2, .newarray .int, 0, 0, 1, []), (157, 3, .putfield 68, 8, 30, 0, []), (160, 1, .aload_n 0, 0, 0, 0, []), (161, 2, .bipush 16, 16, 0, 0, []), (163, 2, .newarray .int, 0, 0, 1, []), (165, 3, .putfield 71, 8, 31, 0, []), (168, 1, .aload_n 0, 0, 0, 0, []), (169, 1, .lconst 1, 1, 0, 0, []), (170, 3, .putfield 74, 8, 2, 0, []), (173, 1, .iconst 0, 0, 0, 0, []), (174, 1, .istore_n 1, 1, 0, 0, []), (175, 1, .iload_n 1, 1, 0, 0, []), (176, 2, .bipush 6, 6, 0, 0, []), (178, 3, .if_icmp .ge 16, 194, 0, 0, []), (181, 1, .aload_n 0, 0, 0, 0, []), (182, 3, .getfield 13, 8, 5, 0, []), (185, 1, .iload_n 1, 1, 0, 0, []), (186, 1, .iconst (-1), 1, 0, 0, []), (187, 1, .iastore, 0, 0, 0, []), (188, 3, .iinc 1 1, 1, 1, 0, []), (191, 3, .goto (-16), 175, 0, 0, []), (194, 1, .iconst 0, 0, 0, 0, []), (195, 1, .istore_n 1, 1, 0, 0, []), (196, 1, .iload_n 1, 1, 0, 0, []), (197, 1, .iconst 4, 4, 0, 0, []), (198, 3, .if_icmp .ge 16, 214, 0, 0, []), (201, 1, .aload_n 0, 0, 0, 0, []), (202, 3, .getfield 19, 8, 7, 0, []), (205, 1, .iload_n 1, 1, 0, 0, []), (206, 1, .iconst (-1), 1, 0, 0, []), (207, 1, .iastore, 0, 0, 0, []), (208, 3, .iinc 1 1, 1, 1, 0, []), (211, 3, .goto (-15), 196, 0, 0, []), (214, 1, .iconst 0, 0, 0, 0, []), (215, 1, .istore_n 1, 1, 0, 0, []), (216, 1, .iload_n 1, 1, 0, 0, []), (217, 1, .iconst 3, 3, 0, 0, []), (218, 3, .if_icmp .ge 16, 234, 0, 0, []), (221, 1, .aload_n 0, 0, 0, 0, []), (222, 3, .getfield 49, 8, 24, 0, []), (225, 1, .iload_n 1, 1, 0, 0, []), (226, 1, .iconst (-1), 1, 0, 0, []), (227, 1, .iastore, 0, 0, 0, []), (228, 3, .iinc 1 1, 1, 1, 0, []), (231, 3, .goto (-15), 216, 0, 0, []), (234, 1, .return_, 0, 0, 0, [])]
def pX11_init : List xE := pX11_init_0 ++ (pX11_init_1)
def mX11_init : xM := (yX11_init, cX11_init, 2, (none : Option FieldType), 2, 0, 8, 1, 20, 21, pX11_init)
theorem dX11_init : xDec cX11_init pX11_init = true := by decide +kernel
theorem hX11_init : xHd mX11_init := ⟨xg (w := (Jvm.Cond.code ({ cls := "SmellBurdensModel", name := "<init>", desc := "()V" } : Jvm.MethodName) prog_13_method_3_code (2 : Nat) (Option.none : Option Jvm.ClassFile.FieldType))) (xt4 (List.mem_of_getElem? (i := 181) (by decide +kernel))) rfl, xg (w := (Jvm.Cond.initialized "SmellBurdensModel")) (xt1 (List.mem_of_getElem? (i := 10) (by decide +kernel))) rfl, ⟨by decide +kernel, by decide +kernel, by decide +kernel⟩, xg (w := (Jvm.Cond.instanceMethod ({ cls := "SmellBurdensModel", name := "<init>", desc := "()V" } : Jvm.MethodName))) (xt4 (List.mem_of_getElem? (i := 180) (by decide +kernel))) rfl, rfl, rfl⟩
theorem wdX11_78 : (Jvm.Cond.fieldLink "SmellBurdensModel" (78 : Nat) "SmellBurdensModel" "latest" "I") ∈ xG := xg (xt4 (List.mem_of_getElem? (i := 186) (by decide +kernel))) rfl
def pX11_finds : List xE := [(0, 1, .aload_n 0, 0, 0, 0, []), (1, 1, .iload_n 1, 1, 0, 0, []), (2, 3, .putfield 78, 8, 3, 0, []), (5, 1, .aload_n 0, 0, 0, 0, []), (6, 3, .getfield 7, 8, 4, 0, []), (9, 1, .iload_n 1, 1, 0, 0, []), (10, 1, .dup2, 0, 0, 0, []), (11, 1, .iaload, 0, 0, 0, []), (12, 1, .iconst 1, 1, 0, 0, []), (13, 1, .iadd, 0, 0, 0, []), (14, 1, .iastore, 0, 0, 0, []), (15, 2, .bipush (-3), 3, 0, 0, []), (17, 1, .ireturn, 0, 0, 0, [])]
def mX11_finds : xM := (yX11_finds, cX11_finds, 2, (some FieldType.int), 0, 1, 8, 0, 0, 0, pX11_finds)
theorem dX11_finds : xDec cX11_finds pX11_finds = true := by decide +kernel
theorem hX11_finds : xHd mX11_finds := ⟨xg (w := (Jvm.Cond.code ({ cls := "SmellBurdensModel", name := "finds", desc := "(I)I" } : Jvm.MethodName) prog_13_method_4_code (2 : Nat) (Option.some Jvm.ClassFile.FieldType.int))) (xt5 (List.mem_of_getElem? (i := 74) (by decide +kernel))) rfl, xg (w := (Jvm.Cond.initialized "SmellBurdensModel")) (xt1 (List.mem_of_getElem? (i := 10) (by decide +kernel))) rfl, ⟨by decide +kernel, by decide +kernel, by decide +kernel⟩, xg (w := (Jvm.Cond.instanceMethod ({ cls := "SmellBurdensModel", name := "finds", desc := "(I)I" } : Jvm.MethodName))) (xt5 (List.mem_of_getElem? (i := 73) (by decide +kernel))) rfl, xg (w := (Jvm.Cond.selects "SmellBurdensModel" ({ cls := "SmellBurdensModel", name := "finds", desc := "(I)I" } : Jvm.MethodName) ({ cls := "SmellBurdensModel", name := "finds", desc := "(I)I" } : Jvm.MethodName))) (xsl (List.mem_of_getElem? (i := 26) (by decide +kernel))) rfl, rfl⟩
theorem wdX11_82 : (Jvm.Cond.fieldLink "SmellBurdensModel" (82 : Nat) "SmellBurdensModel" "told" "I") ∈ xG := xg (xt4 (List.mem_of_getElem? (i := 183) (by decide +kernel))) rfl
def pX11_tells : List xE := [(0, 1, .aload_n 0, 0, 0, 0, []), (1, 1, .iload_n 1, 1, 0, 0, []), (2, 3, .putfield 82, 8, 0, 0, []), (5, 1, .iconst 1, 1, 0, 0, []), (6, 1, .ireturn, 0, 0, 0, [])]
def mX11_tells : xM := (yX11_tells, cX11_tells, 2, (some FieldType.int), 0, 1, 8, 0, 0, 0, pX11_tells)
theorem dX11_tells : xDec cX11_tells pX11_tells = true := by decide +kernel
theorem hX11_tells : xHd mX11_tells := ⟨xg (w := (Jvm.Cond.code ({ cls := "SmellBurdensModel", name := "tells", desc := "(I)I" } : Jvm.MethodName) prog_13_method_5_code (2 : Nat) (Option.some Jvm.ClassFile.FieldType.int))) (xt5 (List.mem_of_getElem? (i := 90) (by decide +kernel))) rfl, xg (w := (Jvm.Cond.initialized "SmellBurdensModel")) (xt1 (List.mem_of_getElem? (i := 10) (by decide +kernel))) rfl, ⟨by decide +kernel, by decide +kernel, by decide +kernel⟩, xg (w := (Jvm.Cond.instanceMethod ({ cls := "SmellBurdensModel", name := "tells", desc := "(I)I" } : Jvm.MethodName))) (xt5 (List.mem_of_getElem? (i := 89) (by decide +kernel))) rfl, xg (w := (Jvm.Cond.selects "SmellBurdensModel" ({ cls := "SmellBurdensModel", name := "tells", desc := "(I)I" } : Jvm.MethodName) ({ cls := "SmellBurdensModel", name := "tells", desc := "(I)I" } : Jvm.MethodName))) (xsl (List.mem_of_getElem? (i := 29) (by decide +kernel))) rfl, rfl⟩
def pX11_asked : List xE := [(0, 1, .aload_n 0, 0, 0, 0, []), (1, 3, .getfield 82, 8, 0, 0, []), (4, 1, .ireturn, 0, 0, 0, [])]
def mX11_asked : xM := (yX11_asked, cX11_asked, 1, (some FieldType.int), 0, 0, 8, 0, 0, 0, pX11_asked)
theorem dX11_asked : xDec cX11_asked pX11_asked = true := by decide +kernel
theorem hX11_asked : xHd mX11_asked := ⟨xg (w := (Jvm.Cond.code ({ cls := "SmellBurdensModel", name := "asked", desc := "()I" } : Jvm.MethodName) prog_13_method_6_code (1 : Nat) (Option.some Jvm.ClassFile.FieldType.int))) (xt5 (List.mem_of_getElem? (i := 43) (by decide +kernel))) rfl, xg (w := (Jvm.Cond.initialized "SmellBurdensModel")) (xt1 (List.mem_of_getElem? (i := 10) (by decide +kernel))) rfl, ⟨by decide +kernel, by decide +kernel, by decide +kernel⟩, xg (w := (Jvm.Cond.instanceMethod ({ cls := "SmellBurdensModel", name := "asked", desc := "()I" } : Jvm.MethodName))) (xt5 (List.mem_of_getElem? (i := 41) (by decide +kernel))) rfl, xg (w := (Jvm.Cond.selects "SmellBurdensModel" ({ cls := "SmellBurdensModel", name := "asked", desc := "()I" } : Jvm.MethodName) ({ cls := "SmellBurdensModel", name := "asked", desc := "()I" } : Jvm.MethodName))) (xt5 (List.mem_of_getElem? (i := 42) (by decide +kernel))) rfl, rfl⟩
theorem wdX11_85 : (Jvm.Cond.fieldLink "SmellBurdensModel" (85 : Nat) "SmellBurdensModel" "over" "J") ∈ xG := xg (xt4 (List.mem_of_getElem? (i := 184) (by decide +kernel))) rfl
def pX11_upper : List xE := [(0, 1, .aload_n 0, 0, 0, 0, []), (1, 3, .getfield 85, 8, 1, 0, []), (4, 1, .lreturn, 0, 0, 0, [])]
def mX11_upper : xM := (yX11_upper, cX11_upper, 1, (some FieldType.long), 0, 0, 8, 0, 0, 0, pX11_upper)
theorem dX11_upper : xDec cX11_upper pX11_upper = true := by decide +kernel
theorem hX11_upper : xHd mX11_upper := ⟨xg (w := (Jvm.Cond.code ({ cls := "SmellBurdensModel", name := "upper", desc := "()J" } : Jvm.MethodName) prog_13_method_7_code (1 : Nat) (Option.some Jvm.ClassFile.FieldType.long))) (xt5 (List.mem_of_getElem? (i := 47) (by decide +kernel))) rfl, xg (w := (Jvm.Cond.initialized "SmellBurdensModel")) (xt1 (List.mem_of_getElem? (i := 10) (by decide +kernel))) rfl, ⟨by decide +kernel, by decide +kernel, by decide +kernel⟩, xg (w := (Jvm.Cond.instanceMethod ({ cls := "SmellBurdensModel", name := "upper", desc := "()J" } : Jvm.MethodName))) (xt5 (List.mem_of_getElem? (i := 45) (by decide +kernel))) rfl, xg (w := (Jvm.Cond.selects "SmellBurdensModel" ({ cls := "SmellBurdensModel", name := "upper", desc := "()J" } : Jvm.MethodName) ({ cls := "SmellBurdensModel", name := "upper", desc := "()J" } : Jvm.MethodName))) (xt5 (List.mem_of_getElem? (i := 46) (by decide +kernel))) rfl, rfl⟩
def pX11_lower : List xE := [(0, 1, .aload_n 0, 0, 0, 0, []), (1, 3, .getfield 74, 8, 2, 0, []), (4, 1, .lreturn, 0, 0, 0, [])]
def mX11_lower : xM := (yX11_lower, cX11_lower, 1, (some FieldType.long), 0, 0, 8, 0, 0, 0, pX11_lower)
theorem dX11_lower : xDec cX11_lower pX11_lower = true := by decide +kernel
theorem hX11_lower : xHd mX11_lower := ⟨xg (w := (Jvm.Cond.code ({ cls := "SmellBurdensModel", name := "lower", desc := "()J" } : Jvm.MethodName) prog_13_method_8_code (1 : Nat) (Option.some Jvm.ClassFile.FieldType.long))) (xt5 (List.mem_of_getElem? (i := 51) (by decide +kernel))) rfl, xg (w := (Jvm.Cond.initialized "SmellBurdensModel")) (xt1 (List.mem_of_getElem? (i := 10) (by decide +kernel))) rfl, ⟨by decide +kernel, by decide +kernel, by decide +kernel⟩, xg (w := (Jvm.Cond.instanceMethod ({ cls := "SmellBurdensModel", name := "lower", desc := "()J" } : Jvm.MethodName))) (xt5 (List.mem_of_getElem? (i := 49) (by decide +kernel))) rfl, xg (w := (Jvm.Cond.selects "SmellBurdensModel" ({ cls := "SmellBurdensModel", name := "lower", desc := "()J" } : Jvm.MethodName) ({ cls := "SmellBurdensModel", name := "lower", desc := "()J" } : Jvm.MethodName))) (xt5 (List.mem_of_getElem? (i := 50) (by decide +kernel))) rfl, rfl⟩
def pX11_finding : List xE := [(0, 1, .aload_n 0, 0, 0, 0, []), (1, 3, .getfield 78, 8, 3, 0, []), (4, 1, .ireturn, 0, 0, 0, [])]
def mX11_finding : xM := (yX11_finding, cX11_finding, 1, (some FieldType.int), 0, 0, 8, 0, 0, 0, pX11_finding)
theorem dX11_finding : xDec cX11_finding pX11_finding = true := by decide +kernel
theorem hX11_finding : xHd mX11_finding := ⟨xg (w := (Jvm.Cond.code ({ cls := "SmellBurdensModel", name := "finding", desc := "()I" } : Jvm.MethodName) prog_13_method_9_code (1 : Nat) (Option.some Jvm.ClassFile.FieldType.int))) (xt5 (List.mem_of_getElem? (i := 55) (by decide +kernel))) rfl, xg (w := (Jvm.Cond.initialized "SmellBurdensModel")) (xt1 (List.mem_of_getElem? (i := 10) (by decide +kernel))) rfl, ⟨by decide +kernel, by decide +kernel, by decide +kernel⟩, xg (w := (Jvm.Cond.instanceMethod ({ cls := "SmellBurdensModel", name := "finding", desc := "()I" } : Jvm.MethodName))) (xt5 (List.mem_of_getElem? (i := 53) (by decide +kernel))) rfl, xg (w := (Jvm.Cond.selects "SmellBurdensModel" ({ cls := "SmellBurdensModel", name := "finding", desc := "()I" } : Jvm.MethodName) ({ cls := "SmellBurdensModel", name := "finding", desc := "()I" } : Jvm.MethodName))) (xt5 (List.mem_of_getElem? (i := 54) (by decide +kernel))) rfl, rfl⟩
theorem wdX11_88 : (Jvm.Cond.constantLong "SmellBurdensModel" (88 : Nat) (5 : Int64)) ∈ xG := xg (xt5 (List.mem_of_getElem? (i := 60) (by decide +kernel))) rfl
theorem wdX11_90 : (Jvm.Cond.methodLink "SmellBurdensModel" (90 : Nat) ({ cls := "SmellBurdensModel", name := "in", desc := "(JJJ)Z" } : Jvm.MethodName)) ∈ xG := xg (xt5 (List.mem_of_getElem? (i := 61) (by decide +kernel))) rfl
def pX11_findings : List xE := [(0, 1, .iload_n 1, 1, 0, 0, []), (1, 1, .i2l, 0, 0, 0, []), (2, 1, .lconst 1, 1, 0, 0, []), (3, 3, .ldc2_w 88, 5, 0, 0, []), (6, 3, .invokestatic 90, 0, 0, 0, []), (9, 3, .ifCond .eq 12, 21, 0, 0, []), (12, 1, .aload_n 0, 0, 0, 0, []), (13, 3, .getfield 7, 8, 4, 0, []), (16, 1, .iload_n 1, 1, 0, 0, []), (17, 1, .iaload, 0, 0, 0, []), (18, 3, .goto 4, 22, 0, 0, []), (21, 1, .iconst (-1), 1, 0, 0, []), (22, 1, .ireturn, 0, 0, 0, [])]
def mX11_findings : xM := (yX11_findings, cX11_findings, 2, (some FieldType.int), 0, 1, 8, 1, 25, 0, pX11_findings)
theorem dX11_findings : xDec cX11_findings pX11_findings = true := by decide +kernel
theorem hX11_findings : xHd mX11_findings := ⟨xg (w := (Jvm.Cond.code ({ cls := "SmellBurdensModel", name := "findings", desc := "(I)I" } : Jvm.MethodName) prog_13_method_10_code (2 : Nat) (Option.some Jvm.ClassFile.FieldType.int))) (xt5 (List.mem_of_getElem? (i := 59) (by decide +kernel))) rfl, xg (w := (Jvm.Cond.initialized "SmellBurdensModel")) (xt1 (List.mem_of_getElem? (i := 10) (by decide +kernel))) rfl, ⟨by decide +kernel, by decide +kernel, by decide +kernel⟩, xg (w := (Jvm.Cond.instanceMethod ({ cls := "SmellBurdensModel", name := "findings", desc := "(I)I" } : Jvm.MethodName))) (xt5 (List.mem_of_getElem? (i := 57) (by decide +kernel))) rfl, xg (w := (Jvm.Cond.selects "SmellBurdensModel" ({ cls := "SmellBurdensModel", name := "findings", desc := "(I)I" } : Jvm.MethodName) ({ cls := "SmellBurdensModel", name := "findings", desc := "(I)I" } : Jvm.MethodName))) (xt5 (List.mem_of_getElem? (i := 58) (by decide +kernel))) rfl, rfl⟩
def pX11_isRow : List xE := [(0, 1, .iload_n 0, 0, 0, 0, []), (1, 1, .i2l, 0, 0, 0, []), (2, 1, .lconst 0, 0, 0, 0, []), (3, 3, .ldc2_w 88, 5, 0, 0, []), (6, 3, .invokestatic 90, 0, 0, 0, []), (9, 1, .ireturn, 0, 0, 0, [])]
def mX11_isRow : xM := (yX11_isRow, cX11_isRow, 1, (some FieldType.boolean), 1, 1, 8, 1, 25, 0, pX11_isRow)
theorem dX11_isRow : xDec cX11_isRow pX11_isRow = true := by decide +kernel
theorem hX11_isRow : xHd mX11_isRow := ⟨xg (w := (Jvm.Cond.code ({ cls := "SmellBurdensModel", name := "isRow", desc := "(I)Z" } : Jvm.MethodName) prog_13_method_11_code (1 : Nat) (Option.some Jvm.ClassFile.FieldType.boolean))) (xt5 (List.mem_of_getElem? (i := 70) (by decide +kernel))) rfl, xg (w := (Jvm.Cond.initialized "SmellBurdensModel")) (xt1 (List.mem_of_getElem? (i := 10) (by decide +kernel))) rfl, ⟨by decide +kernel, by decide +kernel, by decide +kernel⟩, xg (w := (Jvm.Cond.static ({ cls := "SmellBurdensModel", name := "isRow", desc := "(I)Z" } : Jvm.MethodName))) (xt5 (List.mem_of_getElem? (i := 69) (by decide +kernel))) rfl⟩
theorem wdX11_94 : (Jvm.Cond.constantLong "SmellBurdensModel" (94 : Nat) (3 : Int64)) ∈ xG := xg (xt5 (List.mem_of_getElem? (i := 114) (by decide +kernel))) rfl
def pX11_isText : List xE := [(0, 1, .iload_n 0, 0, 0, 0, []), (1, 1, .i2l, 0, 0, 0, []), (2, 1, .lconst 0, 0, 0, 0, []), (3, 3, .ldc2_w 94, 3, 0, 0, []), (6, 3, .invokestatic 90, 0, 0, 0, []), (9, 1, .ireturn, 0, 0, 0, [])]
def mX11_isText : xM := (yX11_isText, cX11_isText, 1, (some FieldType.boolean), 1, 1, 8, 1, 25, 0, pX11_isText)
theorem dX11_isText : xDec cX11_isText pX11_isText = true := by decide +kernel
theorem hX11_isText : xHd mX11_isText := ⟨xg (w := (Jvm.Cond.code ({ cls := "SmellBurdensModel", name := "isText", desc := "(I)Z" } : Jvm.MethodName) prog_13_method_12_code (1 : Nat) (Option.some Jvm.ClassFile.FieldType.boolean))) (xt5 (List.mem_of_getElem? (i := 113) (by decide +kernel))) rfl, xg (w := (Jvm.Cond.initialized "SmellBurdensModel")) (xt1 (List.mem_of_getElem? (i := 10) (by decide +kernel))) rfl, ⟨by decide +kernel, by decide +kernel, by decide +kernel⟩, xg (w := (Jvm.Cond.static ({ cls := "SmellBurdensModel", name := "isText", desc := "(I)Z" } : Jvm.MethodName))) (xt5 (List.mem_of_getElem? (i := 112) (by decide +kernel))) rfl⟩
def pX11_fresh : List xE := [(0, 1, .aload_n 0, 0, 0, 0, []), (1, 3, .getfield 13, 8, 5, 0, []), (4, 1, .iload_n 1, 1, 0, 0, []), (5, 1, .iload_n 2, 2, 0, 0, []), (6, 1, .iastore, 0, 0, 0, []), (7, 1, .iconst 0, 0, 0, 0, []), (8, 1, .istore_n 3, 3, 0, 0, []), (9, 1, .iload_n 3, 3, 0, 0, []), (10, 2, .bipush 40, 40, 0, 0, []), (12, 3, .if_icmp .ge 21, 33, 0, 0, []), (15, 1, .aload_n 0, 0, 0, 0, []), (16, 3, .getfield 16, 8, 6, 0, []), (19, 2, .bipush 40, 40, 0, 0, []), (21, 1, .iload_n 1, 1, 0, 0, []), (22, 1, .imul, 0, 0, 0, []), (23, 1, .iload_n 3, 3, 0, 0, []), (24, 1, .iadd, 0, 0, 0, []), (25, 1, .iconst 0, 0, 0, 0, []), (26, 1, .iastore, 0, 0, 0, []), (27, 3, .iinc 3 1, 3, 1, 0, []), (30, 3, .goto (-21), 9, 0, 0, []), (33, 1, .return_, 0, 0, 0, [])]
def mX11_fresh : xM := (yX11_fresh, cX11_fresh, 4, (none : Option FieldType), 0, 2, 8, 0, 0, 0, pX11_fresh)
theorem dX11_fresh : xDec cX11_fresh pX11_fresh = true := by decide +kernel
theorem hX11_fresh : xHd mX11_fresh := ⟨xg (w := (Jvm.Cond.code ({ cls := "SmellBurdensModel", name := "fresh", desc := "(II)V" } : Jvm.MethodName) prog_13_method_13_code (4 : Nat) (Option.none : Option Jvm.ClassFile.FieldType))) (xt5 (List.mem_of_getElem? (i := 78) (by decide +kernel))) rfl, xg (w := (Jvm.Cond.initialized "SmellBurdensModel")) (xt1 (List.mem_of_getElem? (i := 10) (by decide +kernel))) rfl, ⟨by decide +kernel, by decide +kernel, by decide +kernel⟩, xg (w := (Jvm.Cond.instanceMethod ({ cls := "SmellBurdensModel", name := "fresh", desc := "(II)V" } : Jvm.MethodName))) (xt5 (List.mem_of_getElem? (i := 77) (by decide +kernel))) rfl, xg (w := (Jvm.Cond.selects "SmellBurdensModel" ({ cls := "SmellBurdensModel", name := "fresh", desc := "(II)V" } : Jvm.MethodName) ({ cls := "SmellBurdensModel", name := "fresh", desc := "(II)V" } : Jvm.MethodName))) (xsl (List.mem_of_getElem? (i := 27) (by decide +kernel))) rfl, rfl⟩
theorem wdX11_96 : (Jvm.Cond.methodLink "SmellBurdensModel" (96 : Nat) ({ cls := "SmellBurdensModel", name := "isRow", desc := "(I)Z" } : Jvm.MethodName)) ∈ xG := xg (xt5 (List.mem_of_getElem? (i := 68) (by decide +kernel))) rfl
theorem wdX11_100 : (Jvm.Cond.methodLink "SmellBurdensModel" (100 : Nat) ({ cls := "SmellBurdensModel", name := "finds", desc := "(I)I" } : Jvm.MethodName)) ∈ xG := xg (xt5 (List.mem_of_getElem? (i := 71) (by decide +kernel))) rfl
theorem wdX11_104 : (Jvm.Cond.methodLink "SmellBurdensModel" (104 : Nat) ({ cls := "SmellBurdensModel", name := "fresh", desc := "(II)V" } : Jvm.MethodName)) ∈ xG := xg (xt5 (List.mem_of_getElem? (i := 75) (by decide +kernel))) rfl
def pX11_row : List xE := [(0, 1, .iload_n 1, 1, 0, 0, []), (1, 3, .invokestatic 96, 0, 0, 0, []), (4, 3, .ifCond .eq 9, 13, 0, 0, []), (7, 1, .iload_n 2, 2, 0, 0, []), (8, 2, .bipush 40, 40, 0, 0, []), (10, 3, .if_icmp .le 5, 15, 0, 0, []), (13, 1, .iconst (-1), 1, 0, 0, []), (14, 1, .ireturn, 0, 0, 0, []), (15, 1, .iload_n 2, 2, 0, 0, []), (16, 3, .ifCond .ge 9, 25, 0, 0, []), (19, 1, .aload_n 0, 0, 0, 0, []), (20, 1, .iconst 5, 5, 0, 0, []), (21, 3, .invokevirtual 100, 1, 0, 0, []), (24, 1, .ireturn, 0, 0, 0, []), (25, 1, .aload_n 0, 0, 0, 0, []), (26, 1, .iload_n 1, 1, 0, 0, []), (27, 1, .iload_n 2, 2, 0, 0, []), (28, 3, .invokevirtual 104, 2, 0, 0, []), (31, 1, .iload_n 2, 2, 0, 0, []), (32, 1, .ireturn, 0, 0, 0, [])]
def mX11_row : xM := (yX11_row, cX11_row, 3, (some FieldType.int), 0, 2, 8, 2, 45, 0, pX11_row)
theorem dX11_row : xDec cX11_row pX11_row = true := by decide +kernel
theorem hX11_row : xHd mX11_row := ⟨xg (w := (Jvm.Cond.code ({ cls := "SmellBurdensModel", name := "row", desc := "(II)I" } : Jvm.MethodName) prog_13_method_14_code (3 : Nat) (Option.some Jvm.ClassFile.FieldType.int))) (xt5 (List.mem_of_getElem? (i := 67) (by decide +kernel))) rfl, xg (w := (Jvm.Cond.initialized "SmellBurdensModel")) (xt1 (List.mem_of_getElem? (i := 10) (by decide +kernel))) rfl, ⟨by decide +kernel, by decide +kernel, by decide +kernel⟩, xg (w := (Jvm.Cond.instanceMethod ({ cls := "SmellBurdensModel", name := "row", desc := "(II)I" } : Jvm.MethodName))) (xt5 (List.mem_of_getElem? (i := 65) (by decide +kernel))) rfl, xg (w := (Jvm.Cond.selects "SmellBurdensModel" ({ cls := "SmellBurdensModel", name := "row", desc := "(II)I" } : Jvm.MethodName) ({ cls := "SmellBurdensModel", name := "row", desc := "(II)I" } : Jvm.MethodName))) (xt5 (List.mem_of_getElem? (i := 66) (by decide +kernel))) rfl, rfl⟩
def pX11_whyPlace : List xE := [(0, 1, .iload_n 1, 1, 0, 0, []), (1, 3, .invokestatic 96, 0, 0, 0, []), (4, 3, .ifCond .ne 7, 11, 0, 0, []), (7, 1, .iconst (-1), 1, 0, 0, []), (8, 3, .goto 47, 55, 0, 0, []), (11, 1, .aload_n 0, 0, 0, 0, []), (12, 3, .getfield 13, 8, 5, 0, []), (15, 1, .iload_n 1, 1, 0, 0, []), (16, 1, .iaload, 0, 0, 0, []), (17, 3, .ifCond .ge 11, 28, 0, 0, []), (20, 1, .aload_n 0, 0, 0, 0, []), (21, 1, .iconst 1, 1, 0, 0, []), (22, 3, .invokevirtual 100, 1, 0, 0, []), (25, 3, .goto 30, 55, 0, 0, []), (28, 1, .iload_n 2, 2, 0, 0, []), (29, 1, .i2l, 0, 0, 0, []), (30, 1, .lconst 0, 0, 0, 0, []), (31, 1, .aload_n 0, 0, 0, 0, []), (32, 3, .getfield 13, 8, 5, 0, []), (35, 1, .iload_n 1, 1, 0, 0, []), (36, 1, .iaload, 0, 0, 0, []), (37, 1, .iconst 1, 1, 0, 0, []), (38, 1, .isub, 0, 0, 0, []), (39, 1, .i2l, 0, 0, 0, []), (40, 3, .invokestatic 90, 2, 0, 0, []), (43, 3, .ifCond .ne 11, 54, 0, 0, []), (46, 1, .aload_n 0, 0, 0, 0, []), (47, 1, .iconst 2, 2, 0, 0, []), (48, 3, .invokevirtual 100, 1, 0, 0, []), (51, 3, .goto 4, 55, 0, 0, []), (54, 1, .iconst 0, 0, 0, 0, []), (55, 1, .ireturn, 0, 0, 0, [])]
def mX11_whyPlace : xM := (yX11_whyPlace, cX11_whyPlace, 3, (some FieldType.int), 0, 2, 8, 2, 45, 0, pX11_whyPlace)
theorem dX11_whyPlace : xDec cX11_whyPlace pX11_whyPlace = true := by decide +kernel
theorem hX11_whyPlace : xHd mX11_whyPlace := ⟨xg (w := (Jvm.Cond.code ({ cls := "SmellBurdensModel", name := "whyPlace", desc := "(II)I" } : Jvm.MethodName) prog_13_method_15_code (3 : Nat) (Option.some Jvm.ClassFile.FieldType.int))) (xt5 (List.mem_of_getElem? (i := 86) (by decide +kernel))) rfl, xg (w := (Jvm.Cond.initialized "SmellBurdensModel")) (xt1 (List.mem_of_getElem? (i := 10) (by decide +kernel))) rfl, ⟨by decide +kernel, by decide +kernel, by decide +kernel⟩, xg (w := (Jvm.Cond.instanceMethod ({ cls := "SmellBurdensModel", name := "whyPlace", desc := "(II)I" } : Jvm.MethodName))) (xt5 (List.mem_of_getElem? (i := 85) (by decide +kernel))) rfl, xg (w := (Jvm.Cond.selects "SmellBurdensModel" ({ cls := "SmellBurdensModel", name := "whyPlace", desc := "(II)I" } : Jvm.MethodName) ({ cls := "SmellBurdensModel", name := "whyPlace", desc := "(II)I" } : Jvm.MethodName))) (xsl (List.mem_of_getElem? (i := 28) (by decide +kernel))) rfl, rfl⟩
theorem wdX11_108 : (Jvm.Cond.methodLink "SmellBurdensModel" (108 : Nat) ({ cls := "SmellBurdensModel", name := "whyPlace", desc := "(II)I" } : Jvm.MethodName)) ∈ xG := xg (xt5 (List.mem_of_getElem? (i := 83) (by decide +kernel))) rfl
theorem wdX11_112 : (Jvm.Cond.methodLink "SmellBurdensModel" (112 : Nat) ({ cls := "SmellBurdensModel", name := "tells", desc := "(I)I" } : Jvm.MethodName)) ∈ xG := xg (xt5 (List.mem_of_getElem? (i := 87) (by decide +kernel))) rfl
def pX11_lay : List xE := [(0, 1, .aload_n 0, 0, 0, 0, []), (1, 1, .iload_n 1, 1, 0, 0, []), (2, 1, .iload_n 2, 2, 0, 0, []), (3, 3, .invokevirtual 108, 0, 0, 0, []), (6, 2, .istore 4, 4, 0, 0, []), (8, 2, .iload 4, 4, 0, 0, []), (10, 3, .ifCond .ge 6, 16, 0, 0, []), (13, 2, .iload 4, 4, 0, 0, []), (15, 1, .ireturn, 0, 0, 0, []), (16, 1, .aload_n 0, 0, 0, 0, []), (17, 3, .getfield 16, 8, 6, 0, []), (20, 2, .bipush 40, 40, 0, 0, []), (22, 1, .iload_n 1, 1, 0, 0, []), (23, 1, .imul, 0, 0, 0, []), (24, 1, .iload_n 2, 2, 0, 0, []), (25, 1, .iadd, 0, 0, 0, []), (26, 1, .iaload, 0, 0, 0, []), (27, 2, .istore 5, 5, 0, 0, []), (29, 1, .aload_n 0, 0, 0, 0, []), (30, 3, .getfield 16, 8, 6, 0, []), (33, 2, .bipush 40, 40, 0, 0, []), (35, 1, .iload_n 1, 1, 0, 0, []), (36, 1, .imul, 0, 0, 0, []), (37, 1, .iload_n 2, 2, 0, 0, []), (38, 1, .iadd, 0, 0, 0, []), (39, 1, .iload_n 3, 3, 0, 0, []), (40, 1, .iastore, 0, 0, 0, []), (41, 1, .aload_n 0, 0, 0, 0, []), (42, 2, .iload 5, 5, 0, 0, []), (44, 3, .invokevirtual 112, 1, 0, 0, []), (47, 1, .ireturn, 0, 0, 0, [])]
def mX11_lay : xM := (yX11_lay, cX11_lay, 6, (some FieldType.int), 0, 3, 8, 3, 67, 0, pX11_lay)
theorem dX11_lay : xDec cX11_lay pX11_lay = true := by decide +kernel
theorem hX11_lay : xHd mX11_lay := ⟨xg (w := (Jvm.Cond.code ({ cls := "SmellBurdensModel", name := "lay", desc := "(III)I" } : Jvm.MethodName) prog_13_method_16_code (6 : Nat) (Option.some Jvm.ClassFile.FieldType.int))) (xt5 (List.mem_of_getElem? (i := 82) (by decide +kernel))) rfl, xg (w := (Jvm.Cond.initialized "SmellBurdensModel")) (xt1 (List.mem_of_getElem? (i := 10) (by decide +kernel))) rfl, ⟨by decide +kernel, by decide +kernel, by decide +kernel⟩, xg (w := (Jvm.Cond.instanceMethod ({ cls := "SmellBurdensModel", name := "lay", desc := "(III)I" } : Jvm.MethodName))) (xt5 (List.mem_of_getElem? (i := 80) (by decide +kernel))) rfl, xg (w := (Jvm.Cond.selects "SmellBurdensModel" ({ cls := "SmellBurdensModel", name := "lay", desc := "(III)I" } : Jvm.MethodName) ({ cls := "SmellBurdensModel", name := "lay", desc := "(III)I" } : Jvm.MethodName))) (xt5 (List.mem_of_getElem? (i := 81) (by decide +kernel))) rfl, rfl⟩
def pX11_at : List xE := [(0, 1, .aload_n 0, 0, 0, 0, []), (1, 1, .iload_n 1, 1, 0, 0, []), (2, 1, .iload_n 2, 2, 0, 0, []), (3, 3, .invokevirtual 108, 0, 0, 0, []), (6, 1, .istore_n 3, 3, 0, 0, []), (7, 1, .iload_n 3, 3, 0, 0, []), (8, 3, .ifCond .ge 7, 15, 0, 0, []), (11, 1, .iload_n 3, 3, 0, 0, []), (12, 3, .goto 18, 30, 0, 0, []), (15, 1, .aload_n 0, 0, 0, 0, []), (16, 1, .aload_n 0, 0, 0, 0, []), (17, 3, .getfield 16, 8, 6, 0, []), (20, 2, .bipush 40, 40, 0, 0, []), (22, 1, .iload_n 1, 1, 0, 0, []), (23, 1, .imul, 0, 0, 0, []), (24, 1, .iload_n 2, 2, 0, 0, []), (25, 1, .iadd, 0, 0, 0, []), (26, 1, .iaload, 0, 0, 0, []), (27, 3, .invokevirtual 112, 1, 0, 0, []), (30, 1, .ireturn, 0, 0, 0, [])]
def mX11_at : xM := (yX11_at, cX11_at, 4, (some FieldType.int), 0, 2, 8, 3, 67, 0, pX11_at)
theorem dX11_at : xDec cX11_at pX11_at = true := by decide +kernel
theorem hX11_at : xHd mX11_at := ⟨xg (w := (Jvm.Cond.code ({ cls := "SmellBurdensModel", name := "at", desc := "(II)I" } : Jvm.MethodName) prog_13_method_17_code (4 : Nat) (Option.some Jvm.ClassFile.FieldType.int))) (xt5 (List.mem_of_getElem? (i := 94) (by decide +kernel))) rfl, xg (w := (Jvm.Cond.initialized "SmellBurdensModel")) (xt1 (List.mem_of_getElem? (i := 10) (by decide +kernel))) rfl, ⟨by decide +kernel, by decide +kernel, by decide +kernel⟩, xg (w := (Jvm.Cond.instanceMethod ({ cls := "SmellBurdensModel", name := "at", desc := "(II)I" } : Jvm.MethodName))) (xt5 (List.mem_of_getElem? (i := 92) (by decide +kernel))) rfl, xg (w := (Jvm.Cond.selects "SmellBurdensModel" ({ cls := "SmellBurdensModel", name := "at", desc := "(II)I" } : Jvm.MethodName) ({ cls := "SmellBurdensModel", name := "at", desc := "(II)I" } : Jvm.MethodName))) (xt5 (List.mem_of_getElem? (i := 93) (by decide +kernel))) rfl, rfl⟩
def pX11_tear : List xE := [(0, 1, .iload_n 1, 1, 0, 0, []), (1, 3, .invokestatic 96, 0, 0, 0, []), (4, 3, .ifCond .ne 5, 9, 0, 0, []), (7, 1, .iconst (-1), 1, 0, 0, []), (8, 1, .ireturn, 0, 0, 0, []), (9, 1, .aload_n 0, 0, 0, 0, []), (10, 3, .getfield 13, 8, 5, 0, []), (13, 1, .iload_n 1, 1, 0, 0, []), (14, 1, .iaload, 0, 0, 0, []), (15, 3, .ifCond .ge 9, 24, 0, 0, []), (18, 1, .aload_n 0, 0, 0, 0, []), (19, 1, .iconst 1, 1, 0, 0, []), (20, 3, .invokevirtual 100, 1, 0, 0, []), (23, 1, .ireturn, 0, 0, 0, []), (24, 1, .aload_n 0, 0, 0, 0, []), (25, 3, .getfield 13, 8, 5, 0, []), (28, 1, .iload_n 1, 1, 0, 0, []), (29, 1, .iconst (-1), 1, 0, 0, []), (30, 1, .iastore, 0, 0, 0, []), (31, 1, .iconst 1, 1, 0, 0, []), (32, 1, .ireturn, 0, 0, 0, [])]
def mX11_tear : xM := (yX11_tear, cX11_tear, 2, (some FieldType.int), 0, 1, 8, 2, 45, 0, pX11_tear)
theorem dX11_tear : xDec cX11_tear pX11_tear = true := by decide +kernel
theorem hX11_tear : xHd mX11_tear := ⟨xg (w := (Jvm.Cond.code ({ cls := "SmellBurdensModel", name := "tear", desc := "(I)I" } : Jvm.MethodName) prog_13_method_18_code (2 : Nat) (Option.some Jvm.ClassFile.FieldType.int))) (xt5 (List.mem_of_getElem? (i := 98) (by decide +kernel))) rfl, xg (w := (Jvm.Cond.initialized "SmellBurdensModel")) (xt1 (List.mem_of_getElem? (i := 10) (by decide +kernel))) rfl, ⟨by decide +kernel, by decide +kernel, by decide +kernel⟩, xg (w := (Jvm.Cond.instanceMethod ({ cls := "SmellBurdensModel", name := "tear", desc := "(I)I" } : Jvm.MethodName))) (xt5 (List.mem_of_getElem? (i := 96) (by decide +kernel))) rfl, xg (w := (Jvm.Cond.selects "SmellBurdensModel" ({ cls := "SmellBurdensModel", name := "tear", desc := "(I)I" } : Jvm.MethodName) ({ cls := "SmellBurdensModel", name := "tear", desc := "(I)I" } : Jvm.MethodName))) (xt5 (List.mem_of_getElem? (i := 97) (by decide +kernel))) rfl, rfl⟩
def pX11_copy_0 : List xE := [(0, 1, .iload_n 1, 1, 0, 0, []), (1, 3, .invokestatic 96, 0, 0, 0, []), (4, 3, .ifCond .eq 10, 14, 0, 0, []), (7, 1, .iload_n 3, 3, 0, 0, []), (8, 3, .invokestatic 96, 0, 0, 0, []), (11, 3, .ifCond .ne 5, 16, 0, 0, []), (14, 1, .iconst (-1), 1, 0, 0, []), (15, 1, .ireturn, 0, 0, 0, []), (16, 2, .iload 5, 5, 0, 0, []), (18, 3, .ifCond .ge 9, 27, 0, 0, []), (21, 1, .aload_n 0, 0, 0, 0, []), (22, 1, .iconst 5, 5, 0, 0, []), (23, 3, .invokevirtual 100, 1, 0, 0, []), (26, 1, .ireturn, 0, 0, 0, []), (27, 1, .aload_n 0, 0, 0, 0, []), (28, 3, .getfield 13, 8, 5, 0, []), (31, 1, .iload_n 1, 1, 0, 0, []), (32, 1, .iaload, 0, 0, 0, []), (33, 3, .ifCond .lt 12, 45, 0, 0, []), (36, 1, .aload_n 0, 0, 0, 0, []), (37, 3, .getfield 13, 8, 5, 0, []), (40, 1, .iload_n 3, 3, 0, 0, []), (41, 1, .iaload, 0, 0, 0, []), (42, 3, .ifCond .ge 9, 51, 0, 0, []), (45, 1, .aload_n 0, 0, 0, 0, []), (46, 1, .iconst 1, 1, 0, 0, []), (47, 3, .invokevirtual 100, 1, 0, 0, []), (50, 1, .ireturn, 0, 0, 0, []), (51, 1, .iload_n 2, 2, 0, 0, []), (52, 3, .ifCond .lt 43, 95, 0, 0, []), (55, 2, .iload 4, 4, 0, 0, []), (57, 3, .ifCond .lt 38, 95, 0, 0, []), (60, 1, .iload_n 2, 2, 0, 0, []), (61, 1, .i2l, 0, 0, 0, []), (62, 2, .iload 5, 5, 0, 0, []), (64, 1, .i2l, 0, 0, 0, []), (65, 1, .ladd, 0, 0, 0, []), (66, 1, .aload_n 0, 0, 0, 0, []), (67, 3, .getfield 13, 8, 5, 0, []), (70, 1, .iload_n 1, 1, 0, 0, []), (71, 1, .iaload, 0, 0, 0, []), (72, 1, .i2l, 0, 0, 0, []), (73, 1, .lcmp, 0, 0, 0, []), (74, 3, .ifCond .gt 21, 95, 0, 0, []), (77, 2, .iload 4, 4, 0, 0, []), (79, 1, .i2l, 0, 0, 0, []), (80, 2, .iload 5, 5, 0, 0, []), (82, 1, .i2l, 0, 0, 0, []), (83, 1, .ladd, 0, 0, 0, []), (84, 1, .aload_n 0, 0, 0, 0, []), (85, 3, .getfield 13, 8, 5, 0, []), (88, 1, .iload_n 3, 3, 0, 0, []), (89, 1, .iaload, 0, 0, 0, []), (90, 1, .i2l, 0, 0, 0, []), (91, 1, .lcmp, 0, 0, 0, []), (92, 3, .ifCond .le 9, 101, 0, 0, []), (95, 1, .aload_n 0, 0, 0, 0, []), (96, 1, .iconst 2, 2, 0, 0, []), (97, 3, .invokevirtual 100, 1, 0, 0, []), (100, 1, .ireturn, 0, 0, 0, []), (101, 1, .iconst 0, 0, 0, 0, []), (102, 2, .istore 6, 6, 0, 0, []), (104, 2, .iload 6, 6, 0, 0, []), (106, 2, .iload 5, 5, 0, 0, []), (108, 3, .if_icmp .ge 30, 138, 0, 0, []), (111, 1, .aload_n 0, 0, 0, 0, []), (112, 3, .getfield 25, 8, 9, 0, []), (115, 2, .iload 6, 6, 0, 0, []), (117, 1, .aload_n 0, 0, 0, 0, []), (118, 3, .getfield 16, 8, 6, 0, []), (121, 2, .bipush 40, 40, 0, 0, []), (123, 1, .iload_n 1, 1, 0, 0, []), (124, 1, .imul, 0, 0, 0, []), (125, 1, .iload_n 2, 2, 0, 0, []), (126, 1, .iadd, 0, 0, 0, []), (127, 2, .iload 6, 6, 0, 0, []), (129, 1, .iadd, 0, 0, 0, []), (130, 1, .iaload, 0, 0, 0, []), (131, 1, .iastore, 0, 0, 0, []), (132, 3, .iinc 6 1, 6, 1, 0, [])]
def pX11_copy_1 : List xE := [(135, 3, .goto (-31), 104, 0, 0, []), (138, 1, .iconst 0, 0, 0, 0, []), (139, 2, .istore 6, 6, 0, 0, []), (141, 2, .iload 6, 6, 0, 0, []), (143, 2, .iload 5, 5, 0, 0, []), (145, 3, .if_icmp .ge 31, 176, 0, 0, []), (148, 1, .aload_n 0, 0, 0, 0, []), (149, 3, .getfield 16, 8, 6, 0, []), (152, 2, .bipush 40, 40, 0, 0, []), (154, 1, .iload_n 3, 3, 0, 0, []), (155, 1, .imul, 0, 0, 0, []), (156, 2, .iload 4, 4, 0, 0, []), (158, 1, .iadd, 0, 0, 0, []), (159, 2, .iload 6, 6, 0, 0, []), (161, 1, .iadd, 0, 0, 0, []), (162, 1, .aload_n 0, 0, 0, 0, []), (163, 3, .getfield 25, 8, 9, 0, []), (166, 2, .iload 6, 6, 0, 0, []), (168, 1, .iaload, 0, 0, 0, []), (169, 1, .iastore, 0, 0, 0, []), (170, 3, .iinc 6 1, 6, 1, 0, []), (173, 3, .goto (-32), 141, 0, 0, []), (176, 1, .iconst 1, 1, 0, 0, []), (177, 1, .ireturn, 0, 0, 0, [])]
def pX11_copy : List xE := pX11_copy_0 ++ (pX11_copy_1)
def mX11_copy : xM := (yX11_copy, cX11_copy, 7, (some FieldType.int), 0, 5, 8, 2, 45, 0, pX11_copy)
theorem dX11_copy : xDec cX11_copy pX11_copy = true := by decide +kernel
theorem hX11_copy : xHd mX11_copy := ⟨xg (w := (Jvm.Cond.code ({ cls := "SmellBurdensModel", name := "copy", desc := "(IIIII)I" } : Jvm.MethodName) prog_13_method_19_code (7 : Nat) (Option.some Jvm.ClassFile.FieldType.int))) (xt5 (List.mem_of_getElem? (i := 102) (by decide +kernel))) rfl, xg (w := (Jvm.Cond.initialized "SmellBurdensModel")) (xt1 (List.mem_of_getElem? (i := 10) (by decide +kernel))) rfl, ⟨by decide +kernel, by decide +kernel, by decide +kernel⟩, xg (w := (Jvm.Cond.instanceMethod ({ cls := "SmellBurdensModel", name := "copy", desc := "(IIIII)I" } : Jvm.MethodName))) (xt5 (List.mem_of_getElem? (i := 100) (by decide +kernel))) rfl, xg (w := (Jvm.Cond.selects "SmellBurdensModel" ({ cls := "SmellBurdensModel", name := "copy", desc := "(IIIII)I" } : Jvm.MethodName) ({ cls := "SmellBurdensModel", name := "copy", desc := "(IIIII)I" } : Jvm.MethodName))) (xt5 (List.mem_of_getElem? (i := 101) (by decide +kernel))) rfl, rfl⟩
def pX11_mean : List xE := [(0, 1, .iload_n 1, 1, 0, 0, []), (1, 3, .invokestatic 96, 0, 0, 0, []), (4, 3, .ifCond .ne 5, 9, 0, 0, []), (7, 1, .iconst (-1), 1, 0, 0, []), (8, 1, .ireturn, 0, 0, 0, []), (9, 1, .aload_n 0, 0, 0, 0, []), (10, 3, .getfield 13, 8, 5, 0, []), (13, 1, .iload_n 1, 1, 0, 0, []), (14, 1, .iaload, 0, 0, 0, []), (15, 3, .ifCond .ge 9, 24, 0, 0, []), (18, 1, .aload_n 0, 0, 0, 0, []), (19, 1, .iconst 1, 1, 0, 0, []), (20, 3, .invokevirtual 100, 1, 0, 0, []), (23, 1, .ireturn, 0, 0, 0, []), (24, 1, .aload_n 0, 0, 0, 0, []), (25, 3, .getfield 13, 8, 5, 0, []), (28, 1, .iload_n 1, 1, 0, 0, []), (29, 1, .iaload, 0, 0, 0, []), (30, 3, .ifCond .ne 9, 39, 0, 0, []), (33, 1, .aload_n 0, 0, 0, 0, []), (34, 1, .iconst 4, 4, 0, 0, []), (35, 3, .invokevirtual 100, 1, 0, 0, []), (38, 1, .ireturn, 0, 0, 0, []), (39, 1, .lconst 0, 0, 0, 0, []), (40, 1, .lstore_n 2, 2, 0, 0, []), (41, 1, .iconst 0, 0, 0, 0, []), (42, 2, .istore 4, 4, 0, 0, []), (44, 2, .iload 4, 4, 0, 0, []), (46, 1, .aload_n 0, 0, 0, 0, []), (47, 3, .getfield 13, 8, 5, 0, []), (50, 1, .iload_n 1, 1, 0, 0, []), (51, 1, .iaload, 0, 0, 0, []), (52, 3, .if_icmp .ge 25, 77, 0, 0, []), (55, 1, .lload_n 2, 2, 0, 0, []), (56, 1, .aload_n 0, 0, 0, 0, []), (57, 3, .getfield 16, 8, 6, 0, []), (60, 2, .bipush 40, 40, 0, 0, []), (62, 1, .iload_n 1, 1, 0, 0, []), (63, 1, .imul, 0, 0, 0, []), (64, 2, .iload 4, 4, 0, 0, []), (66, 1, .iadd, 0, 0, 0, []), (67, 1, .iaload, 0, 0, 0, []), (68, 1, .i2l, 0, 0, 0, []), (69, 1, .ladd, 0, 0, 0, []), (70, 1, .lstore_n 2, 2, 0, 0, []), (71, 3, .iinc 4 1, 4, 1, 0, []), (74, 3, .goto (-30), 44, 0, 0, []), (77, 1, .aload_n 0, 0, 0, 0, []), (78, 1, .lload_n 2, 2, 0, 0, []), (79, 1, .aload_n 0, 0, 0, 0, []), (80, 3, .getfield 13, 8, 5, 0, []), (83, 1, .iload_n 1, 1, 0, 0, []), (84, 1, .iaload, 0, 0, 0, []), (85, 1, .i2l, 0, 0, 0, []), (86, 1, .ldiv, 0, 0, 0, []), (87, 1, .l2i, 0, 0, 0, []), (88, 3, .invokevirtual 112, 2, 0, 0, []), (91, 1, .ireturn, 0, 0, 0, [])]
def mX11_mean : xM := (yX11_mean, cX11_mean, 5, (some FieldType.int), 0, 1, 8, 2, 45, 0, pX11_mean)
theorem dX11_mean : xDec cX11_mean pX11_mean = true := by decide +kernel
theorem hX11_mean : xHd mX11_mean := ⟨xg (w := (Jvm.Cond.code ({ cls := "SmellBurdensModel", name := "mean", desc := "(I)I" } : Jvm.MethodName) prog_13_method_20_code (5 : Nat) (Option.some Jvm.ClassFile.FieldType.int))) (xt5 (List.mem_of_getElem? (i := 106) (by decide +kernel))) rfl, xg (w := (Jvm.Cond.initialized "SmellBurdensModel")) (xt1 (List.mem_of_getElem? (i := 10) (by decide +kernel))) rfl, ⟨by decide +kernel, by decide +kernel, by decide +kernel⟩, xg (w := (Jvm.Cond.instanceMethod ({ cls := "SmellBurdensModel", name := "mean", desc := "(I)I" } : Jvm.MethodName))) (xt5 (List.mem_of_getElem? (i := 104) (by decide +kernel))) rfl, xg (w := (Jvm.Cond.selects "SmellBurdensModel" ({ cls := "SmellBurdensModel", name := "mean", desc := "(I)I" } : Jvm.MethodName) ({ cls := "SmellBurdensModel", name := "mean", desc := "(I)I" } : Jvm.MethodName))) (xt5 (List.mem_of_getElem? (i := 105) (by decide +kernel))) rfl, rfl⟩
theorem wdX11_115 : (Jvm.Cond.methodLink "SmellBurdensModel" (115 : Nat) ({ cls := "SmellBurdensModel", name := "isText", desc := "(I)Z" } : Jvm.MethodName)) ∈ xG := xg (xt5 (List.mem_of_getElem? (i := 111) (by decide +kernel))) rfl
def pX11_text : List xE := [(0, 1, .iload_n 1, 1, 0, 0, []), (1, 3, .invokestatic 115, 0, 0, 0, []), (4, 3, .ifCond .eq 9, 13, 0, 0, []), (7, 1, .iload_n 2, 2, 0, 0, []), (8, 2, .bipush 60, 60, 0, 0, []), (10, 3, .if_icmp .le 5, 15, 0, 0, []), (13, 1, .iconst (-1), 1, 0, 0, []), (14, 1, .ireturn, 0, 0, 0, []), (15, 1, .iload_n 2, 2, 0, 0, []), (16, 3, .ifCond .ge 9, 25, 0, 0, []), (19, 1, .aload_n 0, 0, 0, 0, []), (20, 1, .iconst 5, 5, 0, 0, []), (21, 3, .invokevirtual 100, 1, 0, 0, []), (24, 1, .ireturn, 0, 0, 0, []), (25, 1, .aload_n 0, 0, 0, 0, []), (26, 3, .getfield 19, 8, 7, 0, []), (29, 1, .iload_n 1, 1, 0, 0, []), (30, 1, .iload_n 2, 2, 0, 0, []), (31, 1, .iastore, 0, 0, 0, []), (32, 1, .iconst 0, 0, 0, 0, []), (33, 1, .istore_n 3, 3, 0, 0, []), (34, 1, .iload_n 3, 3, 0, 0, []), (35, 2, .bipush 60, 60, 0, 0, []), (37, 3, .if_icmp .ge 22, 59, 0, 0, []), (40, 1, .aload_n 0, 0, 0, 0, []), (41, 3, .getfield 22, 8, 8, 0, []), (44, 2, .bipush 60, 60, 0, 0, []), (46, 1, .iload_n 1, 1, 0, 0, []), (47, 1, .imul, 0, 0, 0, []), (48, 1, .iload_n 3, 3, 0, 0, []), (49, 1, .iadd, 0, 0, 0, []), (50, 2, .bipush 32, 32, 0, 0, []), (52, 1, .iastore, 0, 0, 0, []), (53, 3, .iinc 3 1, 3, 1, 0, []), (56, 3, .goto (-22), 34, 0, 0, []), (59, 1, .iload_n 2, 2, 0, 0, []), (60, 1, .ireturn, 0, 0, 0, [])]
def mX11_text : xM := (yX11_text, cX11_text, 4, (some FieldType.int), 0, 2, 8, 2, 45, 0, pX11_text)
theorem dX11_text : xDec cX11_text pX11_text = true := by decide +kernel
theorem hX11_text : xHd mX11_text := ⟨xg (w := (Jvm.Cond.code ({ cls := "SmellBurdensModel", name := "text", desc := "(II)I" } : Jvm.MethodName) prog_13_method_21_code (4 : Nat) (Option.some Jvm.ClassFile.FieldType.int))) (xt5 (List.mem_of_getElem? (i := 110) (by decide +kernel))) rfl, xg (w := (Jvm.Cond.initialized "SmellBurdensModel")) (xt1 (List.mem_of_getElem? (i := 10) (by decide +kernel))) rfl, ⟨by decide +kernel, by decide +kernel, by decide +kernel⟩, xg (w := (Jvm.Cond.instanceMethod ({ cls := "SmellBurdensModel", name := "text", desc := "(II)I" } : Jvm.MethodName))) (xt5 (List.mem_of_getElem? (i := 108) (by decide +kernel))) rfl, xg (w := (Jvm.Cond.selects "SmellBurdensModel" ({ cls := "SmellBurdensModel", name := "text", desc := "(II)I" } : Jvm.MethodName) ({ cls := "SmellBurdensModel", name := "text", desc := "(II)I" } : Jvm.MethodName))) (xt5 (List.mem_of_getElem? (i := 109) (by decide +kernel))) rfl, rfl⟩
def pX11_put : List xE := [(0, 1, .iload_n 1, 1, 0, 0, []), (1, 3, .invokestatic 115, 0, 0, 0, []), (4, 3, .ifCond .ne 5, 9, 0, 0, []), (7, 1, .iconst (-1), 1, 0, 0, []), (8, 1, .ireturn, 0, 0, 0, []), (9, 1, .aload_n 0, 0, 0, 0, []), (10, 3, .getfield 19, 8, 7, 0, []), (13, 1, .iload_n 1, 1, 0, 0, []), (14, 1, .iaload, 0, 0, 0, []), (15, 3, .ifCond .ge 9, 24, 0, 0, []), (18, 1, .aload_n 0, 0, 0, 0, []), (19, 1, .iconst 1, 1, 0, 0, []), (20, 3, .invokevirtual 100, 1, 0, 0, []), (23, 1, .ireturn, 0, 0, 0, []), (24, 1, .iload_n 2, 2, 0, 0, []), (25, 1, .i2l, 0, 0, 0, []), (26, 1, .lconst 0, 0, 0, 0, []), (27, 1, .aload_n 0, 0, 0, 0, []), (28, 3, .getfield 19, 8, 7, 0, []), (31, 1, .iload_n 1, 1, 0, 0, []), (32, 1, .iaload, 0, 0, 0, []), (33, 1, .iconst 1, 1, 0, 0, []), (34, 1, .isub, 0, 0, 0, []), (35, 1, .i2l, 0, 0, 0, []), (36, 3, .invokestatic 90, 2, 0, 0, []), (39, 3, .ifCond .ne 9, 48, 0, 0, []), (42, 1, .aload_n 0, 0, 0, 0, []), (43, 1, .iconst 2, 2, 0, 0, []), (44, 3, .invokevirtual 100, 1, 0, 0, []), (47, 1, .ireturn, 0, 0, 0, []), (48, 1, .aload_n 0, 0, 0, 0, []), (49, 3, .getfield 22, 8, 8, 0, []), (52, 2, .bipush 60, 60, 0, 0, []), (54, 1, .iload_n 1, 1, 0, 0, []), (55, 1, .imul, 0, 0, 0, []), (56, 1, .iload_n 2, 2, 0, 0, []), (57, 1, .iadd, 0, 0, 0, []), (58, 1, .iaload, 0, 0, 0, []), (59, 2, .istore 4, 4, 0, 0, []), (61, 1, .aload_n 0, 0, 0, 0, []), (62, 3, .getfield 22, 8, 8, 0, []), (65, 2, .bipush 60, 60, 0, 0, []), (67, 1, .iload_n 1, 1, 0, 0, []), (68, 1, .imul, 0, 0, 0, []), (69, 1, .iload_n 2, 2, 0, 0, []), (70, 1, .iadd, 0, 0, 0, []), (71, 1, .iload_n 3, 3, 0, 0, []), (72, 1, .i2b, 0, 0, 0, []), (73, 1, .iastore, 0, 0, 0, []), (74, 2, .iload 4, 4, 0, 0, []), (76, 3, .sipush 1000, 1000, 0, 0, []), (79, 1, .iadd, 0, 0, 0, []), (80, 1, .ireturn, 0, 0, 0, [])]
def mX11_put : xM := (yX11_put, cX11_put, 5, (some FieldType.int), 0, 3, 8, 2, 45, 0, pX11_put)
theorem dX11_put : xDec cX11_put pX11_put = true := by decide +kernel
theorem hX11_put : xHd mX11_put := ⟨xg (w := (Jvm.Cond.code ({ cls := "SmellBurdensModel", name := "put", desc := "(III)I" } : Jvm.MethodName) prog_13_method_22_code (5 : Nat) (Option.some Jvm.ClassFile.FieldType.int))) (xt5 (List.mem_of_getElem? (i := 118) (by decide +kernel))) rfl, xg (w := (Jvm.Cond.initialized "SmellBurdensModel")) (xt1 (List.mem_of_getElem? (i := 10) (by decide +kernel))) rfl, ⟨by decide +kernel, by decide +kernel, by decide +kernel⟩, xg (w := (Jvm.Cond.instanceMethod ({ cls := "SmellBurdensModel", name := "put", desc := "(III)I" } : Jvm.MethodName))) (xt5 (List.mem_of_getElem? (i := 116) (by decide +kernel))) rfl, xg (w := (Jvm.Cond.selects "SmellBurdensModel" ({ cls := "SmellBurdensModel", name := "put", desc := "(III)I" } : Jvm.MethodName) ({ cls := "SmellBurdensModel", name := "put", desc := "(III)I" } : Jvm.MethodName))) (xt5 (List.mem_of_getElem? (i := 117) (by decide +kernel))) rfl, rfl⟩
theorem wdX11_118 : (Jvm.Cond.fieldLink "SmellBurdensModel" (118 : Nat) "SmellBurdensModel" "asses" "I") ∈ xG := xg (xt4 (List.mem_of_getElem? (i := 193) (by decide +kernel))) rfl
def pX11_isAss : List xE := [(0, 1, .iload_n 1, 1, 0, 0, []), (1, 1, .i2l, 0, 0, 0, []), (2, 1, .lconst 0, 0, 0, 0, []), (3, 1, .aload_n 0, 0, 0, 0, []), (4, 3, .getfield 118, 8, 10, 0, []), (7, 1, .iconst 1, 1, 0, 0, []), (8, 1, .isub, 0, 0, 0, []), (9, 1, .i2l, 0, 0, 0, []), (10, 3, .invokestatic 90, 0, 0, 0, []), (13, 1, .ireturn, 0, 0, 0, [])]
def mX11_isAss : xM := (yX11_isAss, cX11_isAss, 2, (some FieldType.boolean), 0, 1, 8, 1, 25, 0, pX11_isAss)
theorem dX11_isAss : xDec cX11_isAss pX11_isAss = true := by decide +kernel
theorem hX11_isAss : xHd mX11_isAss := ⟨xg (w := (Jvm.Cond.code ({ cls := "SmellBurdensModel", name := "isAss", desc := "(I)Z" } : Jvm.MethodName) prog_13_method_23_code (2 : Nat) (Option.some Jvm.ClassFile.FieldType.boolean))) (xt5 (List.mem_of_getElem? (i := 173) (by decide +kernel))) rfl, xg (w := (Jvm.Cond.initialized "SmellBurdensModel")) (xt1 (List.mem_of_getElem? (i := 10) (by decide +kernel))) rfl, ⟨by decide +kernel, by decide +kernel, by decide +kernel⟩, xg (w := (Jvm.Cond.instanceMethod ({ cls := "SmellBurdensModel", name := "isAss", desc := "(I)Z" } : Jvm.MethodName))) (xt5 (List.mem_of_getElem? (i := 172) (by decide +kernel))) rfl, xg (w := (Jvm.Cond.selects "SmellBurdensModel" ({ cls := "SmellBurdensModel", name := "isAss", desc := "(I)Z" } : Jvm.MethodName) ({ cls := "SmellBurdensModel", name := "isAss", desc := "(I)Z" } : Jvm.MethodName))) (xsl (List.mem_of_getElem? (i := 39) (by decide +kernel))) rfl, rfl⟩
theorem wdX11_121 : (Jvm.Cond.fieldLink "SmellBurdensModel" (121 : Nat) "SmellBurdensModel" "loads" "I") ∈ xG := xg (xt4 (List.mem_of_getElem? (i := 194) (by decide +kernel))) rfl
def pX11_isLoad : List xE := [(0, 1, .iload_n 1, 1, 0, 0, []), (1, 1, .i2l, 0, 0, 0, []), (2, 1, .lconst 0, 0, 0, 0, []), (3, 1, .aload_n 0, 0, 0, 0, []), (4, 3, .getfield 121, 8, 11, 0, []), (7, 1, .iconst 1, 1, 0, 0, []), (8, 1, .isub, 0, 0, 0, []), (9, 1, .i2l, 0, 0, 0, []), (10, 3, .invokestatic 90, 0, 0, 0, []), (13, 1, .ireturn, 0, 0, 0, [])]
def mX11_isLoad : xM := (yX11_isLoad, cX11_isLoad, 2, (some FieldType.boolean), 0, 1, 8, 1, 25, 0, pX11_isLoad)
theorem dX11_isLoad : xDec cX11_isLoad pX11_isLoad = true := by decide +kernel
theorem hX11_isLoad : xHd mX11_isLoad := ⟨xg (w := (Jvm.Cond.code ({ cls := "SmellBurdensModel", name := "isLoad", desc := "(I)Z" } : Jvm.MethodName) prog_13_method_24_code (2 : Nat) (Option.some Jvm.ClassFile.FieldType.boolean))) (xt5 (List.mem_of_getElem? (i := 214) (by decide +kernel))) rfl, xg (w := (Jvm.Cond.initialized "SmellBurdensModel")) (xt1 (List.mem_of_getElem? (i := 10) (by decide +kernel))) rfl, ⟨by decide +kernel, by decide +kernel, by decide +kernel⟩, xg (w := (Jvm.Cond.instanceMethod ({ cls := "SmellBurdensModel", name := "isLoad", desc := "(I)Z" } : Jvm.MethodName))) (xt5 (List.mem_of_getElem? (i := 213) (by decide +kernel))) rfl, xg (w := (Jvm.Cond.selects "SmellBurdensModel" ({ cls := "SmellBurdensModel", name := "isLoad", desc := "(I)Z" } : Jvm.MethodName) ({ cls := "SmellBurdensModel", name := "isLoad", desc := "(I)Z" } : Jvm.MethodName))) (xsl (List.mem_of_getElem? (i := 46) (by decide +kernel))) rfl, rfl⟩
theorem wdX11_124 : (Jvm.Cond.constantLong "SmellBurdensModel" (124 : Nat) (15 : Int64)) ∈ xG := xg (xt6 (List.mem_of_getElem? (i := 39) (by decide +kernel))) rfl
def pX11_isMarks : List xE := [(0, 1, .iload_n 0, 0, 0, 0, []), (1, 1, .i2l, 0, 0, 0, []), (2, 1, .lconst 0, 0, 0, 0, []), (3, 3, .ldc2_w 124, 15, 0, 0, []), (6, 3, .invokestatic 90, 0, 0, 0, []), (9, 1, .ireturn, 0, 0, 0, [])]
def mX11_isMarks : xM := (yX11_isMarks, cX11_isMarks, 1, (some FieldType.boolean), 1, 1, 8, 1, 25, 0, pX11_isMarks)
theorem dX11_isMarks : xDec cX11_isMarks pX11_isMarks = true := by decide +kernel
theorem hX11_isMarks : xHd mX11_isMarks := ⟨xg (w := (Jvm.Cond.code ({ cls := "SmellBurdensModel", name := "isMarks", desc := "(I)Z" } : Jvm.MethodName) prog_13_method_25_code (1 : Nat) (Option.some Jvm.ClassFile.FieldType.boolean))) (xt6 (List.mem_of_getElem? (i := 38) (by decide +kernel))) rfl, xg (w := (Jvm.Cond.initialized "SmellBurdensModel")) (xt1 (List.mem_of_getElem? (i := 10) (by decide +kernel))) rfl, ⟨by decide +kernel, by decide +kernel, by decide +kernel⟩, xg (w := (Jvm.Cond.static ({ cls := "SmellBurdensModel", name := "isMarks", desc := "(I)Z" } : Jvm.MethodName))) (xt6 (List.mem_of_getElem? (i := 37) (by decide +kernel))) rfl⟩
def pX11_many : List xE := [(0, 1, .iconst 0, 0, 0, 0, []), (1, 1, .istore_n 1, 1, 0, 0, []), (2, 1, .iload_n 0, 0, 0, 0, []), (3, 1, .istore_n 2, 2, 0, 0, []), (4, 1, .iload_n 2, 2, 0, 0, []), (5, 3, .ifCond .eq 15, 20, 0, 0, []), (8, 3, .iinc 1 1, 1, 1, 0, []), (11, 1, .iload_n 2, 2, 0, 0, []), (12, 1, .iload_n 2, 2, 0, 0, []), (13, 1, .iconst 1, 1, 0, 0, []), (14, 1, .isub, 0, 0, 0, []), (15, 1, .iand, 0, 0, 0, []), (16, 1, .istore_n 2, 2, 0, 0, []), (17, 3, .goto (-13), 4, 0, 0, []), (20, 1, .iload_n 1, 1, 0, 0, []), (21, 1, .ireturn, 0, 0, 0, [])]
def mX11_many : xM := (yX11_many, cX11_many, 3, (some FieldType.int), 1, 1, 8, 0, 0, 0, pX11_many)
theorem dX11_many : xDec cX11_many pX11_many = true := by decide +kernel
theorem hX11_many : xHd mX11_many := ⟨xg (w := (Jvm.Cond.code ({ cls := "SmellBurdensModel", name := "many", desc := "(I)I" } : Jvm.MethodName) prog_13_method_26_code (3 : Nat) (Option.some Jvm.ClassFile.FieldType.int))) (xt5 (List.mem_of_getElem? (i := 199) (by decide +kernel))) rfl, xg (w := (Jvm.Cond.initialized "SmellBurdensModel")) (xt1 (List.mem_of_getElem? (i := 10) (by decide +kernel))) rfl, ⟨by decide +kernel, by decide +kernel, by decide +kernel⟩, xg (w := (Jvm.Cond.static ({ cls := "SmellBurdensModel", name := "many", desc := "(I)I" } : Jvm.MethodName))) (xt5 (List.mem_of_getElem? (i := 198) (by decide +kernel))) rfl⟩
theorem wdX11_126 : (Jvm.Cond.methodLink "SmellBurdensModel" (126 : Nat) ({ cls := "SmellBurdensModel", name := "many", desc := "(I)I" } : Jvm.MethodName)) ∈ xG := xg (xt5 (List.mem_of_getElem? (i := 197) (by decide +kernel))) rfl
def pX11_likeBy : List xE := [(0, 1, .iload_n 2, 2, 0, 0, []), (1, 1, .iload_n 1, 1, 0, 0, []), (2, 1, .iand, 0, 0, 0, []), (3, 3, .invokestatic 126, 0, 0, 0, []), (6, 1, .istore_n 3, 3, 0, 0, []), (7, 1, .iload_n 0, 0, 0, 0, []), (8, 1, .iconst 1, 1, 0, 0, []), (9, 3, .if_icmp .ne 7, 16, 0, 0, []), (12, 1, .iload_n 3, 3, 0, 0, []), (13, 3, .goto 22, 35, 0, 0, []), (16, 1, .iload_n 0, 0, 0, 0, []), (17, 1, .iconst 4, 4, 0, 0, []), (18, 3, .if_icmp .ne 9, 27, 0, 0, []), (21, 1, .iconst 2, 2, 0, 0, []), (22, 1, .iload_n 3, 3, 0, 0, []), (23, 1, .imul, 0, 0, 0, []), (24, 3, .goto 11, 35, 0, 0, []), (27, 1, .iconst 4, 4, 0, 0, []), (28, 1, .iload_n 2, 2, 0, 0, []), (29, 1, .iload_n 1, 1, 0, 0, []), (30, 1, .ixor, 0, 0, 0, []), (31, 3, .invokestatic 126, 0, 0, 0, []), (34, 1, .isub, 0, 0, 0, []), (35, 1, .ireturn, 0, 0, 0, [])]
def mX11_likeBy : xM := (yX11_likeBy, cX11_likeBy, 4, (some FieldType.int), 1, 3, 8, 1, 22, 0, pX11_likeBy)
theorem dX11_likeBy : xDec cX11_likeBy pX11_likeBy = true := by decide +kernel
theorem hX11_likeBy : xHd mX11_likeBy := ⟨xg (w := (Jvm.Cond.code ({ cls := "SmellBurdensModel", name := "likeBy", desc := "(III)I" } : Jvm.MethodName) prog_13_method_27_code (4 : Nat) (Option.some Jvm.ClassFile.FieldType.int))) (xt5 (List.mem_of_getElem? (i := 196) (by decide +kernel))) rfl, xg (w := (Jvm.Cond.initialized "SmellBurdensModel")) (xt1 (List.mem_of_getElem? (i := 10) (by decide +kernel))) rfl, ⟨by decide +kernel, by decide +kernel, by decide +kernel⟩, xg (w := (Jvm.Cond.static ({ cls := "SmellBurdensModel", name := "likeBy", desc := "(III)I" } : Jvm.MethodName))) (xt5 (List.mem_of_getElem? (i := 195) (by decide +kernel))) rfl⟩
def pX11_least : List xE := [(0, 1, .iload_n 0, 0, 0, 0, []), (1, 1, .iconst 3, 3, 0, 0, []), (2, 3, .if_icmp .ne 7, 9, 0, 0, []), (5, 1, .iconst 3, 3, 0, 0, []), (6, 3, .goto 13, 19, 0, 0, []), (9, 1, .iload_n 0, 0, 0, 0, []), (10, 1, .iconst 5, 5, 0, 0, []), (11, 3, .if_icmp .ne 7, 18, 0, 0, []), (14, 1, .iconst 4, 4, 0, 0, []), (15, 3, .goto 4, 19, 0, 0, []), (18, 1, .iconst 1, 1, 0, 0, []), (19, 1, .ireturn, 0, 0, 0, [])]
def mX11_least : xM := (yX11_least, cX11_least, 1, (some FieldType.int), 1, 1, 8, 0, 0, 0, pX11_least)
theorem dX11_least : xDec cX11_least pX11_least = true := by decide +kernel
theorem hX11_least : xHd mX11_least := ⟨xg (w := (Jvm.Cond.code ({ cls := "SmellBurdensModel", name := "least", desc := "(I)I" } : Jvm.MethodName) prog_13_method_28_code (1 : Nat) (Option.some Jvm.ClassFile.FieldType.int))) (xt5 (List.mem_of_getElem? (i := 206) (by decide +kernel))) rfl, xg (w := (Jvm.Cond.initialized "SmellBurdensModel")) (xt1 (List.mem_of_getElem? (i := 10) (by decide +kernel))) rfl, ⟨by decide +kernel, by decide +kernel, by decide +kernel⟩, xg (w := (Jvm.Cond.static ({ cls := "SmellBurdensModel", name := "least", desc := "(I)I" } : Jvm.MethodName))) (xt5 (List.mem_of_getElem? (i := 205) (by decide +kernel))) rfl⟩
theorem wdX11_129 : (Jvm.Cond.methodLink "SmellBurdensModel" (129 : Nat) ({ cls := "SmellBurdensModel", name := "likeBy", desc := "(III)I" } : Jvm.MethodName)) ∈ xG := xg (xt5 (List.mem_of_getElem? (i := 194) (by decide +kernel))) rfl
theorem wdX11_133 : (Jvm.Cond.methodLink "SmellBurdensModel" (133 : Nat) ({ cls := "SmellBurdensModel", name := "least", desc := "(I)I" } : Jvm.MethodName)) ∈ xG := xg (xt5 (List.mem_of_getElem? (i := 204) (by decide +kernel))) rfl
def pX11_isTaken : List xE := [(0, 1, .iload_n 0, 0, 0, 0, []), (1, 1, .iload_n 1, 1, 0, 0, []), (2, 1, .iload_n 2, 2, 0, 0, []), (3, 3, .invokestatic 129, 0, 0, 0, []), (6, 1, .iload_n 0, 0, 0, 0, []), (7, 3, .invokestatic 133, 1, 0, 0, []), (10, 3, .if_icmp .lt 7, 17, 0, 0, []), (13, 1, .iconst 1, 1, 0, 0, []), (14, 3, .goto 4, 18, 0, 0, []), (17, 1, .iconst 0, 0, 0, 0, []), (18, 1, .ireturn, 0, 0, 0, [])]
def mX11_isTaken : xM := (yX11_isTaken, cX11_isTaken, 3, (some FieldType.boolean), 1, 3, 8, 2, 45, 0, pX11_isTaken)
theorem dX11_isTaken : xDec cX11_isTaken pX11_isTaken = true := by decide +kernel
theorem hX11_isTaken : xHd mX11_isTaken := ⟨xg (w := (Jvm.Cond.code ({ cls := "SmellBurdensModel", name := "isTaken", desc := "(III)Z" } : Jvm.MethodName) prog_13_method_29_code (3 : Nat) (Option.some Jvm.ClassFile.FieldType.boolean))) (xt6 (List.mem_of_getElem? (i := 50) (by decide +kernel))) rfl, xg (w := (Jvm.Cond.initialized "SmellBurdensModel")) (xt1 (List.mem_of_getElem? (i := 10) (by decide +kernel))) rfl, ⟨by decide +kernel, by decide +kernel, by decide +kernel⟩, xg (w := (Jvm.Cond.static ({ cls := "SmellBurdensModel", name := "isTaken", desc := "(III)Z" } : Jvm.MethodName))) (xt6 (List.mem_of_getElem? (i := 49) (by decide +kernel))) rfl⟩
def pX11_likeTo : List xE := [(0, 1, .aload_n 0, 0, 0, 0, []), (1, 3, .getfield 31, 8, 13, 0, []), (4, 1, .iload_n 1, 1, 0, 0, []), (5, 1, .iaload, 0, 0, 0, []), (6, 1, .aload_n 0, 0, 0, 0, []), (7, 3, .getfield 37, 8, 15, 0, []), (10, 1, .iconst 1, 1, 0, 0, []), (11, 1, .iload_n 1, 1, 0, 0, []), (12, 1, .iadd, 0, 0, 0, []), (13, 1, .iaload, 0, 0, 0, []), (14, 1, .aload_n 0, 0, 0, 0, []), (15, 3, .getfield 37, 8, 15, 0, []), (18, 2, .bipush 9, 9, 0, 0, []), (20, 1, .iload_n 2, 2, 0, 0, []), (21, 1, .iadd, 0, 0, 0, []), (22, 1, .iaload, 0, 0, 0, []), (23, 3, .invokestatic 129, 0, 0, 0, []), (26, 1, .ireturn, 0, 0, 0, [])]
def mX11_likeTo : xM := (yX11_likeTo, cX11_likeTo, 3, (some FieldType.int), 0, 2, 8, 2, 45, 0, pX11_likeTo)
theorem dX11_likeTo : xDec cX11_likeTo pX11_likeTo = true := by decide +kernel
theorem hX11_likeTo : xHd mX11_likeTo := ⟨xg (w := (Jvm.Cond.code ({ cls := "SmellBurdensModel", name := "likeTo", desc := "(II)I" } : Jvm.MethodName) prog_13_method_30_code (3 : Nat) (Option.some Jvm.ClassFile.FieldType.int))) (xt5 (List.mem_of_getElem? (i := 193) (by decide +kernel))) rfl, xg (w := (Jvm.Cond.initialized "SmellBurdensModel")) (xt1 (List.mem_of_getElem? (i := 10) (by decide +kernel))) rfl, ⟨by decide +kernel, by decide +kernel, by decide +kernel⟩, xg (w := (Jvm.Cond.instanceMethod ({ cls := "SmellBurdensModel", name := "likeTo", desc := "(II)I" } : Jvm.MethodName))) (xt5 (List.mem_of_getElem? (i := 192) (by decide +kernel))) rfl, xg (w := (Jvm.Cond.selects "SmellBurdensModel" ({ cls := "SmellBurdensModel", name := "likeTo", desc := "(II)I" } : Jvm.MethodName) ({ cls := "SmellBurdensModel", name := "likeTo", desc := "(II)I" } : Jvm.MethodName))) (xsl (List.mem_of_getElem? (i := 44) (by decide +kernel))) rfl, rfl⟩
theorem wdX11_136 : (Jvm.Cond.methodLink "SmellBurdensModel" (136 : Nat) ({ cls := "SmellBurdensModel", name := "likeTo", desc := "(II)I" } : Jvm.MethodName)) ∈ xG := xg (xt5 (List.mem_of_getElem? (i := 190) (by decide +kernel))) rfl
def pX11_refuses : List xE := [(0, 1, .aload_n 0, 0, 0, 0, []), (1, 1, .iload_n 1, 1, 0, 0, []), (2, 1, .iload_n 2, 2, 0, 0, []), (3, 3, .invokevirtual 136, 0, 0, 0, []), (6, 1, .aload_n 0, 0, 0, 0, []), (7, 3, .getfield 31, 8, 13, 0, []), (10, 1, .iload_n 1, 1, 0, 0, []), (11, 1, .iaload, 0, 0, 0, []), (12, 3, .invokestatic 133, 1, 0, 0, []), (15, 3, .if_icmp .ge 7, 22, 0, 0, []), (18, 1, .iconst 1, 1, 0, 0, []), (19, 3, .goto 4, 23, 0, 0, []), (22, 1, .iconst 0, 0, 0, 0, []), (23, 1, .ireturn, 0, 0, 0, [])]
def mX11_refuses : xM := (yX11_refuses, cX11_refuses, 3, (some FieldType.boolean), 0, 2, 8, 3, 67, 0, pX11_refuses)
theorem dX11_refuses : xDec cX11_refuses pX11_refuses = true := by decide +kernel
theorem hX11_refuses : xHd mX11_refuses := ⟨xg (w := (Jvm.Cond.code ({ cls := "SmellBurdensModel", name := "refuses", desc := "(II)Z" } : Jvm.MethodName) prog_13_method_31_code (3 : Nat) (Option.some Jvm.ClassFile.FieldType.boolean))) (xt5 (List.mem_of_getElem? (i := 203) (by decide +kernel))) rfl, xg (w := (Jvm.Cond.initialized "SmellBurdensModel")) (xt1 (List.mem_of_getElem? (i := 10) (by decide +kernel))) rfl, ⟨by decide +kernel, by decide +kernel, by decide +kernel⟩, xg (w := (Jvm.Cond.instanceMethod ({ cls := "SmellBurdensModel", name := "refuses", desc := "(II)Z" } : Jvm.MethodName))) (xt5 (List.mem_of_getElem? (i := 202) (by decide +kernel))) rfl, xg (w := (Jvm.Cond.selects "SmellBurdensModel" ({ cls := "SmellBurdensModel", name := "refuses", desc := "(II)Z" } : Jvm.MethodName) ({ cls := "SmellBurdensModel", name := "refuses", desc := "(II)Z" } : Jvm.MethodName))) (xsl (List.mem_of_getElem? (i := 45) (by decide +kernel))) rfl, rfl⟩
def pX11_isHome : List xE := [(0, 1, .aload_n 0, 0, 0, 0, []), (1, 3, .getfield 37, 8, 15, 0, []), (4, 2, .bipush 14, 14, 0, 0, []), (6, 1, .iload_n 1, 1, 0, 0, []), (7, 1, .iadd, 0, 0, 0, []), (8, 1, .iaload, 0, 0, 0, []), (9, 1, .aload_n 0, 0, 0, 0, []), (10, 3, .getfield 34, 8, 14, 0, []), (13, 1, .iload_n 1, 1, 0, 0, []), (14, 1, .iaload, 0, 0, 0, []), (15, 3, .if_icmp .ne 7, 22, 0, 0, []), (18, 1, .iconst 1, 1, 0, 0, []), (19, 3, .goto 4, 23, 0, 0, []), (22, 1, .iconst 0, 0, 0, 0, []), (23, 1, .ireturn, 0, 0, 0, [])]
def mX11_isHome : xM := (yX11_isHome, cX11_isHome, 2, (some FieldType.boolean), 0, 1, 8, 0, 0, 0, pX11_isHome)
theorem dX11_isHome : xDec cX11_isHome pX11_isHome = true := by decide +kernel
theorem hX11_isHome : xHd mX11_isHome := ⟨xg (w := (Jvm.Cond.code ({ cls := "SmellBurdensModel", name := "isHome", desc := "(I)Z" } : Jvm.MethodName) prog_13_method_32_code (2 : Nat) (Option.some Jvm.ClassFile.FieldType.boolean))) (xt5 (List.mem_of_getElem? (i := 189) (by decide +kernel))) rfl, xg (w := (Jvm.Cond.initialized "SmellBurdensModel")) (xt1 (List.mem_of_getElem? (i := 10) (by decide +kernel))) rfl, ⟨by decide +kernel, by decide +kernel, by decide +kernel⟩, xg (w := (Jvm.Cond.instanceMethod ({ cls := "SmellBurdensModel", name := "isHome", desc := "(I)Z" } : Jvm.MethodName))) (xt5 (List.mem_of_getElem? (i := 188) (by decide +kernel))) rfl, xg (w := (Jvm.Cond.selects "SmellBurdensModel" ({ cls := "SmellBurdensModel", name := "isHome", desc := "(I)Z" } : Jvm.MethodName) ({ cls := "SmellBurdensModel", name := "isHome", desc := "(I)Z" } : Jvm.MethodName))) (xsl (List.mem_of_getElem? (i := 43) (by decide +kernel))) rfl, rfl⟩
theorem wdX11_139 : (Jvm.Cond.methodLink "SmellBurdensModel" (139 : Nat) ({ cls := "SmellBurdensModel", name := "isHome", desc := "(I)Z" } : Jvm.MethodName)) ∈ xG := xg (xt5 (List.mem_of_getElem? (i := 186) (by decide +kernel))) rfl
def pX11_atHome : List xE := [(0, 1, .iconst 0, 0, 0, 0, []), (1, 1, .istore_n 1, 1, 0, 0, []), (2, 1, .iconst 0, 0, 0, 0, []), (3, 1, .istore_n 2, 2, 0, 0, []), (4, 1, .iload_n 2, 2, 0, 0, []), (5, 1, .aload_n 0, 0, 0, 0, []), (6, 3, .getfield 121, 8, 11, 0, []), (9, 3, .if_icmp .ge 27, 36, 0, 0, []), (12, 1, .iload_n 1, 1, 0, 0, []), (13, 1, .aload_n 0, 0, 0, 0, []), (14, 1, .iload_n 2, 2, 0, 0, []), (15, 3, .invokevirtual 139, 0, 0, 0, []), (18, 3, .ifCond .eq 9, 27, 0, 0, []), (21, 1, .iconst 1, 1, 0, 0, []), (22, 1, .iload_n 2, 2, 0, 0, []), (23, 1, .ishl, 0, 0, 0, []), (24, 3, .goto 4, 28, 0, 0, []), (27, 1, .iconst 0, 0, 0, 0, []), (28, 1, .ior, 0, 0, 0, []), (29, 1, .istore_n 1, 1, 0, 0, []), (30, 3, .iinc 2 1, 2, 1, 0, []), (33, 3, .goto (-29), 4, 0, 0, []), (36, 1, .iload_n 1, 1, 0, 0, []), (37, 1, .ireturn, 0, 0, 0, [])]
def mX11_atHome : xM := (yX11_atHome, cX11_atHome, 3, (some FieldType.int), 0, 0, 8, 1, 21, 0, pX11_atHome)
theorem dX11_atHome : xDec cX11_atHome pX11_atHome = true := by decide +kernel
theorem hX11_atHome : xHd mX11_atHome := ⟨xg (w := (Jvm.Cond.code ({ cls := "SmellBurdensModel", name := "atHome", desc := "()I" } : Jvm.MethodName) prog_13_method_33_code (3 : Nat) (Option.some Jvm.ClassFile.FieldType.int))) (xt6 (List.mem_of_getElem? (i := 71) (by decide +kernel))) rfl, xg (w := (Jvm.Cond.initialized "SmellBurdensModel")) (xt1 (List.mem_of_getElem? (i := 10) (by decide +kernel))) rfl, ⟨by decide +kernel, by decide +kernel, by decide +kernel⟩, xg (w := (Jvm.Cond.instanceMethod ({ cls := "SmellBurdensModel", name := "atHome", desc := "()I" } : Jvm.MethodName))) (xt6 (List.mem_of_getElem? (i := 70) (by decide +kernel))) rfl, xg (w := (Jvm.Cond.selects "SmellBurdensModel" ({ cls := "SmellBurdensModel", name := "atHome", desc := "()I" } : Jvm.MethodName) ({ cls := "SmellBurdensModel", name := "atHome", desc := "()I" } : Jvm.MethodName))) (xsl (List.mem_of_getElem? (i := 56) (by decide +kernel))) rfl, rfl⟩
theorem wdX11_142 : (Jvm.Cond.methodLink "SmellBurdensModel" (142 : Nat) ({ cls := "SmellBurdensModel", name := "refuses", desc := "(II)Z" } : Jvm.MethodName)) ∈ xG := xg (xt5 (List.mem_of_getElem? (i := 200) (by decide +kernel))) rfl
def pX11_takesOne_0 : List xE := [(0, 2, .bipush (-9), 9, 0, 0, []), (2, 1, .istore_n 3, 3, 0, 0, []), (3, 1, .iconst 0, 0, 0, 0, []), (4, 2, .istore 4, 4, 0, 0, []), (6, 2, .iload 4, 4, 0, 0, []), (8, 1, .aload_n 0, 0, 0, 0, []), (9, 3, .getfield 121, 8, 11, 0, []), (12, 3, .if_icmp .ge 89, 101, 0, 0, []), (15, 1, .aload_n 0, 0, 0, 0, []), (16, 3, .getfield 37, 8, 15, 0, []), (19, 2, .bipush 14, 14, 0, 0, []), (21, 2, .iload 4, 4, 0, 0, []), (23, 1, .iadd, 0, 0, 0, []), (24, 1, .iaload, 0, 0, 0, []), (25, 1, .aload_n 0, 0, 0, 0, []), (26, 3, .getfield 37, 8, 15, 0, []), (29, 1, .iconst 5, 5, 0, 0, []), (30, 1, .iload_n 1, 1, 0, 0, []), (31, 1, .iadd, 0, 0, 0, []), (32, 1, .iaload, 0, 0, 0, []), (33, 3, .if_icmp .ne 25, 58, 0, 0, []), (36, 1, .aload_n 0, 0, 0, 0, []), (37, 2, .iload 4, 4, 0, 0, []), (39, 3, .invokevirtual 139, 0, 0, 0, []), (42, 3, .ifCond .ne 16, 58, 0, 0, []), (45, 1, .iload_n 2, 2, 0, 0, []), (46, 2, .iload 4, 4, 0, 0, []), (48, 1, .ishr, 0, 0, 0, []), (49, 1, .iconst 1, 1, 0, 0, []), (50, 1, .iand, 0, 0, 0, []), (51, 3, .ifCond .ne 7, 58, 0, 0, []), (54, 1, .iconst 1, 1, 0, 0, []), (55, 3, .goto 4, 59, 0, 0, []), (58, 1, .iconst 0, 0, 0, 0, []), (59, 2, .istore 5, 5, 0, 0, []), (61, 2, .iload 5, 5, 0, 0, []), (63, 3, .ifCond .eq 30, 93, 0, 0, []), (66, 1, .iload_n 3, 3, 0, 0, []), (67, 2, .bipush (-9), 9, 0, 0, []), (69, 3, .if_icmp .eq 19, 88, 0, 0, []), (72, 1, .aload_n 0, 0, 0, 0, []), (73, 1, .iload_n 1, 1, 0, 0, []), (74, 2, .iload 4, 4, 0, 0, []), (76, 3, .invokevirtual 136, 1, 0, 0, []), (79, 1, .aload_n 0, 0, 0, 0, []), (80, 1, .iload_n 1, 1, 0, 0, []), (81, 1, .iload_n 3, 3, 0, 0, []), (82, 3, .invokevirtual 136, 1, 0, 0, []), (85, 3, .if_icmp .le 8, 93, 0, 0, []), (88, 2, .iload 4, 4, 0, 0, []), (90, 3, .goto 4, 94, 0, 0, []), (93, 1, .iload_n 3, 3, 0, 0, []), (94, 1, .istore_n 3, 3, 0, 0, []), (95, 3, .iinc 4 1, 4, 1, 0, []), (98, 3, .goto (-92), 6, 0, 0, []), (101, 1, .iload_n 3, 3, 0, 0, []), (102, 2, .bipush (-9), 9, 0, 0, []), (104, 3, .if_icmp .eq 17, 121, 0, 0, []), (107, 1, .aload_n 0, 0, 0, 0, []), (108, 1, .iload_n 1, 1, 0, 0, []), (109, 1, .iload_n 3, 3, 0, 0, []), (110, 3, .invokevirtual 142, 2, 0, 0, []), (113, 3, .ifCond .eq 8, 121, 0, 0, []), (116, 2, .bipush (-9), 9, 0, 0, []), (118, 3, .goto 4, 122, 0, 0, []), (121, 1, .iload_n 3, 3, 0, 0, []), (122, 1, .istore_n 3, 3, 0, 0, []), (123, 1, .aload_n 0, 0, 0, 0, []), (124, 3, .getfield 40, 8, 16, 0, []), (127, 1, .iload_n 1, 1, 0, 0, []), (128, 1, .iload_n 3, 3, 0, 0, []), (129, 1, .iastore, 0, 0, 0, []), (130, 1, .iload_n 3, 3, 0, 0, []), (131, 2, .bipush (-9), 9, 0, 0, []), (133, 3, .if_icmp .ne 7, 140, 0, 0, []), (136, 1, .iload_n 2, 2, 0, 0, []), (137, 3, .goto 8, 145, 0, 0, []), (140, 1, .iload_n 2, 2, 0, 0, []), (141, 1, .iconst 1, 1, 0, 0, []), (142, 1, .iload_n 3, 3, 0, 0, [])]
def pX11_takesOne_1 : List xE := [(143, 1, .ishl, 0, 0, 0, []), (144, 1, .ior, 0, 0, 0, []), (145, 1, .ireturn, 0, 0, 0, [])]
def pX11_takesOne : List xE := pX11_takesOne_0 ++ (pX11_takesOne_1)
def mX11_takesOne : xM := (yX11_takesOne, cX11_takesOne, 6, (some FieldType.int), 0, 2, 8, 4, 89, 0, pX11_takesOne)
theorem dX11_takesOne : xDec cX11_takesOne pX11_takesOne = true := by decide +kernel
theorem hX11_takesOne : xHd mX11_takesOne := ⟨xg (w := (Jvm.Cond.code ({ cls := "SmellBurdensModel", name := "takesOne", desc := "(II)I" } : Jvm.MethodName) prog_13_method_34_code (6 : Nat) (Option.some Jvm.ClassFile.FieldType.int))) (xt5 (List.mem_of_getElem? (i := 185) (by decide +kernel))) rfl, xg (w := (Jvm.Cond.initialized "SmellBurdensModel")) (xt1 (List.mem_of_getElem? (i := 10) (by decide +kernel))) rfl, ⟨by decide +kernel, by decide +kernel, by decide +kernel⟩, xg (w := (Jvm.Cond.instanceMethod ({ cls := "SmellBurdensModel", name := "takesOne", desc := "(II)I" } : Jvm.MethodName))) (xt5 (List.mem_of_getElem? (i := 184) (by decide +kernel))) rfl, xg (w := (Jvm.Cond.selects "SmellBurdensModel" ({ cls := "SmellBurdensModel", name := "takesOne", desc := "(II)I" } : Jvm.MethodName) ({ cls := "SmellBurdensModel", name := "takesOne", desc := "(II)I" } : Jvm.MethodName))) (xsl (List.mem_of_getElem? (i := 42) (by decide +kernel))) rfl, rfl⟩
theorem wdX11_146 : (Jvm.Cond.methodLink "SmellBurdensModel" (146 : Nat) ({ cls := "SmellBurdensModel", name := "takesOne", desc := "(II)I" } : Jvm.MethodName)) ∈ xG := xg (xt5 (List.mem_of_getElem? (i := 182) (by decide +kernel))) rfl
def pX11_takesAll : List xE := [(0, 1, .iconst 0, 0, 0, 0, []), (1, 1, .istore_n 2, 2, 0, 0, []), (2, 1, .iconst 0, 0, 0, 0, []), (3, 1, .istore_n 3, 3, 0, 0, []), (4, 1, .iload_n 3, 3, 0, 0, []), (5, 1, .aload_n 0, 0, 0, 0, []), (6, 3, .getfield 118, 8, 10, 0, []), (9, 3, .if_icmp .ge 37, 46, 0, 0, []), (12, 1, .aload_n 0, 0, 0, 0, []), (13, 3, .getfield 40, 8, 16, 0, []), (16, 1, .iload_n 3, 3, 0, 0, []), (17, 2, .bipush (-9), 9, 0, 0, []), (19, 1, .iastore, 0, 0, 0, []), (20, 1, .iload_n 1, 1, 0, 0, []), (21, 1, .iload_n 3, 3, 0, 0, []), (22, 1, .ishr, 0, 0, 0, []), (23, 1, .iconst 1, 1, 0, 0, []), (24, 1, .iand, 0, 0, 0, []), (25, 1, .iconst 1, 1, 0, 0, []), (26, 3, .if_icmp .ne 7, 33, 0, 0, []), (29, 1, .iload_n 2, 2, 0, 0, []), (30, 3, .goto 9, 39, 0, 0, []), (33, 1, .aload_n 0, 0, 0, 0, []), (34, 1, .iload_n 3, 3, 0, 0, []), (35, 1, .iload_n 2, 2, 0, 0, []), (36, 3, .invokevirtual 146, 0, 0, 0, []), (39, 1, .istore_n 2, 2, 0, 0, []), (40, 3, .iinc 3 1, 3, 1, 0, []), (43, 3, .goto (-39), 4, 0, 0, []), (46, 1, .iload_n 2, 2, 0, 0, []), (47, 1, .ireturn, 0, 0, 0, [])]
def mX11_takesAll : xM := (yX11_takesAll, cX11_takesAll, 4, (some FieldType.int), 0, 1, 8, 5, 114, 0, pX11_takesAll)
theorem dX11_takesAll : xDec cX11_takesAll pX11_takesAll = true := by decide +kernel
theorem hX11_takesAll : xHd mX11_takesAll := ⟨xg (w := (Jvm.Cond.code ({ cls := "SmellBurdensModel", name := "takesAll", desc := "(I)I" } : Jvm.MethodName) prog_13_method_35_code (4 : Nat) (Option.some Jvm.ClassFile.FieldType.int))) (xt5 (List.mem_of_getElem? (i := 181) (by decide +kernel))) rfl, xg (w := (Jvm.Cond.initialized "SmellBurdensModel")) (xt1 (List.mem_of_getElem? (i := 10) (by decide +kernel))) rfl, ⟨by decide +kernel, by decide +kernel, by decide +kernel⟩, xg (w := (Jvm.Cond.instanceMethod ({ cls := "SmellBurdensModel", name := "takesAll", desc := "(I)I" } : Jvm.MethodName))) (xt5 (List.mem_of_getElem? (i := 180) (by decide +kernel))) rfl, xg (w := (Jvm.Cond.selects "SmellBurdensModel" ({ cls := "SmellBurdensModel", name := "takesAll", desc := "(I)I" } : Jvm.MethodName) ({ cls := "SmellBurdensModel", name := "takesAll", desc := "(I)I" } : Jvm.MethodName))) (xsl (List.mem_of_getElem? (i := 41) (by decide +kernel))) rfl, rfl⟩
def pX11_allGo : List xE := [(0, 1, .iconst 0, 0, 0, 0, []), (1, 1, .istore_n 1, 1, 0, 0, []), (2, 1, .iload_n 1, 1, 0, 0, []), (3, 1, .aload_n 0, 0, 0, 0, []), (4, 3, .getfield 118, 8, 10, 0, []), (7, 3, .if_icmp .ge 101, 108, 0, 0, []), (10, 1, .aload_n 0, 0, 0, 0, []), (11, 3, .getfield 40, 8, 16, 0, []), (14, 1, .iload_n 1, 1, 0, 0, []), (15, 1, .iaload, 0, 0, 0, []), (16, 2, .bipush (-9), 9, 0, 0, []), (18, 3, .if_icmp .eq 84, 102, 0, 0, []), (21, 1, .aload_n 0, 0, 0, 0, []), (22, 3, .getfield 28, 8, 12, 0, []), (25, 1, .aload_n 0, 0, 0, 0, []), (26, 3, .getfield 37, 8, 15, 0, []), (29, 1, .iconst 5, 5, 0, 0, []), (30, 1, .iload_n 1, 1, 0, 0, []), (31, 1, .iadd, 0, 0, 0, []), (32, 1, .iaload, 0, 0, 0, []), (33, 1, .iaload, 0, 0, 0, []), (34, 1, .istore_n 2, 2, 0, 0, []), (35, 1, .aload_n 0, 0, 0, 0, []), (36, 3, .getfield 37, 8, 15, 0, []), (39, 1, .iconst 5, 5, 0, 0, []), (40, 1, .iload_n 1, 1, 0, 0, []), (41, 1, .iadd, 0, 0, 0, []), (42, 1, .iload_n 2, 2, 0, 0, []), (43, 1, .iastore, 0, 0, 0, []), (44, 1, .aload_n 0, 0, 0, 0, []), (45, 3, .getfield 37, 8, 15, 0, []), (48, 2, .bipush 14, 14, 0, 0, []), (50, 1, .aload_n 0, 0, 0, 0, []), (51, 3, .getfield 40, 8, 16, 0, []), (54, 1, .iload_n 1, 1, 0, 0, []), (55, 1, .iaload, 0, 0, 0, []), (56, 1, .iadd, 0, 0, 0, []), (57, 1, .iload_n 2, 2, 0, 0, []), (58, 1, .iastore, 0, 0, 0, []), (59, 1, .aload_n 0, 0, 0, 0, []), (60, 3, .getfield 37, 8, 15, 0, []), (63, 1, .iconst 1, 1, 0, 0, []), (64, 1, .iload_n 1, 1, 0, 0, []), (65, 1, .iadd, 0, 0, 0, []), (66, 1, .aload_n 0, 0, 0, 0, []), (67, 3, .getfield 31, 8, 13, 0, []), (70, 1, .iload_n 1, 1, 0, 0, []), (71, 1, .iaload, 0, 0, 0, []), (72, 1, .iconst 2, 2, 0, 0, []), (73, 3, .if_icmp .ne 20, 93, 0, 0, []), (76, 1, .aload_n 0, 0, 0, 0, []), (77, 3, .getfield 37, 8, 15, 0, []), (80, 2, .bipush 9, 9, 0, 0, []), (82, 1, .aload_n 0, 0, 0, 0, []), (83, 3, .getfield 40, 8, 16, 0, []), (86, 1, .iload_n 1, 1, 0, 0, []), (87, 1, .iaload, 0, 0, 0, []), (88, 1, .iadd, 0, 0, 0, []), (89, 1, .iaload, 0, 0, 0, []), (90, 3, .goto 11, 101, 0, 0, []), (93, 1, .aload_n 0, 0, 0, 0, []), (94, 3, .getfield 37, 8, 15, 0, []), (97, 1, .iconst 1, 1, 0, 0, []), (98, 1, .iload_n 1, 1, 0, 0, []), (99, 1, .iadd, 0, 0, 0, []), (100, 1, .iaload, 0, 0, 0, []), (101, 1, .iastore, 0, 0, 0, []), (102, 3, .iinc 1 1, 1, 1, 0, []), (105, 3, .goto (-103), 2, 0, 0, []), (108, 1, .aload_n 0, 0, 0, 0, []), (109, 3, .getfield 37, 8, 15, 0, []), (112, 1, .iconst 0, 0, 0, 0, []), (113, 1, .dup2, 0, 0, 0, []), (114, 1, .iaload, 0, 0, 0, []), (115, 1, .iconst 1, 1, 0, 0, []), (116, 1, .iadd, 0, 0, 0, []), (117, 1, .iastore, 0, 0, 0, []), (118, 1, .return_, 0, 0, 0, [])]
def mX11_allGo : xM := (yX11_allGo, cX11_allGo, 3, (none : Option FieldType), 0, 0, 8, 0, 0, 0, pX11_allGo)
theorem dX11_allGo : xDec cX11_allGo pX11_allGo = true := by decide +kernel
theorem hX11_allGo : xHd mX11_allGo := ⟨xg (w := (Jvm.Cond.code ({ cls := "SmellBurdensModel", name := "allGo", desc := "()V" } : Jvm.MethodName) prog_13_method_36_code (3 : Nat) (Option.none : Option Jvm.ClassFile.FieldType))) (xt6 (List.mem_of_getElem? (i := 10) (by decide +kernel))) rfl, xg (w := (Jvm.Cond.initialized "SmellBurdensModel")) (xt1 (List.mem_of_getElem? (i := 10) (by decide +kernel))) rfl, ⟨by decide +kernel, by decide +kernel, by decide +kernel⟩, xg (w := (Jvm.Cond.instanceMethod ({ cls := "SmellBurdensModel", name := "allGo", desc := "()V" } : Jvm.MethodName))) (xt6 (List.mem_of_getElem? (i := 9) (by decide +kernel))) rfl, xg (w := (Jvm.Cond.selects "SmellBurdensModel" ({ cls := "SmellBurdensModel", name := "allGo", desc := "()V" } : Jvm.MethodName) ({ cls := "SmellBurdensModel", name := "allGo", desc := "()V" } : Jvm.MethodName))) (xsl (List.mem_of_getElem? (i := 52) (by decide +kernel))) rfl, rfl⟩
theorem wdX11_149 : (Jvm.Cond.methodLink "SmellBurdensModel" (149 : Nat) ({ cls := "SmellBurdensModel", name := "takesAll", desc := "(I)I" } : Jvm.MethodName)) ∈ xG := xg (xt5 (List.mem_of_getElem? (i := 178) (by decide +kernel))) rfl
theorem wdX11_152 : (Jvm.Cond.methodLink "SmellBurdensModel" (152 : Nat) ({ cls := "SmellBurdensModel", name := "allGo", desc := "()V" } : Jvm.MethodName)) ∈ xG := xg (xt6 (List.mem_of_getElem? (i := 7) (by decide +kernel))) rfl
def pX11_goesBy : List xE := [(0, 1, .aload_n 0, 0, 0, 0, []), (1, 1, .iconst 0, 0, 0, 0, []), (2, 3, .invokevirtual 149, 0, 0, 0, []), (5, 1, .istore_n 1, 1, 0, 0, []), (6, 1, .aload_n 0, 0, 0, 0, []), (7, 3, .invokevirtual 152, 1, 0, 0, []), (10, 1, .iload_n 1, 1, 0, 0, []), (11, 3, .invokestatic 126, 2, 0, 0, []), (14, 1, .ireturn, 0, 0, 0, [])]
def mX11_goesBy : xM := (yX11_goesBy, cX11_goesBy, 2, (some FieldType.int), 0, 0, 8, 6, 137, 0, pX11_goesBy)
theorem dX11_goesBy : xDec cX11_goesBy pX11_goesBy = true := by decide +kernel
theorem hX11_goesBy : xHd mX11_goesBy := ⟨xg (w := (Jvm.Cond.code ({ cls := "SmellBurdensModel", name := "goesBy", desc := "()I" } : Jvm.MethodName) prog_13_method_37_code (2 : Nat) (Option.some Jvm.ClassFile.FieldType.int))) (xt6 (List.mem_of_getElem? (i := 6) (by decide +kernel))) rfl, xg (w := (Jvm.Cond.initialized "SmellBurdensModel")) (xt1 (List.mem_of_getElem? (i := 10) (by decide +kernel))) rfl, ⟨by decide +kernel, by decide +kernel, by decide +kernel⟩, xg (w := (Jvm.Cond.instanceMethod ({ cls := "SmellBurdensModel", name := "goesBy", desc := "()I" } : Jvm.MethodName))) (xt6 (List.mem_of_getElem? (i := 5) (by decide +kernel))) rfl, xg (w := (Jvm.Cond.selects "SmellBurdensModel" ({ cls := "SmellBurdensModel", name := "goesBy", desc := "()I" } : Jvm.MethodName) ({ cls := "SmellBurdensModel", name := "goesBy", desc := "()I" } : Jvm.MethodName))) (xsl (List.mem_of_getElem? (i := 51) (by decide +kernel))) rfl, rfl⟩
theorem wdX11_155 : (Jvm.Cond.fieldLink "SmellBurdensModel" (155 : Nat) "SmellBurdensModel" "size" "I") ∈ xG := xg (xt4 (List.mem_of_getElem? (i := 200) (by decide +kernel))) rfl
theorem wdX11_158 : (Jvm.Cond.fieldLink "SmellBurdensModel" (158 : Nat) "SmellBurdensModel" "from" "I") ∈ xG := xg (xt4 (List.mem_of_getElem? (i := 201) (by decide +kernel))) rfl
def pX11_byteAt : List xE := [(0, 1, .iload_n 1, 1, 0, 0, []), (1, 1, .aload_n 0, 0, 0, 0, []), (2, 3, .getfield 155, 8, 17, 0, []), (5, 3, .if_icmp .ge 17, 22, 0, 0, []), (8, 1, .aload_n 0, 0, 0, 0, []), (9, 3, .getfield 22, 8, 8, 0, []), (12, 1, .aload_n 0, 0, 0, 0, []), (13, 3, .getfield 158, 8, 18, 0, []), (16, 1, .iload_n 1, 1, 0, 0, []), (17, 1, .iadd, 0, 0, 0, []), (18, 1, .iaload, 0, 0, 0, []), (19, 3, .goto 5, 24, 0, 0, []), (22, 2, .bipush (-9), 9, 0, 0, []), (24, 1, .ireturn, 0, 0, 0, [])]
def mX11_byteAt : xM := (yX11_byteAt, cX11_byteAt, 2, (some FieldType.int), 0, 1, 8, 0, 0, 0, pX11_byteAt)
theorem dX11_byteAt : xDec cX11_byteAt pX11_byteAt = true := by decide +kernel
theorem hX11_byteAt : xHd mX11_byteAt := ⟨xg (w := (Jvm.Cond.code ({ cls := "SmellBurdensModel", name := "byteAt", desc := "(I)I" } : Jvm.MethodName) prog_13_method_38_code (2 : Nat) (Option.some Jvm.ClassFile.FieldType.int))) (xt5 (List.mem_of_getElem? (i := 134) (by decide +kernel))) rfl, xg (w := (Jvm.Cond.initialized "SmellBurdensModel")) (xt1 (List.mem_of_getElem? (i := 10) (by decide +kernel))) rfl, ⟨by decide +kernel, by decide +kernel, by decide +kernel⟩, xg (w := (Jvm.Cond.instanceMethod ({ cls := "SmellBurdensModel", name := "byteAt", desc := "(I)I" } : Jvm.MethodName))) (xt5 (List.mem_of_getElem? (i := 133) (by decide +kernel))) rfl, xg (w := (Jvm.Cond.selects "SmellBurdensModel" ({ cls := "SmellBurdensModel", name := "byteAt", desc := "(I)I" } : Jvm.MethodName) ({ cls := "SmellBurdensModel", name := "byteAt", desc := "(I)I" } : Jvm.MethodName))) (xsl (List.mem_of_getElem? (i := 32) (by decide +kernel))) rfl, rfl⟩
theorem wdX11_161 : (Jvm.Cond.fieldLink "SmellBurdensModel" (161 : Nat) "SmellBurdensModel" "place" "I") ∈ xG := xg (xt4 (List.mem_of_getElem? (i := 202) (by decide +kernel))) rfl
theorem wdX11_164 : (Jvm.Cond.methodLink "SmellBurdensModel" (164 : Nat) ({ cls := "SmellBurdensModel", name := "byteAt", desc := "(I)I" } : Jvm.MethodName)) ∈ xG := xg (xt5 (List.mem_of_getElem? (i := 131) (by decide +kernel))) rfl
def pX11_skips : List xE := [(0, 1, .aload_n 0, 0, 0, 0, []), (1, 1, .aload_n 0, 0, 0, 0, []), (2, 3, .getfield 161, 8, 19, 0, []), (5, 3, .invokevirtual 164, 0, 0, 0, []), (8, 2, .bipush 32, 32, 0, 0, []), (10, 3, .if_icmp .ne 16, 26, 0, 0, []), (13, 1, .aload_n 0, 0, 0, 0, []), (14, 1, .dup, 0, 0, 0, []), (15, 3, .getfield 161, 8, 19, 0, []), (18, 1, .iconst 1, 1, 0, 0, []), (19, 1, .iadd, 0, 0, 0, []), (20, 3, .putfield 161, 8, 19, 0, []), (23, 3, .goto (-23), 0, 0, 0, []), (26, 1, .return_, 0, 0, 0, [])]
def mX11_skips : xM := (yX11_skips, cX11_skips, 1, (none : Option FieldType), 0, 0, 8, 1, 21, 0, pX11_skips)
theorem dX11_skips : xDec cX11_skips pX11_skips = true := by decide +kernel
theorem hX11_skips : xHd mX11_skips := ⟨xg (w := (Jvm.Cond.code ({ cls := "SmellBurdensModel", name := "skips", desc := "()V" } : Jvm.MethodName) prog_13_method_39_code (1 : Nat) (Option.none : Option Jvm.ClassFile.FieldType))) (xt5 (List.mem_of_getElem? (i := 130) (by decide +kernel))) rfl, xg (w := (Jvm.Cond.initialized "SmellBurdensModel")) (xt1 (List.mem_of_getElem? (i := 10) (by decide +kernel))) rfl, ⟨by decide +kernel, by decide +kernel, by decide +kernel⟩, xg (w := (Jvm.Cond.instanceMethod ({ cls := "SmellBurdensModel", name := "skips", desc := "()V" } : Jvm.MethodName))) (xt5 (List.mem_of_getElem? (i := 129) (by decide +kernel))) rfl, xg (w := (Jvm.Cond.selects "SmellBurdensModel" ({ cls := "SmellBurdensModel", name := "skips", desc := "()V" } : Jvm.MethodName) ({ cls := "SmellBurdensModel", name := "skips", desc := "()V" } : Jvm.MethodName))) (xsl (List.mem_of_getElem? (i := 31) (by decide +kernel))) rfl, rfl⟩
theorem wdX11_167 : (Jvm.Cond.fieldLink "SmellBurdensModel" (167 : Nat) "SmellBurdensModel" "wrong" "I") ∈ xG := xg (xt4 (List.mem_of_getElem? (i := 203) (by decide +kernel))) rfl
def pX11_faults : List xE := [(0, 1, .aload_n 0, 0, 0, 0, []), (1, 1, .aload_n 0, 0, 0, 0, []), (2, 3, .getfield 167, 8, 20, 0, []), (5, 3, .ifCond .ge 7, 12, 0, 0, []), (8, 1, .iload_n 1, 1, 0, 0, []), (9, 3, .goto 7, 16, 0, 0, []), (12, 1, .aload_n 0, 0, 0, 0, []), (13, 3, .getfield 167, 8, 20, 0, []), (16, 3, .putfield 167, 8, 20, 0, []), (19, 1, .return_, 0, 0, 0, [])]
def mX11_faults : xM := (yX11_faults, cX11_faults, 2, (none : Option FieldType), 0, 1, 8, 0, 0, 0, pX11_faults)
theorem dX11_faults : xDec cX11_faults pX11_faults = true := by decide +kernel
theorem hX11_faults : xHd mX11_faults := ⟨xg (w := (Jvm.Cond.code ({ cls := "SmellBurdensModel", name := "faults", desc := "(I)V" } : Jvm.MethodName) prog_13_method_40_code (2 : Nat) (Option.none : Option Jvm.ClassFile.FieldType))) (xt5 (List.mem_of_getElem? (i := 138) (by decide +kernel))) rfl, xg (w := (Jvm.Cond.initialized "SmellBurdensModel")) (xt1 (List.mem_of_getElem? (i := 10) (by decide +kernel))) rfl, ⟨by decide +kernel, by decide +kernel, by decide +kernel⟩, xg (w := (Jvm.Cond.instanceMethod ({ cls := "SmellBurdensModel", name := "faults", desc := "(I)V" } : Jvm.MethodName))) (xt5 (List.mem_of_getElem? (i := 137) (by decide +kernel))) rfl, xg (w := (Jvm.Cond.selects "SmellBurdensModel" ({ cls := "SmellBurdensModel", name := "faults", desc := "(I)V" } : Jvm.MethodName) ({ cls := "SmellBurdensModel", name := "faults", desc := "(I)V" } : Jvm.MethodName))) (xsl (List.mem_of_getElem? (i := 33) (by decide +kernel))) rfl, rfl⟩
theorem wdX11_170 : (Jvm.Cond.methodLink "SmellBurdensModel" (170 : Nat) ({ cls := "SmellBurdensModel", name := "faults", desc := "(I)V" } : Jvm.MethodName)) ∈ xG := xg (xt5 (List.mem_of_getElem? (i := 135) (by decide +kernel))) rfl
def pX11_figure : List xE := [(0, 1, .aload_n 0, 0, 0, 0, []), (1, 1, .aload_n 0, 0, 0, 0, []), (2, 3, .getfield 161, 8, 19, 0, []), (5, 3, .invokevirtual 164, 0, 0, 0, []), (8, 2, .bipush 48, 48, 0, 0, []), (10, 1, .isub, 0, 0, 0, []), (11, 1, .istore_n 2, 2, 0, 0, []), (12, 1, .aload_n 0, 0, 0, 0, []), (13, 3, .getfield 167, 8, 20, 0, []), (16, 3, .ifCond .ge 22, 38, 0, 0, []), (19, 1, .iload_n 2, 2, 0, 0, []), (20, 1, .i2l, 0, 0, 0, []), (21, 1, .lconst 0, 0, 0, 0, []), (22, 1, .iload_n 1, 1, 0, 0, []), (23, 1, .i2l, 0, 0, 0, []), (24, 3, .invokestatic 90, 1, 0, 0, []), (27, 3, .ifCond .ne 11, 38, 0, 0, []), (30, 1, .aload_n 0, 0, 0, 0, []), (31, 1, .aload_n 0, 0, 0, 0, []), (32, 3, .getfield 161, 8, 19, 0, []), (35, 3, .invokevirtual 170, 2, 0, 0, []), (38, 1, .aload_n 0, 0, 0, 0, []), (39, 1, .dup, 0, 0, 0, []), (40, 3, .getfield 161, 8, 19, 0, []), (43, 1, .iconst 1, 1, 0, 0, []), (44, 1, .iadd, 0, 0, 0, []), (45, 3, .putfield 161, 8, 19, 0, []), (48, 1, .iload_n 2, 2, 0, 0, []), (49, 1, .ireturn, 0, 0, 0, [])]
def mX11_figure : xM := (yX11_figure, cX11_figure, 3, (some FieldType.int), 0, 1, 8, 1, 25, 0, pX11_figure)
theorem dX11_figure : xDec cX11_figure pX11_figure = true := by decide +kernel
theorem hX11_figure : xHd mX11_figure := ⟨xg (w := (Jvm.Cond.code ({ cls := "SmellBurdensModel", name := "figure", desc := "(I)I" } : Jvm.MethodName) prog_13_method_41_code (3 : Nat) (Option.some Jvm.ClassFile.FieldType.int))) (xt5 (List.mem_of_getElem? (i := 142) (by decide +kernel))) rfl, xg (w := (Jvm.Cond.initialized "SmellBurdensModel")) (xt1 (List.mem_of_getElem? (i := 10) (by decide +kernel))) rfl, ⟨by decide +kernel, by decide +kernel, by decide +kernel⟩, xg (w := (Jvm.Cond.instanceMethod ({ cls := "SmellBurdensModel", name := "figure", desc := "(I)I" } : Jvm.MethodName))) (xt5 (List.mem_of_getElem? (i := 141) (by decide +kernel))) rfl, xg (w := (Jvm.Cond.selects "SmellBurdensModel" ({ cls := "SmellBurdensModel", name := "figure", desc := "(I)I" } : Jvm.MethodName) ({ cls := "SmellBurdensModel", name := "figure", desc := "(I)I" } : Jvm.MethodName))) (xsl (List.mem_of_getElem? (i := 34) (by decide +kernel))) rfl, rfl⟩
theorem wdX11_174 : (Jvm.Cond.methodLink "SmellBurdensModel" (174 : Nat) ({ cls := "SmellBurdensModel", name := "figure", desc := "(I)I" } : Jvm.MethodName)) ∈ xG := xg (xt5 (List.mem_of_getElem? (i := 139) (by decide +kernel))) rfl
def pX11_twoFigures : List xE := [(0, 1, .aload_n 0, 0, 0, 0, []), (1, 3, .getfield 161, 8, 19, 0, []), (4, 1, .istore_n 1, 1, 0, 0, []), (5, 2, .bipush 10, 10, 0, 0, []), (7, 1, .aload_n 0, 0, 0, 0, []), (8, 2, .bipush 9, 9, 0, 0, []), (10, 3, .invokevirtual 174, 0, 0, 0, []), (13, 1, .imul, 0, 0, 0, []), (14, 1, .istore_n 2, 2, 0, 0, []), (15, 1, .iload_n 2, 2, 0, 0, []), (16, 1, .aload_n 0, 0, 0, 0, []), (17, 2, .bipush 9, 9, 0, 0, []), (19, 3, .invokevirtual 174, 0, 0, 0, []), (22, 1, .iadd, 0, 0, 0, []), (23, 1, .istore_n 2, 2, 0, 0, []), (24, 1, .aload_n 0, 0, 0, 0, []), (25, 3, .getfield 167, 8, 20, 0, []), (28, 3, .ifCond .ge 14, 42, 0, 0, []), (31, 1, .iload_n 2, 2, 0, 0, []), (32, 2, .bipush 15, 15, 0, 0, []), (34, 3, .if_icmp .le 8, 42, 0, 0, []), (37, 1, .aload_n 0, 0, 0, 0, []), (38, 1, .iload_n 1, 1, 0, 0, []), (39, 3, .invokevirtual 170, 1, 0, 0, []), (42, 1, .iload_n 2, 2, 0, 0, []), (43, 1, .ireturn, 0, 0, 0, [])]
def mX11_twoFigures : xM := (yX11_twoFigures, cX11_twoFigures, 3, (some FieldType.int), 0, 0, 8, 2, 47, 0, pX11_twoFigures)
theorem dX11_twoFigures : xDec cX11_twoFigures pX11_twoFigures = true := by decide +kernel
theorem hX11_twoFigures : xHd mX11_twoFigures := ⟨xg (w := (Jvm.Cond.code ({ cls := "SmellBurdensModel", name := "twoFigures", desc := "()I" } : Jvm.MethodName) prog_13_method_42_code (3 : Nat) (Option.some Jvm.ClassFile.FieldType.int))) (xt5 (List.mem_of_getElem? (i := 157) (by decide +kernel))) rfl, xg (w := (Jvm.Cond.initialized "SmellBurdensModel")) (xt1 (List.mem_of_getElem? (i := 10) (by decide +kernel))) rfl, ⟨by decide +kernel, by decide +kernel, by decide +kernel⟩, xg (w := (Jvm.Cond.instanceMethod ({ cls := "SmellBurdensModel", name := "twoFigures", desc := "()I" } : Jvm.MethodName))) (xt5 (List.mem_of_getElem? (i := 156) (by decide +kernel))) rfl, xg (w := (Jvm.Cond.selects "SmellBurdensModel" ({ cls := "SmellBurdensModel", name := "twoFigures", desc := "()I" } : Jvm.MethodName) ({ cls := "SmellBurdensModel", name := "twoFigures", desc := "()I" } : Jvm.MethodName))) (xsl (List.mem_of_getElem? (i := 37) (by decide +kernel))) rfl, rfl⟩
def pX11_sortOf : List xE := [(0, 1, .iload_n 0, 0, 0, 0, []), (1, 2, .bipush 97, 97, 0, 0, []), (3, 3, .if_icmp .ne 7, 10, 0, 0, []), (6, 1, .iconst 0, 0, 0, 0, []), (7, 3, .goto 55, 62, 0, 0, []), (10, 1, .iload_n 0, 0, 0, 0, []), (11, 2, .bipush 103, 103, 0, 0, []), (13, 3, .if_icmp .ne 7, 20, 0, 0, []), (16, 1, .iconst 1, 1, 0, 0, []), (17, 3, .goto 45, 62, 0, 0, []), (20, 1, .iload_n 0, 0, 0, 0, []), (21, 2, .bipush 121, 121, 0, 0, []), (23, 3, .if_icmp .ne 7, 30, 0, 0, []), (26, 1, .iconst 2, 2, 0, 0, []), (27, 3, .goto 35, 62, 0, 0, []), (30, 1, .iload_n 0, 0, 0, 0, []), (31, 2, .bipush 115, 115, 0, 0, []), (33, 3, .if_icmp .ne 7, 40, 0, 0, []), (36, 1, .iconst 3, 3, 0, 0, []), (37, 3, .goto 25, 62, 0, 0, []), (40, 1, .iload_n 0, 0, 0, 0, []), (41, 2, .bipush 111, 111, 0, 0, []), (43, 3, .if_icmp .ne 7, 50, 0, 0, []), (46, 1, .iconst 4, 4, 0, 0, []), (47, 3, .goto 15, 62, 0, 0, []), (50, 1, .iload_n 0, 0, 0, 0, []), (51, 2, .bipush 109, 109, 0, 0, []), (53, 3, .if_icmp .ne 7, 60, 0, 0, []), (56, 1, .iconst 5, 5, 0, 0, []), (57, 3, .goto 5, 62, 0, 0, []), (60, 2, .bipush (-9), 9, 0, 0, []), (62, 1, .ireturn, 0, 0, 0, [])]
def mX11_sortOf : xM := (yX11_sortOf, cX11_sortOf, 1, (some FieldType.int), 1, 1, 8, 0, 0, 0, pX11_sortOf)
theorem dX11_sortOf : xDec cX11_sortOf pX11_sortOf = true := by decide +kernel
theorem hX11_sortOf : xHd mX11_sortOf := ⟨xg (w := (Jvm.Cond.code ({ cls := "SmellBurdensModel", name := "sortOf", desc := "(I)I" } : Jvm.MethodName) prog_13_method_43_code (1 : Nat) (Option.some Jvm.ClassFile.FieldType.int))) (xt5 (List.mem_of_getElem? (i := 149) (by decide +kernel))) rfl, xg (w := (Jvm.Cond.initialized "SmellBurdensModel")) (xt1 (List.mem_of_getElem? (i := 10) (by decide +kernel))) rfl, ⟨by decide +kernel, by decide +kernel, by decide +kernel⟩, xg (w := (Jvm.Cond.static ({ cls := "SmellBurdensModel", name := "sortOf", desc := "(I)I" } : Jvm.MethodName))) (xt5 (List.mem_of_getElem? (i := 148) (by decide +kernel))) rfl⟩
theorem wdX11_177 : (Jvm.Cond.methodLink "SmellBurdensModel" (177 : Nat) ({ cls := "SmellBurdensModel", name := "twoFigures", desc := "()I" } : Jvm.MethodName)) ∈ xG := xg (xt5 (List.mem_of_getElem? (i := 154) (by decide +kernel))) rfl
def pX11_readAss : List xE := [(0, 1, .aload_n 0, 0, 0, 0, []), (1, 3, .getfield 43, 8, 21, 0, []), (4, 1, .iconst 1, 1, 0, 0, []), (5, 1, .iaload, 0, 0, 0, []), (6, 3, .ifCond .gt 13, 19, 0, 0, []), (9, 1, .aload_n 0, 0, 0, 0, []), (10, 3, .getfield 43, 8, 21, 0, []), (13, 1, .iconst 0, 0, 0, 0, []), (14, 1, .iaload, 0, 0, 0, []), (15, 1, .iconst 4, 4, 0, 0, []), (16, 3, .if_icmp .ne 12, 28, 0, 0, []), (19, 1, .aload_n 0, 0, 0, 0, []), (20, 1, .aload_n 0, 0, 0, 0, []), (21, 3, .getfield 161, 8, 19, 0, []), (24, 3, .invokevirtual 170, 0, 0, 0, []), (27, 1, .return_, 0, 0, 0, []), (28, 1, .aload_n 0, 0, 0, 0, []), (29, 1, .dup, 0, 0, 0, []), (30, 3, .getfield 161, 8, 19, 0, []), (33, 1, .iconst 1, 1, 0, 0, []), (34, 1, .iadd, 0, 0, 0, []), (35, 3, .putfield 161, 8, 19, 0, []), (38, 2, .bipush 7, 7, 0, 0, []), (40, 1, .iconst 3, 3, 0, 0, []), (41, 1, .aload_n 0, 0, 0, 0, []), (42, 3, .getfield 43, 8, 21, 0, []), (45, 1, .iconst 0, 0, 0, 0, []), (46, 1, .iaload, 0, 0, 0, []), (47, 1, .imul, 0, 0, 0, []), (48, 1, .iadd, 0, 0, 0, []), (49, 1, .istore_n 2, 2, 0, 0, []), (50, 1, .aload_n 0, 0, 0, 0, []), (51, 3, .getfield 43, 8, 21, 0, []), (54, 1, .iload_n 2, 2, 0, 0, []), (55, 1, .iload_n 1, 1, 0, 0, []), (56, 1, .iastore, 0, 0, 0, []), (57, 1, .aload_n 0, 0, 0, 0, []), (58, 3, .getfield 43, 8, 21, 0, []), (61, 1, .iload_n 2, 2, 0, 0, []), (62, 1, .iconst 1, 1, 0, 0, []), (63, 1, .iadd, 0, 0, 0, []), (64, 1, .aload_n 0, 0, 0, 0, []), (65, 3, .invokevirtual 177, 1, 0, 0, []), (68, 1, .iastore, 0, 0, 0, []), (69, 1, .aload_n 0, 0, 0, 0, []), (70, 3, .getfield 43, 8, 21, 0, []), (73, 1, .iload_n 2, 2, 0, 0, []), (74, 1, .iconst 2, 2, 0, 0, []), (75, 1, .iadd, 0, 0, 0, []), (76, 1, .aload_n 0, 0, 0, 0, []), (77, 1, .iconst 4, 4, 0, 0, []), (78, 3, .invokevirtual 174, 2, 0, 0, []), (81, 1, .iastore, 0, 0, 0, []), (82, 1, .aload_n 0, 0, 0, 0, []), (83, 3, .getfield 43, 8, 21, 0, []), (86, 1, .iconst 0, 0, 0, 0, []), (87, 1, .dup2, 0, 0, 0, []), (88, 1, .iaload, 0, 0, 0, []), (89, 1, .iconst 1, 1, 0, 0, []), (90, 1, .iadd, 0, 0, 0, []), (91, 1, .iastore, 0, 0, 0, []), (92, 1, .return_, 0, 0, 0, [])]
def mX11_readAss : xM := (yX11_readAss, cX11_readAss, 3, (none : Option FieldType), 0, 1, 8, 3, 69, 0, pX11_readAss)
theorem dX11_readAss : xDec cX11_readAss pX11_readAss = true := by decide +kernel
theorem hX11_readAss : xHd mX11_readAss := ⟨xg (w := (Jvm.Cond.code ({ cls := "SmellBurdensModel", name := "readAss", desc := "(I)V" } : Jvm.MethodName) prog_13_method_44_code (3 : Nat) (Option.none : Option Jvm.ClassFile.FieldType))) (xt5 (List.mem_of_getElem? (i := 153) (by decide +kernel))) rfl, xg (w := (Jvm.Cond.initialized "SmellBurdensModel")) (xt1 (List.mem_of_getElem? (i := 10) (by decide +kernel))) rfl, ⟨by decide +kernel, by decide +kernel, by decide +kernel⟩, xg (w := (Jvm.Cond.instanceMethod ({ cls := "SmellBurdensModel", name := "readAss", desc := "(I)V" } : Jvm.MethodName))) (xt5 (List.mem_of_getElem? (i := 152) (by decide +kernel))) rfl, xg (w := (Jvm.Cond.selects "SmellBurdensModel" ({ cls := "SmellBurdensModel", name := "readAss", desc := "(I)V" } : Jvm.MethodName) ({ cls := "SmellBurdensModel", name := "readAss", desc := "(I)V" } : Jvm.MethodName))) (xsl (List.mem_of_getElem? (i := 36) (by decide +kernel))) rfl, rfl⟩
def pX11_readLoad : List xE := [(0, 1, .aload_n 0, 0, 0, 0, []), (1, 3, .getfield 43, 8, 21, 0, []), (4, 1, .iconst 0, 0, 0, 0, []), (5, 1, .iaload, 0, 0, 0, []), (6, 3, .ifCond .eq 13, 19, 0, 0, []), (9, 1, .aload_n 0, 0, 0, 0, []), (10, 3, .getfield 43, 8, 21, 0, []), (13, 1, .iconst 1, 1, 0, 0, []), (14, 1, .iaload, 0, 0, 0, []), (15, 1, .iconst 5, 5, 0, 0, []), (16, 3, .if_icmp .ne 12, 28, 0, 0, []), (19, 1, .aload_n 0, 0, 0, 0, []), (20, 1, .aload_n 0, 0, 0, 0, []), (21, 3, .getfield 161, 8, 19, 0, []), (24, 3, .invokevirtual 170, 0, 0, 0, []), (27, 1, .return_, 0, 0, 0, []), (28, 1, .aload_n 0, 0, 0, 0, []), (29, 1, .dup, 0, 0, 0, []), (30, 3, .getfield 161, 8, 19, 0, []), (33, 1, .iconst 1, 1, 0, 0, []), (34, 1, .iadd, 0, 0, 0, []), (35, 3, .putfield 161, 8, 19, 0, []), (38, 2, .bipush 19, 19, 0, 0, []), (40, 1, .iconst 3, 3, 0, 0, []), (41, 1, .aload_n 0, 0, 0, 0, []), (42, 3, .getfield 43, 8, 21, 0, []), (45, 1, .iconst 1, 1, 0, 0, []), (46, 1, .iaload, 0, 0, 0, []), (47, 1, .imul, 0, 0, 0, []), (48, 1, .iadd, 0, 0, 0, []), (49, 1, .istore_n 1, 1, 0, 0, []), (50, 1, .aload_n 0, 0, 0, 0, []), (51, 3, .getfield 43, 8, 21, 0, []), (54, 1, .iload_n 1, 1, 0, 0, []), (55, 1, .aload_n 0, 0, 0, 0, []), (56, 3, .invokevirtual 177, 1, 0, 0, []), (59, 1, .iastore, 0, 0, 0, []), (60, 1, .aload_n 0, 0, 0, 0, []), (61, 3, .getfield 43, 8, 21, 0, []), (64, 1, .iload_n 1, 1, 0, 0, []), (65, 1, .iconst 1, 1, 0, 0, []), (66, 1, .iadd, 0, 0, 0, []), (67, 1, .aload_n 0, 0, 0, 0, []), (68, 1, .iconst 4, 4, 0, 0, []), (69, 3, .invokevirtual 174, 2, 0, 0, []), (72, 1, .iastore, 0, 0, 0, []), (73, 1, .aload_n 0, 0, 0, 0, []), (74, 3, .getfield 43, 8, 21, 0, []), (77, 1, .iload_n 1, 1, 0, 0, []), (78, 1, .iconst 2, 2, 0, 0, []), (79, 1, .iadd, 0, 0, 0, []), (80, 1, .aload_n 0, 0, 0, 0, []), (81, 1, .iconst 4, 4, 0, 0, []), (82, 3, .invokevirtual 174, 2, 0, 0, []), (85, 1, .iastore, 0, 0, 0, []), (86, 1, .aload_n 0, 0, 0, 0, []), (87, 3, .getfield 43, 8, 21, 0, []), (90, 1, .iconst 1, 1, 0, 0, []), (91, 1, .dup2, 0, 0, 0, []), (92, 1, .iaload, 0, 0, 0, []), (93, 1, .iconst 1, 1, 0, 0, []), (94, 1, .iadd, 0, 0, 0, []), (95, 1, .iastore, 0, 0, 0, []), (96, 1, .return_, 0, 0, 0, [])]
def mX11_readLoad : xM := (yX11_readLoad, cX11_readLoad, 2, (none : Option FieldType), 0, 0, 8, 3, 69, 0, pX11_readLoad)
theorem dX11_readLoad : xDec cX11_readLoad pX11_readLoad = true := by decide +kernel
theorem hX11_readLoad : xHd mX11_readLoad := ⟨xg (w := (Jvm.Cond.code ({ cls := "SmellBurdensModel", name := "readLoad", desc := "()V" } : Jvm.MethodName) prog_13_method_45_code (2 : Nat) (Option.none : Option Jvm.ClassFile.FieldType))) (xt5 (List.mem_of_getElem? (i := 161) (by decide +kernel))) rfl, xg (w := (Jvm.Cond.initialized "SmellBurdensModel")) (xt1 (List.mem_of_getElem? (i := 10) (by decide +kernel))) rfl, ⟨by decide +kernel, by decide +kernel, by decide +kernel⟩, xg (w := (Jvm.Cond.instanceMethod ({ cls := "SmellBurdensModel", name := "readLoad", desc := "()V" } : Jvm.MethodName))) (xt5 (List.mem_of_getElem? (i := 160) (by decide +kernel))) rfl, xg (w := (Jvm.Cond.selects "SmellBurdensModel" ({ cls := "SmellBurdensModel", name := "readLoad", desc := "()V" } : Jvm.MethodName) ({ cls := "SmellBurdensModel", name := "readLoad", desc := "()V" } : Jvm.MethodName))) (xsl (List.mem_of_getElem? (i := 38) (by decide +kernel))) rfl, rfl⟩
theorem wdX11_181 : (Jvm.Cond.methodLink "SmellBurdensModel" (181 : Nat) ({ cls := "SmellBurdensModel", name := "sortOf", desc := "(I)I" } : Jvm.MethodName)) ∈ xG := xg (xt5 (List.mem_of_getElem? (i := 147) (by decide +kernel))) rfl
theorem wdX11_184 : (Jvm.Cond.methodLink "SmellBurdensModel" (184 : Nat) ({ cls := "SmellBurdensModel", name := "readAss", desc := "(I)V" } : Jvm.MethodName)) ∈ xG := xg (xt5 (List.mem_of_getElem? (i := 150) (by decide +kernel))) rfl
theorem wdX11_187 : (Jvm.Cond.methodLink "SmellBurdensModel" (187 : Nat) ({ cls := "SmellBurdensModel", name := "readLoad", desc := "()V" } : Jvm.MethodName)) ∈ xG := xg (xt5 (List.mem_of_getElem? (i := 158) (by decide +kernel))) rfl
def pX11_readItem : List xE := [(0, 1, .aload_n 0, 0, 0, 0, []), (1, 1, .aload_n 0, 0, 0, 0, []), (2, 3, .getfield 161, 8, 19, 0, []), (5, 3, .invokevirtual 164, 0, 0, 0, []), (8, 1, .istore_n 1, 1, 0, 0, []), (9, 1, .iload_n 1, 1, 0, 0, []), (10, 3, .invokestatic 181, 1, 0, 0, []), (13, 1, .istore_n 2, 2, 0, 0, []), (14, 1, .iload_n 2, 2, 0, 0, []), (15, 2, .bipush (-9), 9, 0, 0, []), (17, 3, .if_icmp .eq 11, 28, 0, 0, []), (20, 1, .aload_n 0, 0, 0, 0, []), (21, 1, .iload_n 2, 2, 0, 0, []), (22, 3, .invokevirtual 184, 2, 0, 0, []), (25, 3, .goto 24, 49, 0, 0, []), (28, 1, .iload_n 1, 1, 0, 0, []), (29, 2, .bipush 108, 108, 0, 0, []), (31, 3, .if_icmp .ne 10, 41, 0, 0, []), (34, 1, .aload_n 0, 0, 0, 0, []), (35, 3, .invokevirtual 187, 3, 0, 0, []), (38, 3, .goto 11, 49, 0, 0, []), (41, 1, .aload_n 0, 0, 0, 0, []), (42, 1, .aload_n 0, 0, 0, 0, []), (43, 3, .getfield 161, 8, 19, 0, []), (46, 3, .invokevirtual 170, 4, 0, 0, []), (49, 1, .return_, 0, 0, 0, [])]
def mX11_readItem : xM := (yX11_readItem, cX11_readItem, 3, (none : Option FieldType), 0, 0, 8, 4, 91, 0, pX11_readItem)
theorem dX11_readItem : xDec cX11_readItem pX11_readItem = true := by decide +kernel
theorem hX11_readItem : xHd mX11_readItem := ⟨xg (w := (Jvm.Cond.code ({ cls := "SmellBurdensModel", name := "readItem", desc := "()V" } : Jvm.MethodName) prog_13_method_46_code (3 : Nat) (Option.none : Option Jvm.ClassFile.FieldType))) (xt5 (List.mem_of_getElem? (i := 146) (by decide +kernel))) rfl, xg (w := (Jvm.Cond.initialized "SmellBurdensModel")) (xt1 (List.mem_of_getElem? (i := 10) (by decide +kernel))) rfl, ⟨by decide +kernel, by decide +kernel, by decide +kernel⟩, xg (w := (Jvm.Cond.instanceMethod ({ cls := "SmellBurdensModel", name := "readItem", desc := "()V" } : Jvm.MethodName))) (xt5 (List.mem_of_getElem? (i := 145) (by decide +kernel))) rfl, xg (w := (Jvm.Cond.selects "SmellBurdensModel" ({ cls := "SmellBurdensModel", name := "readItem", desc := "()V" } : Jvm.MethodName) ({ cls := "SmellBurdensModel", name := "readItem", desc := "()V" } : Jvm.MethodName))) (xsl (List.mem_of_getElem? (i := 35) (by decide +kernel))) rfl, rfl⟩
theorem wdX11_190 : (Jvm.Cond.methodLink "SmellBurdensModel" (190 : Nat) ({ cls := "SmellBurdensModel", name := "skips", desc := "()V" } : Jvm.MethodName)) ∈ xG := xg (xt5 (List.mem_of_getElem? (i := 127) (by decide +kernel))) rfl
theorem wdX11_193 : (Jvm.Cond.methodLink "SmellBurdensModel" (193 : Nat) ({ cls := "SmellBurdensModel", name := "readItem", desc := "()V" } : Jvm.MethodName)) ∈ xG := xg (xt5 (List.mem_of_getElem? (i := 143) (by decide +kernel))) rfl
def pX11_reads_0 : List xE := [(0, 1, .aload_n 0, 0, 0, 0, []), (1, 1, .aload_n 0, 0, 0, 0, []), (2, 3, .getfield 19, 8, 7, 0, []), (5, 1, .iload_n 1, 1, 0, 0, []), (6, 1, .iaload, 0, 0, 0, []), (7, 3, .putfield 155, 8, 17, 0, []), (10, 1, .aload_n 0, 0, 0, 0, []), (11, 2, .bipush 60, 60, 0, 0, []), (13, 1, .iload_n 1, 1, 0, 0, []), (14, 1, .imul, 0, 0, 0, []), (15, 3, .putfield 158, 8, 18, 0, []), (18, 1, .aload_n 0, 0, 0, 0, []), (19, 1, .iconst 0, 0, 0, 0, []), (20, 3, .putfield 161, 8, 19, 0, []), (23, 1, .aload_n 0, 0, 0, 0, []), (24, 1, .iconst (-1), 1, 0, 0, []), (25, 3, .putfield 167, 8, 20, 0, []), (28, 1, .aload_n 0, 0, 0, 0, []), (29, 3, .getfield 43, 8, 21, 0, []), (32, 1, .iconst 0, 0, 0, 0, []), (33, 1, .iconst 0, 0, 0, 0, []), (34, 1, .iastore, 0, 0, 0, []), (35, 1, .aload_n 0, 0, 0, 0, []), (36, 3, .getfield 43, 8, 21, 0, []), (39, 1, .iconst 1, 1, 0, 0, []), (40, 1, .iconst 0, 0, 0, 0, []), (41, 1, .iastore, 0, 0, 0, []), (42, 1, .aload_n 0, 0, 0, 0, []), (43, 3, .invokevirtual 190, 0, 0, 0, []), (46, 1, .aload_n 0, 0, 0, 0, []), (47, 1, .aload_n 0, 0, 0, 0, []), (48, 3, .getfield 161, 8, 19, 0, []), (51, 3, .invokevirtual 164, 1, 0, 0, []), (54, 2, .bipush 110, 110, 0, 0, []), (56, 3, .if_icmp .eq 11, 67, 0, 0, []), (59, 1, .aload_n 0, 0, 0, 0, []), (60, 1, .aload_n 0, 0, 0, 0, []), (61, 3, .getfield 161, 8, 19, 0, []), (64, 3, .invokevirtual 170, 2, 0, 0, []), (67, 1, .aload_n 0, 0, 0, 0, []), (68, 1, .dup, 0, 0, 0, []), (69, 3, .getfield 161, 8, 19, 0, []), (72, 1, .iconst 1, 1, 0, 0, []), (73, 1, .iadd, 0, 0, 0, []), (74, 3, .putfield 161, 8, 19, 0, []), (77, 1, .iconst 0, 0, 0, 0, []), (78, 1, .istore_n 2, 2, 0, 0, []), (79, 1, .iload_n 2, 2, 0, 0, []), (80, 1, .iconst 5, 5, 0, 0, []), (81, 3, .if_icmp .ge 22, 103, 0, 0, []), (84, 1, .aload_n 0, 0, 0, 0, []), (85, 3, .getfield 43, 8, 21, 0, []), (88, 1, .iconst 2, 2, 0, 0, []), (89, 1, .iload_n 2, 2, 0, 0, []), (90, 1, .iadd, 0, 0, 0, []), (91, 1, .aload_n 0, 0, 0, 0, []), (92, 1, .iconst 4, 4, 0, 0, []), (93, 3, .invokevirtual 174, 3, 0, 0, []), (96, 1, .iastore, 0, 0, 0, []), (97, 3, .iinc 2 1, 2, 1, 0, []), (100, 3, .goto (-21), 79, 0, 0, []), (103, 1, .aload_n 0, 0, 0, 0, []), (104, 3, .invokevirtual 190, 0, 0, 0, []), (107, 1, .aload_n 0, 0, 0, 0, []), (108, 3, .getfield 167, 8, 20, 0, []), (111, 3, .ifCond .ge 25, 136, 0, 0, []), (114, 1, .aload_n 0, 0, 0, 0, []), (115, 3, .getfield 161, 8, 19, 0, []), (118, 1, .aload_n 0, 0, 0, 0, []), (119, 3, .getfield 155, 8, 17, 0, []), (122, 3, .if_icmp .ge 14, 136, 0, 0, []), (125, 1, .aload_n 0, 0, 0, 0, []), (126, 3, .invokevirtual 193, 4, 0, 0, []), (129, 1, .aload_n 0, 0, 0, 0, []), (130, 3, .invokevirtual 190, 0, 0, 0, []), (133, 3, .goto (-26), 107, 0, 0, []), (136, 1, .aload_n 0, 0, 0, 0, []), (137, 3, .getfield 167, 8, 20, 0, []), (140, 3, .ifCond .ge 20, 160, 0, 0, []), (143, 1, .aload_n 0, 0, 0, 0, [])]
def pX11_reads_1 : List xE := [(144, 3, .getfield 43, 8, 21, 0, []), (147, 1, .iconst 1, 1, 0, 0, []), (148, 1, .iaload, 0, 0, 0, []), (149, 3, .ifCond .ne 11, 160, 0, 0, []), (152, 1, .aload_n 0, 0, 0, 0, []), (153, 1, .aload_n 0, 0, 0, 0, []), (154, 3, .getfield 155, 8, 17, 0, []), (157, 3, .invokevirtual 170, 2, 0, 0, []), (160, 1, .aload_n 0, 0, 0, 0, []), (161, 3, .getfield 167, 8, 20, 0, []), (164, 3, .ifCond .ge 8, 172, 0, 0, []), (167, 2, .bipush (-9), 9, 0, 0, []), (169, 3, .goto 25, 194, 0, 0, []), (172, 1, .aload_n 0, 0, 0, 0, []), (173, 3, .getfield 167, 8, 20, 0, []), (176, 1, .aload_n 0, 0, 0, 0, []), (177, 3, .getfield 155, 8, 17, 0, []), (180, 3, .if_icmp .ge 10, 190, 0, 0, []), (183, 1, .aload_n 0, 0, 0, 0, []), (184, 3, .getfield 167, 8, 20, 0, []), (187, 3, .goto 7, 194, 0, 0, []), (190, 1, .aload_n 0, 0, 0, 0, []), (191, 3, .getfield 155, 8, 17, 0, []), (194, 1, .ireturn, 0, 0, 0, [])]
def pX11_reads : List xE := pX11_reads_0 ++ (pX11_reads_1)
def mX11_reads : xM := (yX11_reads, cX11_reads, 3, (some FieldType.int), 0, 1, 8, 5, 113, 0, pX11_reads)
theorem dX11_reads : xDec cX11_reads pX11_reads = true := by decide +kernel
theorem hX11_reads : xHd mX11_reads := ⟨xg (w := (Jvm.Cond.code ({ cls := "SmellBurdensModel", name := "reads", desc := "(I)I" } : Jvm.MethodName) prog_13_method_47_code (3 : Nat) (Option.some Jvm.ClassFile.FieldType.int))) (xt5 (List.mem_of_getElem? (i := 126) (by decide +kernel))) rfl, xg (w := (Jvm.Cond.initialized "SmellBurdensModel")) (xt1 (List.mem_of_getElem? (i := 10) (by decide +kernel))) rfl, ⟨by decide +kernel, by decide +kernel, by decide +kernel⟩, xg (w := (Jvm.Cond.instanceMethod ({ cls := "SmellBurdensModel", name := "reads", desc := "(I)I" } : Jvm.MethodName))) (xt5 (List.mem_of_getElem? (i := 125) (by decide +kernel))) rfl, xg (w := (Jvm.Cond.selects "SmellBurdensModel" ({ cls := "SmellBurdensModel", name := "reads", desc := "(I)I" } : Jvm.MethodName) ({ cls := "SmellBurdensModel", name := "reads", desc := "(I)I" } : Jvm.MethodName))) (xsl (List.mem_of_getElem? (i := 30) (by decide +kernel))) rfl, rfl⟩
theorem wdX11_196 : (Jvm.Cond.methodLink "SmellBurdensModel" (196 : Nat) ({ cls := "SmellBurdensModel", name := "reads", desc := "(I)I" } : Jvm.MethodName)) ∈ xG := xg (xt5 (List.mem_of_getElem? (i := 123) (by decide +kernel))) rfl
def pX11_fault : List xE := [(0, 1, .iload_n 1, 1, 0, 0, []), (1, 3, .invokestatic 115, 0, 0, 0, []), (4, 3, .ifCond .ne 5, 9, 0, 0, []), (7, 1, .iconst (-1), 1, 0, 0, []), (8, 1, .ireturn, 0, 0, 0, []), (9, 1, .aload_n 0, 0, 0, 0, []), (10, 3, .getfield 19, 8, 7, 0, []), (13, 1, .iload_n 1, 1, 0, 0, []), (14, 1, .iaload, 0, 0, 0, []), (15, 3, .ifCond .ge 11, 26, 0, 0, []), (18, 1, .aload_n 0, 0, 0, 0, []), (19, 1, .iconst 1, 1, 0, 0, []), (20, 3, .invokevirtual 100, 1, 0, 0, []), (23, 3, .goto 8, 31, 0, 0, []), (26, 1, .aload_n 0, 0, 0, 0, []), (27, 1, .iload_n 1, 1, 0, 0, []), (28, 3, .invokevirtual 196, 2, 0, 0, []), (31, 1, .ireturn, 0, 0, 0, [])]
def mX11_fault : xM := (yX11_fault, cX11_fault, 2, (some FieldType.int), 0, 1, 8, 6, 135, 0, pX11_fault)
theorem dX11_fault : xDec cX11_fault pX11_fault = true := by decide +kernel
theorem hX11_fault : xHd mX11_fault := ⟨xg (w := (Jvm.Cond.code ({ cls := "SmellBurdensModel", name := "fault", desc := "(I)I" } : Jvm.MethodName) prog_13_method_48_code (2 : Nat) (Option.some Jvm.ClassFile.FieldType.int))) (xt5 (List.mem_of_getElem? (i := 122) (by decide +kernel))) rfl, xg (w := (Jvm.Cond.initialized "SmellBurdensModel")) (xt1 (List.mem_of_getElem? (i := 10) (by decide +kernel))) rfl, ⟨by decide +kernel, by decide +kernel, by decide +kernel⟩, xg (w := (Jvm.Cond.instanceMethod ({ cls := "SmellBurdensModel", name := "fault", desc := "(I)I" } : Jvm.MethodName))) (xt5 (List.mem_of_getElem? (i := 120) (by decide +kernel))) rfl, xg (w := (Jvm.Cond.selects "SmellBurdensModel" ({ cls := "SmellBurdensModel", name := "fault", desc := "(I)I" } : Jvm.MethodName) ({ cls := "SmellBurdensModel", name := "fault", desc := "(I)I" } : Jvm.MethodName))) (xt5 (List.mem_of_getElem? (i := 121) (by decide +kernel))) rfl, rfl⟩
theorem wdX11_199 : (Jvm.Cond.fieldLink "SmellBurdensModel" (199 : Nat) "SmellBurdensModel" "deeds" "I") ∈ xG := xg (xt4 (List.mem_of_getElem? (i := 205) (by decide +kernel))) rfl
def pX11_plain_0 : List xE := [(0, 1, .iload_n 1, 1, 0, 0, []), (1, 3, .invokestatic 115, 0, 0, 0, []), (4, 3, .ifCond .ne 5, 9, 0, 0, []), (7, 1, .iconst (-1), 1, 0, 0, []), (8, 1, .ireturn, 0, 0, 0, []), (9, 1, .aload_n 0, 0, 0, 0, []), (10, 3, .getfield 19, 8, 7, 0, []), (13, 1, .iload_n 1, 1, 0, 0, []), (14, 1, .iaload, 0, 0, 0, []), (15, 3, .ifCond .ge 9, 24, 0, 0, []), (18, 1, .aload_n 0, 0, 0, 0, []), (19, 1, .iconst 1, 1, 0, 0, []), (20, 3, .invokevirtual 100, 1, 0, 0, []), (23, 1, .ireturn, 0, 0, 0, []), (24, 1, .aload_n 0, 0, 0, 0, []), (25, 1, .iload_n 1, 1, 0, 0, []), (26, 3, .invokevirtual 196, 2, 0, 0, []), (29, 2, .bipush (-9), 9, 0, 0, []), (31, 3, .if_icmp .eq 6, 37, 0, 0, []), (34, 2, .bipush (-4), 4, 0, 0, []), (36, 1, .ireturn, 0, 0, 0, []), (37, 1, .aload_n 0, 0, 0, 0, []), (38, 1, .aload_n 0, 0, 0, 0, []), (39, 3, .getfield 43, 8, 21, 0, []), (42, 1, .iconst 0, 0, 0, 0, []), (43, 1, .iaload, 0, 0, 0, []), (44, 3, .putfield 118, 8, 10, 0, []), (47, 1, .aload_n 0, 0, 0, 0, []), (48, 1, .aload_n 0, 0, 0, 0, []), (49, 3, .getfield 43, 8, 21, 0, []), (52, 1, .iconst 1, 1, 0, 0, []), (53, 1, .iaload, 0, 0, 0, []), (54, 3, .putfield 121, 8, 11, 0, []), (57, 1, .aload_n 0, 0, 0, 0, []), (58, 3, .getfield 37, 8, 15, 0, []), (61, 1, .iconst 0, 0, 0, 0, []), (62, 1, .iconst 0, 0, 0, 0, []), (63, 1, .iastore, 0, 0, 0, []), (64, 1, .iconst 0, 0, 0, 0, []), (65, 1, .istore_n 2, 2, 0, 0, []), (66, 1, .iload_n 2, 2, 0, 0, []), (67, 1, .iconst 5, 5, 0, 0, []), (68, 3, .if_icmp .ge 23, 91, 0, 0, []), (71, 1, .aload_n 0, 0, 0, 0, []), (72, 3, .getfield 28, 8, 12, 0, []), (75, 1, .iload_n 2, 2, 0, 0, []), (76, 1, .aload_n 0, 0, 0, 0, []), (77, 3, .getfield 43, 8, 21, 0, []), (80, 1, .iconst 2, 2, 0, 0, []), (81, 1, .iload_n 2, 2, 0, 0, []), (82, 1, .iadd, 0, 0, 0, []), (83, 1, .iaload, 0, 0, 0, []), (84, 1, .iastore, 0, 0, 0, []), (85, 3, .iinc 2 1, 2, 1, 0, []), (88, 3, .goto (-22), 66, 0, 0, []), (91, 1, .iconst 0, 0, 0, 0, []), (92, 1, .istore_n 2, 2, 0, 0, []), (93, 1, .iload_n 2, 2, 0, 0, []), (94, 1, .aload_n 0, 0, 0, 0, []), (95, 3, .getfield 118, 8, 10, 0, []), (98, 3, .if_icmp .ge 64, 162, 0, 0, []), (101, 1, .aload_n 0, 0, 0, 0, []), (102, 3, .getfield 31, 8, 13, 0, []), (105, 1, .iload_n 2, 2, 0, 0, []), (106, 1, .aload_n 0, 0, 0, 0, []), (107, 3, .getfield 43, 8, 21, 0, []), (110, 2, .bipush 7, 7, 0, 0, []), (112, 1, .iconst 3, 3, 0, 0, []), (113, 1, .iload_n 2, 2, 0, 0, []), (114, 1, .imul, 0, 0, 0, []), (115, 1, .iadd, 0, 0, 0, []), (116, 1, .iaload, 0, 0, 0, []), (117, 1, .iastore, 0, 0, 0, []), (118, 1, .aload_n 0, 0, 0, 0, []), (119, 3, .getfield 37, 8, 15, 0, []), (122, 1, .iconst 1, 1, 0, 0, []), (123, 1, .iload_n 2, 2, 0, 0, []), (124, 1, .iadd, 0, 0, 0, []), (125, 1, .aload_n 0, 0, 0, 0, []), (126, 3, .getfield 43, 8, 21, 0, [])]
def pX11_plain_1 : List xE := [(129, 2, .bipush 8, 8, 0, 0, []), (131, 1, .iconst 3, 3, 0, 0, []), (132, 1, .iload_n 2, 2, 0, 0, []), (133, 1, .imul, 0, 0, 0, []), (134, 1, .iadd, 0, 0, 0, []), (135, 1, .iaload, 0, 0, 0, []), (136, 1, .iastore, 0, 0, 0, []), (137, 1, .aload_n 0, 0, 0, 0, []), (138, 3, .getfield 37, 8, 15, 0, []), (141, 1, .iconst 5, 5, 0, 0, []), (142, 1, .iload_n 2, 2, 0, 0, []), (143, 1, .iadd, 0, 0, 0, []), (144, 1, .aload_n 0, 0, 0, 0, []), (145, 3, .getfield 43, 8, 21, 0, []), (148, 2, .bipush 9, 9, 0, 0, []), (150, 1, .iconst 3, 3, 0, 0, []), (151, 1, .iload_n 2, 2, 0, 0, []), (152, 1, .imul, 0, 0, 0, []), (153, 1, .iadd, 0, 0, 0, []), (154, 1, .iaload, 0, 0, 0, []), (155, 1, .iastore, 0, 0, 0, []), (156, 3, .iinc 2 1, 2, 1, 0, []), (159, 3, .goto (-66), 93, 0, 0, []), (162, 1, .iconst 0, 0, 0, 0, []), (163, 1, .istore_n 2, 2, 0, 0, []), (164, 1, .iload_n 2, 2, 0, 0, []), (165, 1, .aload_n 0, 0, 0, 0, []), (166, 3, .getfield 121, 8, 11, 0, []), (169, 3, .if_icmp .ge 66, 235, 0, 0, []), (172, 1, .aload_n 0, 0, 0, 0, []), (173, 3, .getfield 37, 8, 15, 0, []), (176, 2, .bipush 9, 9, 0, 0, []), (178, 1, .iload_n 2, 2, 0, 0, []), (179, 1, .iadd, 0, 0, 0, []), (180, 1, .aload_n 0, 0, 0, 0, []), (181, 3, .getfield 43, 8, 21, 0, []), (184, 2, .bipush 19, 19, 0, 0, []), (186, 1, .iconst 3, 3, 0, 0, []), (187, 1, .iload_n 2, 2, 0, 0, []), (188, 1, .imul, 0, 0, 0, []), (189, 1, .iadd, 0, 0, 0, []), (190, 1, .iaload, 0, 0, 0, []), (191, 1, .iastore, 0, 0, 0, []), (192, 1, .aload_n 0, 0, 0, 0, []), (193, 3, .getfield 37, 8, 15, 0, []), (196, 2, .bipush 14, 14, 0, 0, []), (198, 1, .iload_n 2, 2, 0, 0, []), (199, 1, .iadd, 0, 0, 0, []), (200, 1, .aload_n 0, 0, 0, 0, []), (201, 3, .getfield 43, 8, 21, 0, []), (204, 2, .bipush 20, 20, 0, 0, []), (206, 1, .iconst 3, 3, 0, 0, []), (207, 1, .iload_n 2, 2, 0, 0, []), (208, 1, .imul, 0, 0, 0, []), (209, 1, .iadd, 0, 0, 0, []), (210, 1, .iaload, 0, 0, 0, []), (211, 1, .iastore, 0, 0, 0, []), (212, 1, .aload_n 0, 0, 0, 0, []), (213, 3, .getfield 34, 8, 14, 0, []), (216, 1, .iload_n 2, 2, 0, 0, []), (217, 1, .aload_n 0, 0, 0, 0, []), (218, 3, .getfield 43, 8, 21, 0, []), (221, 2, .bipush 21, 21, 0, 0, []), (223, 1, .iconst 3, 3, 0, 0, []), (224, 1, .iload_n 2, 2, 0, 0, []), (225, 1, .imul, 0, 0, 0, []), (226, 1, .iadd, 0, 0, 0, []), (227, 1, .iaload, 0, 0, 0, []), (228, 1, .iastore, 0, 0, 0, []), (229, 3, .iinc 2 1, 2, 1, 0, []), (232, 3, .goto (-68), 164, 0, 0, []), (235, 1, .aload_n 0, 0, 0, 0, []), (236, 1, .iconst 0, 0, 0, 0, []), (237, 3, .putfield 199, 8, 22, 0, []), (240, 1, .iconst 0, 0, 0, 0, []), (241, 1, .istore_n 2, 2, 0, 0, []), (242, 1, .iload_n 2, 2, 0, 0, []), (243, 1, .iconst 3, 3, 0, 0, []), (244, 3, .if_icmp .ge 16, 260, 0, 0, []), (247, 1, .aload_n 0, 0, 0, 0, [])]
def pX11_plain_2 : List xE := [(248, 3, .getfield 49, 8, 24, 0, []), (251, 1, .iload_n 2, 2, 0, 0, []), (252, 1, .iconst (-1), 1, 0, 0, []), (253, 1, .iastore, 0, 0, 0, []), (254, 3, .iinc 2 1, 2, 1, 0, []), (257, 3, .goto (-15), 242, 0, 0, []), (260, 1, .aload_n 0, 0, 0, 0, []), (261, 3, .getfield 121, 8, 11, 0, []), (264, 1, .ireturn, 0, 0, 0, [])]
def pX11_plain : List xE := pX11_plain_0 ++ (pX11_plain_1 ++ (pX11_plain_2))
def mX11_plain : xM := (yX11_plain, cX11_plain, 3, (some FieldType.int), 0, 1, 8, 6, 135, 0, pX11_plain)
theorem dX11_plain : xDec cX11_plain pX11_plain = true := by decide +kernel
theorem hX11_plain : xHd mX11_plain := ⟨xg (w := (Jvm.Cond.code ({ cls := "SmellBurdensModel", name := "plain", desc := "(I)I" } : Jvm.MethodName) prog_13_method_49_code (3 : Nat) (Option.some Jvm.ClassFile.FieldType.int))) (xt5 (List.mem_of_getElem? (i := 165) (by decide +kernel))) rfl, xg (w := (Jvm.Cond.initialized "SmellBurdensModel")) (xt1 (List.mem_of_getElem? (i := 10) (by decide +kernel))) rfl, ⟨by decide +kernel, by decide +kernel, by decide +kernel⟩, xg (w := (Jvm.Cond.instanceMethod ({ cls := "SmellBurdensModel", name := "plain", desc := "(I)I" } : Jvm.MethodName))) (xt5 (List.mem_of_getElem? (i := 163) (by decide +kernel))) rfl, xg (w := (Jvm.Cond.selects "SmellBurdensModel" ({ cls := "SmellBurdensModel", name := "plain", desc := "(I)I" } : Jvm.MethodName) ({ cls := "SmellBurdensModel", name := "plain", desc := "(I)I" } : Jvm.MethodName))) (xt5 (List.mem_of_getElem? (i := 164) (by decide +kernel))) rfl, rfl⟩
def pX11_ofAss : List xE := [(0, 1, .iload_n 2, 2, 0, 0, []), (1, 1, .iconst 3, 3, 0, 0, []), (2, 3, .if_icmp .ge 41, 43, 0, 0, []), (5, 1, .iload_n 2, 2, 0, 0, []), (6, 3, .ifCond .ne 12, 18, 0, 0, []), (9, 1, .aload_n 0, 0, 0, 0, []), (10, 3, .getfield 31, 8, 13, 0, []), (13, 1, .iload_n 1, 1, 0, 0, []), (14, 1, .iaload, 0, 0, 0, []), (15, 3, .goto 27, 42, 0, 0, []), (18, 1, .iload_n 2, 2, 0, 0, []), (19, 1, .iconst 1, 1, 0, 0, []), (20, 3, .if_icmp .ne 14, 34, 0, 0, []), (23, 1, .aload_n 0, 0, 0, 0, []), (24, 3, .getfield 37, 8, 15, 0, []), (27, 1, .iconst 1, 1, 0, 0, []), (28, 1, .iload_n 1, 1, 0, 0, []), (29, 1, .iadd, 0, 0, 0, []), (30, 1, .iaload, 0, 0, 0, []), (31, 3, .goto 11, 42, 0, 0, []), (34, 1, .aload_n 0, 0, 0, 0, []), (35, 3, .getfield 37, 8, 15, 0, []), (38, 1, .iconst 5, 5, 0, 0, []), (39, 1, .iload_n 1, 1, 0, 0, []), (40, 1, .iadd, 0, 0, 0, []), (41, 1, .iaload, 0, 0, 0, []), (42, 1, .ireturn, 0, 0, 0, []), (43, 1, .aload_n 0, 0, 0, 0, []), (44, 1, .iconst 0, 0, 0, 0, []), (45, 3, .invokevirtual 149, 0, 0, 0, []), (48, 1, .pop, 0, 0, 0, []), (49, 1, .aload_n 0, 0, 0, 0, []), (50, 3, .getfield 40, 8, 16, 0, []), (53, 1, .iload_n 1, 1, 0, 0, []), (54, 1, .iaload, 0, 0, 0, []), (55, 1, .ireturn, 0, 0, 0, [])]
def mX11_ofAss : xM := (yX11_ofAss, cX11_ofAss, 3, (some FieldType.int), 0, 2, 8, 6, 137, 0, pX11_ofAss)
theorem dX11_ofAss : xDec cX11_ofAss pX11_ofAss = true := by decide +kernel
theorem hX11_ofAss : xHd mX11_ofAss := ⟨xg (w := (Jvm.Cond.code ({ cls := "SmellBurdensModel", name := "ofAss", desc := "(II)I" } : Jvm.MethodName) prog_13_method_50_code (3 : Nat) (Option.some Jvm.ClassFile.FieldType.int))) (xt5 (List.mem_of_getElem? (i := 177) (by decide +kernel))) rfl, xg (w := (Jvm.Cond.initialized "SmellBurdensModel")) (xt1 (List.mem_of_getElem? (i := 10) (by decide +kernel))) rfl, ⟨by decide +kernel, by decide +kernel, by decide +kernel⟩, xg (w := (Jvm.Cond.instanceMethod ({ cls := "SmellBurdensModel", name := "ofAss", desc := "(II)I" } : Jvm.MethodName))) (xt5 (List.mem_of_getElem? (i := 176) (by decide +kernel))) rfl, xg (w := (Jvm.Cond.selects "SmellBurdensModel" ({ cls := "SmellBurdensModel", name := "ofAss", desc := "(II)I" } : Jvm.MethodName) ({ cls := "SmellBurdensModel", name := "ofAss", desc := "(II)I" } : Jvm.MethodName))) (xsl (List.mem_of_getElem? (i := 40) (by decide +kernel))) rfl, rfl⟩
def pX11_takerOf : List xE := [(0, 1, .aload_n 0, 0, 0, 0, []), (1, 1, .iconst 0, 0, 0, 0, []), (2, 3, .invokevirtual 149, 0, 0, 0, []), (5, 1, .pop, 0, 0, 0, []), (6, 2, .bipush (-9), 9, 0, 0, []), (8, 1, .istore_n 2, 2, 0, 0, []), (9, 1, .iconst 0, 0, 0, 0, []), (10, 1, .istore_n 3, 3, 0, 0, []), (11, 1, .iload_n 3, 3, 0, 0, []), (12, 1, .aload_n 0, 0, 0, 0, []), (13, 3, .getfield 118, 8, 10, 0, []), (16, 3, .if_icmp .ge 25, 41, 0, 0, []), (19, 1, .aload_n 0, 0, 0, 0, []), (20, 3, .getfield 40, 8, 16, 0, []), (23, 1, .iload_n 3, 3, 0, 0, []), (24, 1, .iaload, 0, 0, 0, []), (25, 1, .iload_n 1, 1, 0, 0, []), (26, 3, .if_icmp .ne 7, 33, 0, 0, []), (29, 1, .iload_n 3, 3, 0, 0, []), (30, 3, .goto 4, 34, 0, 0, []), (33, 1, .iload_n 2, 2, 0, 0, []), (34, 1, .istore_n 2, 2, 0, 0, []), (35, 3, .iinc 3 1, 3, 1, 0, []), (38, 3, .goto (-27), 11, 0, 0, []), (41, 1, .iload_n 2, 2, 0, 0, []), (42, 1, .ireturn, 0, 0, 0, [])]
def mX11_takerOf : xM := (yX11_takerOf, cX11_takerOf, 4, (some FieldType.int), 0, 1, 8, 6, 137, 0, pX11_takerOf)
theorem dX11_takerOf : xDec cX11_takerOf pX11_takerOf = true := by decide +kernel
theorem hX11_takerOf : xHd mX11_takerOf := ⟨xg (w := (Jvm.Cond.code ({ cls := "SmellBurdensModel", name := "takerOf", desc := "(I)I" } : Jvm.MethodName) prog_13_method_51_code (4 : Nat) (Option.some Jvm.ClassFile.FieldType.int))) (xt5 (List.mem_of_getElem? (i := 223) (by decide +kernel))) rfl, xg (w := (Jvm.Cond.initialized "SmellBurdensModel")) (xt1 (List.mem_of_getElem? (i := 10) (by decide +kernel))) rfl, ⟨by decide +kernel, by decide +kernel, by decide +kernel⟩, xg (w := (Jvm.Cond.instanceMethod ({ cls := "SmellBurdensModel", name := "takerOf", desc := "(I)I" } : Jvm.MethodName))) (xt5 (List.mem_of_getElem? (i := 222) (by decide +kernel))) rfl, xg (w := (Jvm.Cond.selects "SmellBurdensModel" ({ cls := "SmellBurdensModel", name := "takerOf", desc := "(I)I" } : Jvm.MethodName) ({ cls := "SmellBurdensModel", name := "takerOf", desc := "(I)I" } : Jvm.MethodName))) (xsl (List.mem_of_getElem? (i := 48) (by decide +kernel))) rfl, rfl⟩
theorem wdX11_202 : (Jvm.Cond.methodLink "SmellBurdensModel" (202 : Nat) ({ cls := "SmellBurdensModel", name := "takerOf", desc := "(I)I" } : Jvm.MethodName)) ∈ xG := xg (xt5 (List.mem_of_getElem? (i := 220) (by decide +kernel))) rfl
def pX11_ofLoad : List xE := [(0, 1, .iload_n 2, 2, 0, 0, []), (1, 3, .ifCond .ne 15, 16, 0, 0, []), (4, 1, .aload_n 0, 0, 0, 0, []), (5, 3, .getfield 37, 8, 15, 0, []), (8, 2, .bipush 9, 9, 0, 0, []), (10, 1, .iload_n 1, 1, 0, 0, []), (11, 1, .iadd, 0, 0, 0, []), (12, 1, .iaload, 0, 0, 0, []), (13, 3, .goto 60, 73, 0, 0, []), (16, 1, .iload_n 2, 2, 0, 0, []), (17, 1, .iconst 1, 1, 0, 0, []), (18, 3, .if_icmp .ne 15, 33, 0, 0, []), (21, 1, .aload_n 0, 0, 0, 0, []), (22, 3, .getfield 37, 8, 15, 0, []), (25, 2, .bipush 14, 14, 0, 0, []), (27, 1, .iload_n 1, 1, 0, 0, []), (28, 1, .iadd, 0, 0, 0, []), (29, 1, .iaload, 0, 0, 0, []), (30, 3, .goto 43, 73, 0, 0, []), (33, 1, .iload_n 2, 2, 0, 0, []), (34, 1, .iconst 2, 2, 0, 0, []), (35, 3, .if_icmp .ne 12, 47, 0, 0, []), (38, 1, .aload_n 0, 0, 0, 0, []), (39, 3, .getfield 34, 8, 14, 0, []), (42, 1, .iload_n 1, 1, 0, 0, []), (43, 1, .iaload, 0, 0, 0, []), (44, 3, .goto 29, 73, 0, 0, []), (47, 1, .iload_n 2, 2, 0, 0, []), (48, 1, .iconst 3, 3, 0, 0, []), (49, 3, .if_icmp .ne 19, 68, 0, 0, []), (52, 1, .aload_n 0, 0, 0, 0, []), (53, 1, .iload_n 1, 1, 0, 0, []), (54, 3, .invokevirtual 139, 0, 0, 0, []), (57, 3, .ifCond .eq 7, 64, 0, 0, []), (60, 1, .iconst 1, 1, 0, 0, []), (61, 3, .goto 12, 73, 0, 0, []), (64, 1, .iconst 0, 0, 0, 0, []), (65, 3, .goto 8, 73, 0, 0, []), (68, 1, .aload_n 0, 0, 0, 0, []), (69, 1, .iload_n 1, 1, 0, 0, []), (70, 3, .invokevirtual 202, 1, 0, 0, []), (73, 1, .ireturn, 0, 0, 0, [])]
def mX11_ofLoad : xM := (yX11_ofLoad, cX11_ofLoad, 3, (some FieldType.int), 0, 2, 8, 7, 160, 0, pX11_ofLoad)
theorem dX11_ofLoad : xDec cX11_ofLoad pX11_ofLoad = true := by decide +kernel
theorem hX11_ofLoad : xHd mX11_ofLoad := ⟨xg (w := (Jvm.Cond.code ({ cls := "SmellBurdensModel", name := "ofLoad", desc := "(II)I" } : Jvm.MethodName) prog_13_method_52_code (3 : Nat) (Option.some Jvm.ClassFile.FieldType.int))) (xt5 (List.mem_of_getElem? (i := 219) (by decide +kernel))) rfl, xg (w := (Jvm.Cond.initialized "SmellBurdensModel")) (xt1 (List.mem_of_getElem? (i := 10) (by decide +kernel))) rfl, ⟨by decide +kernel, by decide +kernel, by decide +kernel⟩, xg (w := (Jvm.Cond.instanceMethod ({ cls := "SmellBurdensModel", name := "ofLoad", desc := "(II)I" } : Jvm.MethodName))) (xt5 (List.mem_of_getElem? (i := 218) (by decide +kernel))) rfl, xg (w := (Jvm.Cond.selects "SmellBurdensModel" ({ cls := "SmellBurdensModel", name := "ofLoad", desc := "(II)I" } : Jvm.MethodName) ({ cls := "SmellBurdensModel", name := "ofLoad", desc := "(II)I" } : Jvm.MethodName))) (xsl (List.mem_of_getElem? (i := 47) (by decide +kernel))) rfl, rfl⟩
theorem wdX11_205 : (Jvm.Cond.methodLink "SmellBurdensModel" (205 : Nat) ({ cls := "SmellBurdensModel", name := "isAss", desc := "(I)Z" } : Jvm.MethodName)) ∈ xG := xg (xt5 (List.mem_of_getElem? (i := 170) (by decide +kernel))) rfl
theorem wdX11_208 : (Jvm.Cond.methodLink "SmellBurdensModel" (208 : Nat) ({ cls := "SmellBurdensModel", name := "ofAss", desc := "(II)I" } : Jvm.MethodName)) ∈ xG := xg (xt5 (List.mem_of_getElem? (i := 174) (by decide +kernel))) rfl
def pX11_ass : List xE := [(0, 1, .aload_n 0, 0, 0, 0, []), (1, 1, .iload_n 1, 1, 0, 0, []), (2, 3, .invokevirtual 205, 0, 0, 0, []), (5, 3, .ifCond .eq 28, 33, 0, 0, []), (8, 1, .iload_n 2, 2, 0, 0, []), (9, 1, .i2l, 0, 0, 0, []), (10, 1, .lconst 0, 0, 0, 0, []), (11, 3, .ldc2_w 94, 3, 0, 0, []), (14, 3, .invokestatic 90, 1, 0, 0, []), (17, 3, .ifCond .eq 16, 33, 0, 0, []), (20, 1, .aload_n 0, 0, 0, 0, []), (21, 1, .aload_n 0, 0, 0, 0, []), (22, 1, .iload_n 1, 1, 0, 0, []), (23, 1, .iload_n 2, 2, 0, 0, []), (24, 3, .invokevirtual 208, 2, 0, 0, []), (27, 3, .invokevirtual 112, 3, 0, 0, []), (30, 3, .goto 4, 34, 0, 0, []), (33, 1, .iconst (-1), 1, 0, 0, []), (34, 1, .ireturn, 0, 0, 0, [])]
def mX11_ass : xM := (yX11_ass, cX11_ass, 3, (some FieldType.int), 0, 2, 8, 7, 159, 0, pX11_ass)
theorem dX11_ass : xDec cX11_ass pX11_ass = true := by decide +kernel
theorem hX11_ass : xHd mX11_ass := ⟨xg (w := (Jvm.Cond.code ({ cls := "SmellBurdensModel", name := "ass", desc := "(II)I" } : Jvm.MethodName) prog_13_method_53_code (3 : Nat) (Option.some Jvm.ClassFile.FieldType.int))) (xt5 (List.mem_of_getElem? (i := 169) (by decide +kernel))) rfl, xg (w := (Jvm.Cond.initialized "SmellBurdensModel")) (xt1 (List.mem_of_getElem? (i := 10) (by decide +kernel))) rfl, ⟨by decide +kernel, by decide +kernel, by decide +kernel⟩, xg (w := (Jvm.Cond.instanceMethod ({ cls := "SmellBurdensModel", name := "ass", desc := "(II)I" } : Jvm.MethodName))) (xt5 (List.mem_of_getElem? (i := 167) (by decide +kernel))) rfl, xg (w := (Jvm.Cond.selects "SmellBurdensModel" ({ cls := "SmellBurdensModel", name := "ass", desc := "(II)I" } : Jvm.MethodName) ({ cls := "SmellBurdensModel", name := "ass", desc := "(II)I" } : Jvm.MethodName))) (xt5 (List.mem_of_getElem? (i := 168) (by decide +kernel))) rfl, rfl⟩
theorem wdX11_211 : (Jvm.Cond.methodLink "SmellBurdensModel" (211 : Nat) ({ cls := "SmellBurdensModel", name := "isLoad", desc := "(I)Z" } : Jvm.MethodName)) ∈ xG := xg (xt5 (List.mem_of_getElem? (i := 211) (by decide +kernel))) rfl
theorem wdX11_214 : (Jvm.Cond.constantLong "SmellBurdensModel" (214 : Nat) (4 : Int64)) ∈ xG := xg (xt5 (List.mem_of_getElem? (i := 215) (by decide +kernel))) rfl
theorem wdX11_216 : (Jvm.Cond.methodLink "SmellBurdensModel" (216 : Nat) ({ cls := "SmellBurdensModel", name := "ofLoad", desc := "(II)I" } : Jvm.MethodName)) ∈ xG := xg (xt5 (List.mem_of_getElem? (i := 216) (by decide +kernel))) rfl
def pX11_load : List xE := [(0, 1, .aload_n 0, 0, 0, 0, []), (1, 1, .iload_n 1, 1, 0, 0, []), (2, 3, .invokevirtual 211, 0, 0, 0, []), (5, 3, .ifCond .eq 28, 33, 0, 0, []), (8, 1, .iload_n 2, 2, 0, 0, []), (9, 1, .i2l, 0, 0, 0, []), (10, 1, .lconst 0, 0, 0, 0, []), (11, 3, .ldc2_w 214, 4, 0, 0, []), (14, 3, .invokestatic 90, 1, 0, 0, []), (17, 3, .ifCond .eq 16, 33, 0, 0, []), (20, 1, .aload_n 0, 0, 0, 0, []), (21, 1, .aload_n 0, 0, 0, 0, []), (22, 1, .iload_n 1, 1, 0, 0, []), (23, 1, .iload_n 2, 2, 0, 0, []), (24, 3, .invokevirtual 216, 2, 0, 0, []), (27, 3, .invokevirtual 112, 3, 0, 0, []), (30, 3, .goto 4, 34, 0, 0, []), (33, 1, .iconst (-1), 1, 0, 0, []), (34, 1, .ireturn, 0, 0, 0, [])]
def mX11_load : xM := (yX11_load, cX11_load, 3, (some FieldType.int), 0, 2, 8, 8, 182, 0, pX11_load)
theorem dX11_load : xDec cX11_load pX11_load = true := by decide +kernel
theorem hX11_load : xHd mX11_load := ⟨xg (w := (Jvm.Cond.code ({ cls := "SmellBurdensModel", name := "load", desc := "(II)I" } : Jvm.MethodName) prog_13_method_54_code (3 : Nat) (Option.some Jvm.ClassFile.FieldType.int))) (xt5 (List.mem_of_getElem? (i := 210) (by decide +kernel))) rfl, xg (w := (Jvm.Cond.initialized "SmellBurdensModel")) (xt1 (List.mem_of_getElem? (i := 10) (by decide +kernel))) rfl, ⟨by decide +kernel, by decide +kernel, by decide +kernel⟩, xg (w := (Jvm.Cond.instanceMethod ({ cls := "SmellBurdensModel", name := "load", desc := "(II)I" } : Jvm.MethodName))) (xt5 (List.mem_of_getElem? (i := 208) (by decide +kernel))) rfl, xg (w := (Jvm.Cond.selects "SmellBurdensModel" ({ cls := "SmellBurdensModel", name := "load", desc := "(II)I" } : Jvm.MethodName) ({ cls := "SmellBurdensModel", name := "load", desc := "(II)I" } : Jvm.MethodName))) (xt5 (List.mem_of_getElem? (i := 209) (by decide +kernel))) rfl, rfl⟩
def pX11_isA : List xE := [(0, 1, .iload_n 0, 0, 0, 0, []), (1, 1, .iload_n 1, 1, 0, 0, []), (2, 3, .if_icmp .eq 23, 25, 0, 0, []), (5, 1, .iload_n 0, 0, 0, 0, []), (6, 1, .iconst 4, 4, 0, 0, []), (7, 3, .if_icmp .ne 8, 15, 0, 0, []), (10, 1, .iload_n 1, 1, 0, 0, []), (11, 1, .iconst 1, 1, 0, 0, []), (12, 3, .if_icmp .eq 13, 25, 0, 0, []), (15, 1, .iload_n 0, 0, 0, 0, []), (16, 1, .iconst 5, 5, 0, 0, []), (17, 3, .if_icmp .ne 12, 29, 0, 0, []), (20, 1, .iload_n 1, 1, 0, 0, []), (21, 1, .iconst 3, 3, 0, 0, []), (22, 3, .if_icmp .ne 7, 29, 0, 0, []), (25, 1, .iconst 1, 1, 0, 0, []), (26, 3, .goto 4, 30, 0, 0, []), (29, 1, .iconst 0, 0, 0, 0, []), (30, 1, .ireturn, 0, 0, 0, [])]
def mX11_isA : xM := (yX11_isA, cX11_isA, 2, (some FieldType.boolean), 1, 2, 8, 0, 0, 0, pX11_isA)
theorem dX11_isA : xDec cX11_isA pX11_isA = true := by decide +kernel
theorem hX11_isA : xHd mX11_isA := ⟨xg (w := (Jvm.Cond.code ({ cls := "SmellBurdensModel", name := "isA", desc := "(II)Z" } : Jvm.MethodName) prog_13_method_55_code (2 : Nat) (Option.some Jvm.ClassFile.FieldType.boolean))) (xt5 (List.mem_of_getElem? (i := 230) (by decide +kernel))) rfl, xg (w := (Jvm.Cond.initialized "SmellBurdensModel")) (xt1 (List.mem_of_getElem? (i := 10) (by decide +kernel))) rfl, ⟨by decide +kernel, by decide +kernel, by decide +kernel⟩, xg (w := (Jvm.Cond.static ({ cls := "SmellBurdensModel", name := "isA", desc := "(II)Z" } : Jvm.MethodName))) (xt5 (List.mem_of_getElem? (i := 229) (by decide +kernel))) rfl⟩
def pX11_marksOf_0 : List xE := [(0, 1, .iconst 0, 0, 0, 0, []), (1, 1, .istore_n 3, 3, 0, 0, []), (2, 1, .iconst 0, 0, 0, 0, []), (3, 2, .istore 4, 4, 0, 0, []), (5, 1, .iconst 0, 0, 0, 0, []), (6, 2, .istore 5, 5, 0, 0, []), (8, 1, .iconst 0, 0, 0, 0, []), (9, 2, .istore 6, 6, 0, 0, []), (11, 2, .iload 6, 6, 0, 0, []), (13, 1, .aload_n 0, 0, 0, 0, []), (14, 3, .getfield 121, 8, 11, 0, []), (17, 3, .if_icmp .ge 83, 100, 0, 0, []), (20, 1, .aload_n 0, 0, 0, 0, []), (21, 1, .iload_n 1, 1, 0, 0, []), (22, 2, .iload 6, 6, 0, 0, []), (24, 3, .invokevirtual 136, 0, 0, 0, []), (27, 1, .iload_n 3, 3, 0, 0, []), (28, 3, .if_icmp .le 13, 41, 0, 0, []), (31, 1, .aload_n 0, 0, 0, 0, []), (32, 1, .iload_n 1, 1, 0, 0, []), (33, 2, .iload 6, 6, 0, 0, []), (35, 3, .invokevirtual 136, 0, 0, 0, []), (38, 3, .goto 4, 42, 0, 0, []), (41, 1, .iload_n 3, 3, 0, 0, []), (42, 1, .istore_n 3, 3, 0, 0, []), (43, 2, .iload 4, 4, 0, 0, []), (45, 1, .aload_n 0, 0, 0, 0, []), (46, 3, .getfield 37, 8, 15, 0, []), (49, 2, .bipush 9, 9, 0, 0, []), (51, 2, .iload 6, 6, 0, 0, []), (53, 1, .iadd, 0, 0, 0, []), (54, 1, .iaload, 0, 0, 0, []), (55, 1, .aload_n 0, 0, 0, 0, []), (56, 3, .getfield 37, 8, 15, 0, []), (59, 1, .iconst 1, 1, 0, 0, []), (60, 1, .iload_n 1, 1, 0, 0, []), (61, 1, .iadd, 0, 0, 0, []), (62, 1, .iaload, 0, 0, 0, []), (63, 3, .if_icmp .ne 7, 70, 0, 0, []), (66, 1, .iconst 1, 1, 0, 0, []), (67, 3, .goto 4, 71, 0, 0, []), (70, 1, .iconst 0, 0, 0, 0, []), (71, 1, .iadd, 0, 0, 0, []), (72, 2, .istore 4, 4, 0, 0, []), (74, 2, .iload 5, 5, 0, 0, []), (76, 1, .aload_n 0, 0, 0, 0, []), (77, 1, .iload_n 1, 1, 0, 0, []), (78, 2, .iload 6, 6, 0, 0, []), (80, 3, .invokevirtual 142, 1, 0, 0, []), (83, 3, .ifCond .eq 7, 90, 0, 0, []), (86, 1, .iconst 1, 1, 0, 0, []), (87, 3, .goto 4, 91, 0, 0, []), (90, 1, .iconst 0, 0, 0, 0, []), (91, 1, .iadd, 0, 0, 0, []), (92, 2, .istore 5, 5, 0, 0, []), (94, 3, .iinc 6 1, 6, 1, 0, []), (97, 3, .goto (-86), 11, 0, 0, []), (100, 1, .iload_n 2, 2, 0, 0, []), (101, 1, .iconst 1, 1, 0, 0, []), (102, 3, .if_icmp .ne 17, 119, 0, 0, []), (105, 1, .aload_n 0, 0, 0, 0, []), (106, 3, .getfield 37, 8, 15, 0, []), (109, 1, .iconst 1, 1, 0, 0, []), (110, 1, .iload_n 1, 1, 0, 0, []), (111, 1, .iadd, 0, 0, 0, []), (112, 1, .iaload, 0, 0, 0, []), (113, 3, .invokestatic 126, 2, 0, 0, []), (116, 3, .goto 33, 149, 0, 0, []), (119, 1, .iload_n 2, 2, 0, 0, []), (120, 1, .iconst 2, 2, 0, 0, []), (121, 3, .if_icmp .ne 8, 129, 0, 0, []), (124, 2, .iload 4, 4, 0, 0, []), (126, 3, .goto 23, 149, 0, 0, []), (129, 1, .iload_n 2, 2, 0, 0, []), (130, 1, .iconst 3, 3, 0, 0, []), (131, 3, .if_icmp .ne 8, 139, 0, 0, []), (134, 2, .iload 5, 5, 0, 0, []), (136, 3, .goto 13, 149, 0, 0, []), (139, 1, .iload_n 2, 2, 0, 0, []), (140, 1, .iconst 4, 4, 0, 0, [])]
def pX11_marksOf_1 : List xE := [(141, 3, .if_icmp .ne 7, 148, 0, 0, []), (144, 1, .iload_n 3, 3, 0, 0, []), (145, 3, .goto 4, 149, 0, 0, []), (148, 1, .iconst 4, 4, 0, 0, []), (149, 1, .ireturn, 0, 0, 0, [])]
def pX11_marksOf : List xE := pX11_marksOf_0 ++ (pX11_marksOf_1)
def mX11_marksOf : xM := (yX11_marksOf, cX11_marksOf, 7, (some FieldType.int), 0, 2, 8, 4, 89, 0, pX11_marksOf)
theorem dX11_marksOf : xDec cX11_marksOf pX11_marksOf = true := by decide +kernel
theorem hX11_marksOf : xHd mX11_marksOf := ⟨xg (w := (Jvm.Cond.code ({ cls := "SmellBurdensModel", name := "marksOf", desc := "(II)I" } : Jvm.MethodName) prog_13_method_56_code (7 : Nat) (Option.some Jvm.ClassFile.FieldType.int))) (xt5 (List.mem_of_getElem? (i := 234) (by decide +kernel))) rfl, xg (w := (Jvm.Cond.initialized "SmellBurdensModel")) (xt1 (List.mem_of_getElem? (i := 10) (by decide +kernel))) rfl, ⟨by decide +kernel, by decide +kernel, by decide +kernel⟩, xg (w := (Jvm.Cond.instanceMethod ({ cls := "SmellBurdensModel", name := "marksOf", desc := "(II)I" } : Jvm.MethodName))) (xt5 (List.mem_of_getElem? (i := 233) (by decide +kernel))) rfl, xg (w := (Jvm.Cond.selects "SmellBurdensModel" ({ cls := "SmellBurdensModel", name := "marksOf", desc := "(II)I" } : Jvm.MethodName) ({ cls := "SmellBurdensModel", name := "marksOf", desc := "(II)I" } : Jvm.MethodName))) (xsl (List.mem_of_getElem? (i := 49) (by decide +kernel))) rfl, rfl⟩
end
section
/-! 18.prog-ref2: printed of the program by wip/whole/gen_prog.py -/
theorem wdX11_219 : (Jvm.Cond.methodLink "SmellBurdensModel" (219 : Nat) ({ cls := "SmellBurdensModel", name := "isA", desc := "(II)Z" } : Jvm.MethodName)) ∈ xG := xg (xt5 (List.mem_of_getElem? (i := 228) (by decide +kernel))) rfl
theorem wdX11_222 : (Jvm.Cond.methodLink "SmellBurdensModel" (222 : Nat) ({ cls := "SmellBurdensModel", name := "marksOf", desc := "(II)I" } : Jvm.MethodName)) ∈ xG := xg (xt5 (List.mem_of_getElem? (i := 231) (by decide +kernel))) rfl
def pX11_mark : List xE := [(0, 1, .aload_n 0, 0, 0, 0, []), (1, 1, .iload_n 1, 1, 0, 0, []), (2, 3, .invokevirtual 205, 0, 0, 0, []), (5, 3, .ifCond .eq 15, 20, 0, 0, []), (8, 1, .iload_n 2, 2, 0, 0, []), (9, 1, .i2l, 0, 0, 0, []), (10, 1, .lconst 1, 1, 0, 0, []), (11, 3, .ldc2_w 88, 5, 0, 0, []), (14, 3, .invokestatic 90, 1, 0, 0, []), (17, 3, .ifCond .ne 5, 22, 0, 0, []), (20, 1, .iconst (-1), 1, 0, 0, []), (21, 1, .ireturn, 0, 0, 0, []), (22, 1, .aload_n 0, 0, 0, 0, []), (23, 3, .getfield 31, 8, 13, 0, []), (26, 1, .iload_n 1, 1, 0, 0, []), (27, 1, .iaload, 0, 0, 0, []), (28, 1, .iload_n 2, 2, 0, 0, []), (29, 3, .invokestatic 219, 2, 0, 0, []), (32, 3, .ifCond .eq 12, 44, 0, 0, []), (35, 1, .aload_n 0, 0, 0, 0, []), (36, 1, .iload_n 1, 1, 0, 0, []), (37, 1, .iload_n 2, 2, 0, 0, []), (38, 3, .invokevirtual 222, 3, 0, 0, []), (41, 3, .goto 8, 49, 0, 0, []), (44, 1, .aload_n 0, 0, 0, 0, []), (45, 1, .iconst 3, 3, 0, 0, []), (46, 3, .invokevirtual 100, 4, 0, 0, []), (49, 1, .ireturn, 0, 0, 0, [])]
def mX11_mark : xM := (yX11_mark, cX11_mark, 3, (some FieldType.int), 0, 2, 8, 5, 115, 0, pX11_mark)
theorem dX11_mark : xDec cX11_mark pX11_mark = true := by decide +kernel
theorem hX11_mark : xHd mX11_mark := ⟨xg (w := (Jvm.Cond.code ({ cls := "SmellBurdensModel", name := "mark", desc := "(II)I" } : Jvm.MethodName) prog_13_method_57_code (3 : Nat) (Option.some Jvm.ClassFile.FieldType.int))) (xt5 (List.mem_of_getElem? (i := 227) (by decide +kernel))) rfl, xg (w := (Jvm.Cond.initialized "SmellBurdensModel")) (xt1 (List.mem_of_getElem? (i := 10) (by decide +kernel))) rfl, ⟨by decide +kernel, by decide +kernel, by decide +kernel⟩, xg (w := (Jvm.Cond.instanceMethod ({ cls := "SmellBurdensModel", name := "mark", desc := "(II)I" } : Jvm.MethodName))) (xt5 (List.mem_of_getElem? (i := 225) (by decide +kernel))) rfl, xg (w := (Jvm.Cond.selects "SmellBurdensModel" ({ cls := "SmellBurdensModel", name := "mark", desc := "(II)I" } : Jvm.MethodName) ({ cls := "SmellBurdensModel", name := "mark", desc := "(II)I" } : Jvm.MethodName))) (xt5 (List.mem_of_getElem? (i := 226) (by decide +kernel))) rfl, rfl⟩
def pX11_notes : List xE := [(0, 1, .iconst 0, 0, 0, 0, []), (1, 1, .istore_n 1, 1, 0, 0, []), (2, 1, .iload_n 1, 1, 0, 0, []), (3, 2, .bipush 19, 19, 0, 0, []), (5, 3, .if_icmp .ge 29, 34, 0, 0, []), (8, 1, .aload_n 0, 0, 0, 0, []), (9, 3, .getfield 46, 8, 23, 0, []), (12, 2, .bipush 19, 19, 0, 0, []), (14, 1, .aload_n 0, 0, 0, 0, []), (15, 3, .getfield 199, 8, 22, 0, []), (18, 1, .imul, 0, 0, 0, []), (19, 1, .iload_n 1, 1, 0, 0, []), (20, 1, .iadd, 0, 0, 0, []), (21, 1, .aload_n 0, 0, 0, 0, []), (22, 3, .getfield 37, 8, 15, 0, []), (25, 1, .iload_n 1, 1, 0, 0, []), (26, 1, .iaload, 0, 0, 0, []), (27, 1, .iastore, 0, 0, 0, []), (28, 3, .iinc 1 1, 1, 1, 0, []), (31, 3, .goto (-29), 2, 0, 0, []), (34, 1, .aload_n 0, 0, 0, 0, []), (35, 1, .dup, 0, 0, 0, []), (36, 3, .getfield 199, 8, 22, 0, []), (39, 1, .iconst 1, 1, 0, 0, []), (40, 1, .iadd, 0, 0, 0, []), (41, 3, .putfield 199, 8, 22, 0, []), (44, 1, .return_, 0, 0, 0, [])]
def mX11_notes : xM := (yX11_notes, cX11_notes, 2, (none : Option FieldType), 0, 0, 8, 0, 0, 0, pX11_notes)
theorem dX11_notes : xDec cX11_notes pX11_notes = true := by decide +kernel
theorem hX11_notes : xHd mX11_notes := ⟨xg (w := (Jvm.Cond.code ({ cls := "SmellBurdensModel", name := "notes", desc := "()V" } : Jvm.MethodName) prog_13_method_58_code (2 : Nat) (Option.none : Option Jvm.ClassFile.FieldType))) (xt6 (List.mem_of_getElem? (i := 2) (by decide +kernel))) rfl, xg (w := (Jvm.Cond.initialized "SmellBurdensModel")) (xt1 (List.mem_of_getElem? (i := 10) (by decide +kernel))) rfl, ⟨by decide +kernel, by decide +kernel, by decide +kernel⟩, xg (w := (Jvm.Cond.instanceMethod ({ cls := "SmellBurdensModel", name := "notes", desc := "()V" } : Jvm.MethodName))) (xt6 (List.mem_of_getElem? (i := 1) (by decide +kernel))) rfl, xg (w := (Jvm.Cond.selects "SmellBurdensModel" ({ cls := "SmellBurdensModel", name := "notes", desc := "()V" } : Jvm.MethodName) ({ cls := "SmellBurdensModel", name := "notes", desc := "()V" } : Jvm.MethodName))) (xsl (List.mem_of_getElem? (i := 50) (by decide +kernel))) rfl, rfl⟩
theorem wdX11_225 : (Jvm.Cond.methodLink "SmellBurdensModel" (225 : Nat) ({ cls := "SmellBurdensModel", name := "notes", desc := "()V" } : Jvm.MethodName)) ∈ xG := xg (xt5 (List.mem_of_getElem? (i := 239) (by decide +kernel))) rfl
theorem wdX11_228 : (Jvm.Cond.methodLink "SmellBurdensModel" (228 : Nat) ({ cls := "SmellBurdensModel", name := "goesBy", desc := "()I" } : Jvm.MethodName)) ∈ xG := xg (xt6 (List.mem_of_getElem? (i := 3) (by decide +kernel))) rfl
def pX11_day : List xE := [(0, 1, .aload_n 0, 0, 0, 0, []), (1, 3, .getfield 118, 8, 10, 0, []), (4, 3, .ifCond .ne 6, 10, 0, 0, []), (7, 2, .bipush (-4), 4, 0, 0, []), (9, 1, .ireturn, 0, 0, 0, []), (10, 1, .aload_n 0, 0, 0, 0, []), (11, 3, .getfield 199, 8, 22, 0, []), (14, 2, .bipush 40, 40, 0, 0, []), (16, 3, .if_icmp .ne 6, 22, 0, 0, []), (19, 2, .bipush (-2), 2, 0, 0, []), (21, 1, .ireturn, 0, 0, 0, []), (22, 1, .aload_n 0, 0, 0, 0, []), (23, 3, .invokevirtual 225, 0, 0, 0, []), (26, 1, .aload_n 0, 0, 0, 0, []), (27, 3, .invokevirtual 228, 1, 0, 0, []), (30, 1, .ireturn, 0, 0, 0, [])]
def mX11_day : xM := (yX11_day, cX11_day, 1, (some FieldType.int), 0, 0, 8, 7, 158, 0, pX11_day)
theorem dX11_day : xDec cX11_day pX11_day = true := by decide +kernel
theorem hX11_day : xHd mX11_day := ⟨xg (w := (Jvm.Cond.code ({ cls := "SmellBurdensModel", name := "day", desc := "()I" } : Jvm.MethodName) prog_13_method_59_code (1 : Nat) (Option.some Jvm.ClassFile.FieldType.int))) (xt5 (List.mem_of_getElem? (i := 238) (by decide +kernel))) rfl, xg (w := (Jvm.Cond.initialized "SmellBurdensModel")) (xt1 (List.mem_of_getElem? (i := 10) (by decide +kernel))) rfl, ⟨by decide +kernel, by decide +kernel, by decide +kernel⟩, xg (w := (Jvm.Cond.instanceMethod ({ cls := "SmellBurdensModel", name := "day", desc := "()I" } : Jvm.MethodName))) (xt5 (List.mem_of_getElem? (i := 236) (by decide +kernel))) rfl, xg (w := (Jvm.Cond.selects "SmellBurdensModel" ({ cls := "SmellBurdensModel", name := "day", desc := "()I" } : Jvm.MethodName) ({ cls := "SmellBurdensModel", name := "day", desc := "()I" } : Jvm.MethodName))) (xt5 (List.mem_of_getElem? (i := 237) (by decide +kernel))) rfl, rfl⟩
def pX11_smear : List xE := [(0, 1, .aload_n 0, 0, 0, 0, []), (1, 1, .iload_n 1, 1, 0, 0, []), (2, 3, .invokevirtual 211, 0, 0, 0, []), (5, 3, .ifCond .eq 15, 20, 0, 0, []), (8, 1, .iload_n 2, 2, 0, 0, []), (9, 1, .i2l, 0, 0, 0, []), (10, 1, .lconst 0, 0, 0, 0, []), (11, 3, .ldc2_w 94, 3, 0, 0, []), (14, 3, .invokestatic 90, 1, 0, 0, []), (17, 3, .ifCond .ne 5, 22, 0, 0, []), (20, 1, .iconst (-1), 1, 0, 0, []), (21, 1, .ireturn, 0, 0, 0, []), (22, 1, .aload_n 0, 0, 0, 0, []), (23, 3, .getfield 199, 8, 22, 0, []), (26, 2, .bipush 40, 40, 0, 0, []), (28, 3, .if_icmp .ne 6, 34, 0, 0, []), (31, 2, .bipush (-2), 2, 0, 0, []), (33, 1, .ireturn, 0, 0, 0, []), (34, 1, .aload_n 0, 0, 0, 0, []), (35, 3, .invokevirtual 225, 2, 0, 0, []), (38, 1, .aload_n 0, 0, 0, 0, []), (39, 3, .getfield 37, 8, 15, 0, []), (42, 2, .bipush 9, 9, 0, 0, []), (44, 1, .iload_n 1, 1, 0, 0, []), (45, 1, .iadd, 0, 0, 0, []), (46, 1, .dup2, 0, 0, 0, []), (47, 1, .iaload, 0, 0, 0, []), (48, 1, .iconst 1, 1, 0, 0, []), (49, 1, .iload_n 2, 2, 0, 0, []), (50, 1, .ishl, 0, 0, 0, []), (51, 1, .ixor, 0, 0, 0, []), (52, 1, .iastore, 0, 0, 0, []), (53, 1, .aload_n 0, 0, 0, 0, []), (54, 3, .getfield 37, 8, 15, 0, []), (57, 2, .bipush 9, 9, 0, 0, []), (59, 1, .iload_n 1, 1, 0, 0, []), (60, 1, .iadd, 0, 0, 0, []), (61, 1, .iaload, 0, 0, 0, []), (62, 1, .ireturn, 0, 0, 0, [])]
def mX11_smear : xM := (yX11_smear, cX11_smear, 3, (some FieldType.int), 0, 2, 8, 2, 46, 0, pX11_smear)
theorem dX11_smear : xDec cX11_smear pX11_smear = true := by decide +kernel
theorem hX11_smear : xHd mX11_smear := ⟨xg (w := (Jvm.Cond.code ({ cls := "SmellBurdensModel", name := "smear", desc := "(II)I" } : Jvm.MethodName) prog_13_method_60_code (3 : Nat) (Option.some Jvm.ClassFile.FieldType.int))) (xt6 (List.mem_of_getElem? (i := 14) (by decide +kernel))) rfl, xg (w := (Jvm.Cond.initialized "SmellBurdensModel")) (xt1 (List.mem_of_getElem? (i := 10) (by decide +kernel))) rfl, ⟨by decide +kernel, by decide +kernel, by decide +kernel⟩, xg (w := (Jvm.Cond.instanceMethod ({ cls := "SmellBurdensModel", name := "smear", desc := "(II)I" } : Jvm.MethodName))) (xt6 (List.mem_of_getElem? (i := 12) (by decide +kernel))) rfl, xg (w := (Jvm.Cond.selects "SmellBurdensModel" ({ cls := "SmellBurdensModel", name := "smear", desc := "(II)I" } : Jvm.MethodName) ({ cls := "SmellBurdensModel", name := "smear", desc := "(II)I" } : Jvm.MethodName))) (xt6 (List.mem_of_getElem? (i := 13) (by decide +kernel))) rfl, rfl⟩
def pX11_lead : List xE := [(0, 1, .aload_n 0, 0, 0, 0, []), (1, 1, .iload_n 1, 1, 0, 0, []), (2, 3, .invokevirtual 205, 0, 0, 0, []), (5, 3, .ifCond .eq 15, 20, 0, 0, []), (8, 1, .iload_n 2, 2, 0, 0, []), (9, 1, .i2l, 0, 0, 0, []), (10, 1, .lconst 0, 0, 0, 0, []), (11, 3, .ldc2_w 214, 4, 0, 0, []), (14, 3, .invokestatic 90, 1, 0, 0, []), (17, 3, .ifCond .ne 5, 22, 0, 0, []), (20, 1, .iconst (-1), 1, 0, 0, []), (21, 1, .ireturn, 0, 0, 0, []), (22, 1, .aload_n 0, 0, 0, 0, []), (23, 3, .getfield 37, 8, 15, 0, []), (26, 1, .iconst 5, 5, 0, 0, []), (27, 1, .iload_n 1, 1, 0, 0, []), (28, 1, .iadd, 0, 0, 0, []), (29, 1, .iaload, 0, 0, 0, []), (30, 1, .istore_n 3, 3, 0, 0, []), (31, 1, .iload_n 3, 3, 0, 0, []), (32, 1, .iload_n 2, 2, 0, 0, []), (33, 3, .if_icmp .ne 6, 39, 0, 0, []), (36, 2, .bipush (-4), 4, 0, 0, []), (38, 1, .ireturn, 0, 0, 0, []), (39, 1, .aload_n 0, 0, 0, 0, []), (40, 3, .getfield 199, 8, 22, 0, []), (43, 2, .bipush 40, 40, 0, 0, []), (45, 3, .if_icmp .ne 6, 51, 0, 0, []), (48, 2, .bipush (-2), 2, 0, 0, []), (50, 1, .ireturn, 0, 0, 0, []), (51, 1, .aload_n 0, 0, 0, 0, []), (52, 3, .invokevirtual 225, 2, 0, 0, []), (55, 1, .aload_n 0, 0, 0, 0, []), (56, 3, .getfield 37, 8, 15, 0, []), (59, 1, .iconst 5, 5, 0, 0, []), (60, 1, .iload_n 1, 1, 0, 0, []), (61, 1, .iadd, 0, 0, 0, []), (62, 1, .iload_n 2, 2, 0, 0, []), (63, 1, .iastore, 0, 0, 0, []), (64, 1, .iload_n 3, 3, 0, 0, []), (65, 1, .ireturn, 0, 0, 0, [])]
def mX11_lead : xM := (yX11_lead, cX11_lead, 4, (some FieldType.int), 0, 2, 8, 2, 46, 0, pX11_lead)
theorem dX11_lead : xDec cX11_lead pX11_lead = true := by decide +kernel
theorem hX11_lead : xHd mX11_lead := ⟨xg (w := (Jvm.Cond.code ({ cls := "SmellBurdensModel", name := "lead", desc := "(II)I" } : Jvm.MethodName) prog_13_method_61_code (4 : Nat) (Option.some Jvm.ClassFile.FieldType.int))) (xt6 (List.mem_of_getElem? (i := 18) (by decide +kernel))) rfl, xg (w := (Jvm.Cond.initialized "SmellBurdensModel")) (xt1 (List.mem_of_getElem? (i := 10) (by decide +kernel))) rfl, ⟨by decide +kernel, by decide +kernel, by decide +kernel⟩, xg (w := (Jvm.Cond.instanceMethod ({ cls := "SmellBurdensModel", name := "lead", desc := "(II)I" } : Jvm.MethodName))) (xt6 (List.mem_of_getElem? (i := 16) (by decide +kernel))) rfl, xg (w := (Jvm.Cond.selects "SmellBurdensModel" ({ cls := "SmellBurdensModel", name := "lead", desc := "(II)I" } : Jvm.MethodName) ({ cls := "SmellBurdensModel", name := "lead", desc := "(II)I" } : Jvm.MethodName))) (xt6 (List.mem_of_getElem? (i := 17) (by decide +kernel))) rfl, rfl⟩
def pX11_undo : List xE := [(0, 1, .iload_n 1, 1, 0, 0, []), (1, 1, .i2l, 0, 0, 0, []), (2, 1, .lconst 0, 0, 0, 0, []), (3, 1, .aload_n 0, 0, 0, 0, []), (4, 3, .getfield 199, 8, 22, 0, []), (7, 1, .i2l, 0, 0, 0, []), (8, 3, .invokestatic 90, 0, 0, 0, []), (11, 3, .ifCond .ne 5, 16, 0, 0, []), (14, 1, .iconst (-1), 1, 0, 0, []), (15, 1, .ireturn, 0, 0, 0, []), (16, 1, .aload_n 0, 0, 0, 0, []), (17, 3, .getfield 199, 8, 22, 0, []), (20, 1, .iload_n 1, 1, 0, 0, []), (21, 1, .isub, 0, 0, 0, []), (22, 1, .istore_n 2, 2, 0, 0, []), (23, 1, .iconst 0, 0, 0, 0, []), (24, 1, .istore_n 3, 3, 0, 0, []), (25, 1, .iload_n 3, 3, 0, 0, []), (26, 2, .bipush 19, 19, 0, 0, []), (28, 3, .if_icmp .ge 30, 58, 0, 0, []), (31, 1, .iload_n 2, 2, 0, 0, []), (32, 3, .ifCond .le 26, 58, 0, 0, []), (35, 1, .aload_n 0, 0, 0, 0, []), (36, 3, .getfield 37, 8, 15, 0, []), (39, 1, .iload_n 3, 3, 0, 0, []), (40, 1, .aload_n 0, 0, 0, 0, []), (41, 3, .getfield 46, 8, 23, 0, []), (44, 2, .bipush 19, 19, 0, 0, []), (46, 1, .iload_n 1, 1, 0, 0, []), (47, 1, .imul, 0, 0, 0, []), (48, 1, .iload_n 3, 3, 0, 0, []), (49, 1, .iadd, 0, 0, 0, []), (50, 1, .iaload, 0, 0, 0, []), (51, 1, .iastore, 0, 0, 0, []), (52, 3, .iinc 3 1, 3, 1, 0, []), (55, 3, .goto (-30), 25, 0, 0, []), (58, 1, .aload_n 0, 0, 0, 0, []), (59, 1, .iload_n 1, 1, 0, 0, []), (60, 3, .putfield 199, 8, 22, 0, []), (63, 1, .iload_n 2, 2, 0, 0, []), (64, 1, .ireturn, 0, 0, 0, [])]
def mX11_undo : xM := (yX11_undo, cX11_undo, 4, (some FieldType.int), 0, 1, 8, 1, 25, 0, pX11_undo)
theorem dX11_undo : xDec cX11_undo pX11_undo = true := by decide +kernel
theorem hX11_undo : xHd mX11_undo := ⟨xg (w := (Jvm.Cond.code ({ cls := "SmellBurdensModel", name := "undo", desc := "(I)I" } : Jvm.MethodName) prog_13_method_62_code (4 : Nat) (Option.some Jvm.ClassFile.FieldType.int))) (xt6 (List.mem_of_getElem? (i := 22) (by decide +kernel))) rfl, xg (w := (Jvm.Cond.initialized "SmellBurdensModel")) (xt1 (List.mem_of_getElem? (i := 10) (by decide +kernel))) rfl, ⟨by decide +kernel, by decide +kernel, by decide +kernel⟩, xg (w := (Jvm.Cond.instanceMethod ({ cls := "SmellBurdensModel", name := "undo", desc := "(I)I" } : Jvm.MethodName))) (xt6 (List.mem_of_getElem? (i := 20) (by decide +kernel))) rfl, xg (w := (Jvm.Cond.selects "SmellBurdensModel" ({ cls := "SmellBurdensModel", name := "undo", desc := "(I)I" } : Jvm.MethodName) ({ cls := "SmellBurdensModel", name := "undo", desc := "(I)I" } : Jvm.MethodName))) (xt6 (List.mem_of_getElem? (i := 21) (by decide +kernel))) rfl, rfl⟩
theorem wdX11_231 : (Jvm.Cond.constantLong "SmellBurdensModel" (231 : Nat) (2 : Int64)) ∈ xG := xg (xt6 (List.mem_of_getElem? (i := 27) (by decide +kernel))) rfl
def pX11_keep : List xE := [(0, 1, .iload_n 1, 1, 0, 0, []), (1, 1, .i2l, 0, 0, 0, []), (2, 1, .lconst 0, 0, 0, 0, []), (3, 3, .ldc2_w 231, 2, 0, 0, []), (6, 3, .invokestatic 90, 0, 0, 0, []), (9, 3, .ifCond .ne 5, 14, 0, 0, []), (12, 1, .iconst (-1), 1, 0, 0, []), (13, 1, .ireturn, 0, 0, 0, []), (14, 1, .aload_n 0, 0, 0, 0, []), (15, 3, .getfield 118, 8, 10, 0, []), (18, 3, .ifCond .ne 6, 24, 0, 0, []), (21, 2, .bipush (-4), 4, 0, 0, []), (23, 1, .ireturn, 0, 0, 0, []), (24, 1, .aload_n 0, 0, 0, 0, []), (25, 3, .getfield 49, 8, 24, 0, []), (28, 1, .iload_n 1, 1, 0, 0, []), (29, 1, .aload_n 0, 0, 0, 0, []), (30, 3, .getfield 199, 8, 22, 0, []), (33, 1, .iastore, 0, 0, 0, []), (34, 1, .iconst 0, 0, 0, 0, []), (35, 1, .istore_n 2, 2, 0, 0, []), (36, 1, .iload_n 2, 2, 0, 0, []), (37, 2, .bipush 19, 19, 0, 0, []), (39, 3, .if_icmp .ge 27, 66, 0, 0, []), (42, 1, .aload_n 0, 0, 0, 0, []), (43, 3, .getfield 52, 8, 25, 0, []), (46, 3, .sipush 779, 779, 0, 0, []), (49, 1, .iload_n 1, 1, 0, 0, []), (50, 1, .imul, 0, 0, 0, []), (51, 1, .iload_n 2, 2, 0, 0, []), (52, 1, .iadd, 0, 0, 0, []), (53, 1, .aload_n 0, 0, 0, 0, []), (54, 3, .getfield 37, 8, 15, 0, []), (57, 1, .iload_n 2, 2, 0, 0, []), (58, 1, .iaload, 0, 0, 0, []), (59, 1, .iastore, 0, 0, 0, []), (60, 3, .iinc 2 1, 2, 1, 0, []), (63, 3, .goto (-27), 36, 0, 0, []), (66, 1, .iconst 0, 0, 0, 0, []), (67, 1, .istore_n 2, 2, 0, 0, []), (68, 1, .iload_n 2, 2, 0, 0, []), (69, 3, .sipush 760, 760, 0, 0, []), (72, 3, .if_icmp .ge 30, 102, 0, 0, []), (75, 1, .aload_n 0, 0, 0, 0, []), (76, 3, .getfield 52, 8, 25, 0, []), (79, 3, .sipush 779, 779, 0, 0, []), (82, 1, .iload_n 1, 1, 0, 0, []), (83, 1, .imul, 0, 0, 0, []), (84, 2, .bipush 19, 19, 0, 0, []), (86, 1, .iadd, 0, 0, 0, []), (87, 1, .iload_n 2, 2, 0, 0, []), (88, 1, .iadd, 0, 0, 0, []), (89, 1, .aload_n 0, 0, 0, 0, []), (90, 3, .getfield 46, 8, 23, 0, []), (93, 1, .iload_n 2, 2, 0, 0, []), (94, 1, .iaload, 0, 0, 0, []), (95, 1, .iastore, 0, 0, 0, []), (96, 3, .iinc 2 1, 2, 1, 0, []), (99, 3, .goto (-31), 68, 0, 0, []), (102, 1, .aload_n 0, 0, 0, 0, []), (103, 3, .getfield 199, 8, 22, 0, []), (106, 1, .ireturn, 0, 0, 0, [])]
def mX11_keep : xM := (yX11_keep, cX11_keep, 3, (some FieldType.int), 0, 1, 8, 1, 25, 0, pX11_keep)
theorem dX11_keep : xDec cX11_keep pX11_keep = true := by decide +kernel
theorem hX11_keep : xHd mX11_keep := ⟨xg (w := (Jvm.Cond.code ({ cls := "SmellBurdensModel", name := "keep", desc := "(I)I" } : Jvm.MethodName) prog_13_method_63_code (3 : Nat) (Option.some Jvm.ClassFile.FieldType.int))) (xt6 (List.mem_of_getElem? (i := 26) (by decide +kernel))) rfl, xg (w := (Jvm.Cond.initialized "SmellBurdensModel")) (xt1 (List.mem_of_getElem? (i := 10) (by decide +kernel))) rfl, ⟨by decide +kernel, by decide +kernel, by decide +kernel⟩, xg (w := (Jvm.Cond.instanceMethod ({ cls := "SmellBurdensModel", name := "keep", desc := "(I)I" } : Jvm.MethodName))) (xt6 (List.mem_of_getElem? (i := 24) (by decide +kernel))) rfl, xg (w := (Jvm.Cond.selects "SmellBurdensModel" ({ cls := "SmellBurdensModel", name := "keep", desc := "(I)I" } : Jvm.MethodName) ({ cls := "SmellBurdensModel", name := "keep", desc := "(I)I" } : Jvm.MethodName))) (xt6 (List.mem_of_getElem? (i := 25) (by decide +kernel))) rfl, rfl⟩
def pX11_on : List xE := [(0, 1, .iload_n 1, 1, 0, 0, []), (1, 1, .i2l, 0, 0, 0, []), (2, 1, .lconst 0, 0, 0, 0, []), (3, 3, .ldc2_w 231, 2, 0, 0, []), (6, 3, .invokestatic 90, 0, 0, 0, []), (9, 3, .ifCond .ne 5, 14, 0, 0, []), (12, 1, .iconst (-1), 1, 0, 0, []), (13, 1, .ireturn, 0, 0, 0, []), (14, 1, .aload_n 0, 0, 0, 0, []), (15, 3, .getfield 49, 8, 24, 0, []), (18, 1, .iload_n 1, 1, 0, 0, []), (19, 1, .iaload, 0, 0, 0, []), (20, 3, .ifCond .ge 9, 29, 0, 0, []), (23, 1, .aload_n 0, 0, 0, 0, []), (24, 1, .iconst 1, 1, 0, 0, []), (25, 3, .invokevirtual 100, 1, 0, 0, []), (28, 1, .ireturn, 0, 0, 0, []), (29, 1, .aload_n 0, 0, 0, 0, []), (30, 1, .aload_n 0, 0, 0, 0, []), (31, 3, .getfield 49, 8, 24, 0, []), (34, 1, .iload_n 1, 1, 0, 0, []), (35, 1, .iaload, 0, 0, 0, []), (36, 3, .putfield 199, 8, 22, 0, []), (39, 1, .iconst 0, 0, 0, 0, []), (40, 1, .istore_n 2, 2, 0, 0, []), (41, 1, .iload_n 2, 2, 0, 0, []), (42, 2, .bipush 19, 19, 0, 0, []), (44, 3, .if_icmp .ge 27, 71, 0, 0, []), (47, 1, .aload_n 0, 0, 0, 0, []), (48, 3, .getfield 37, 8, 15, 0, []), (51, 1, .iload_n 2, 2, 0, 0, []), (52, 1, .aload_n 0, 0, 0, 0, []), (53, 3, .getfield 52, 8, 25, 0, []), (56, 3, .sipush 779, 779, 0, 0, []), (59, 1, .iload_n 1, 1, 0, 0, []), (60, 1, .imul, 0, 0, 0, []), (61, 1, .iload_n 2, 2, 0, 0, []), (62, 1, .iadd, 0, 0, 0, []), (63, 1, .iaload, 0, 0, 0, []), (64, 1, .iastore, 0, 0, 0, []), (65, 3, .iinc 2 1, 2, 1, 0, []), (68, 3, .goto (-27), 41, 0, 0, []), (71, 1, .iconst 0, 0, 0, 0, []), (72, 1, .istore_n 2, 2, 0, 0, []), (73, 1, .iload_n 2, 2, 0, 0, []), (74, 3, .sipush 760, 760, 0, 0, []), (77, 3, .if_icmp .ge 30, 107, 0, 0, []), (80, 1, .aload_n 0, 0, 0, 0, []), (81, 3, .getfield 46, 8, 23, 0, []), (84, 1, .iload_n 2, 2, 0, 0, []), (85, 1, .aload_n 0, 0, 0, 0, []), (86, 3, .getfield 52, 8, 25, 0, []), (89, 3, .sipush 779, 779, 0, 0, []), (92, 1, .iload_n 1, 1, 0, 0, []), (93, 1, .imul, 0, 0, 0, []), (94, 2, .bipush 19, 19, 0, 0, []), (96, 1, .iadd, 0, 0, 0, []), (97, 1, .iload_n 2, 2, 0, 0, []), (98, 1, .iadd, 0, 0, 0, []), (99, 1, .iaload, 0, 0, 0, []), (100, 1, .iastore, 0, 0, 0, []), (101, 3, .iinc 2 1, 2, 1, 0, []), (104, 3, .goto (-31), 73, 0, 0, []), (107, 1, .aload_n 0, 0, 0, 0, []), (108, 3, .getfield 199, 8, 22, 0, []), (111, 1, .ireturn, 0, 0, 0, [])]
def mX11_on : xM := (yX11_on, cX11_on, 3, (some FieldType.int), 0, 1, 8, 1, 25, 0, pX11_on)
theorem dX11_on : xDec cX11_on pX11_on = true := by decide +kernel
theorem hX11_on : xHd mX11_on := ⟨xg (w := (Jvm.Cond.code ({ cls := "SmellBurdensModel", name := "on", desc := "(I)I" } : Jvm.MethodName) prog_13_method_64_code (3 : Nat) (Option.some Jvm.ClassFile.FieldType.int))) (xt6 (List.mem_of_getElem? (i := 31) (by decide +kernel))) rfl, xg (w := (Jvm.Cond.initialized "SmellBurdensModel")) (xt1 (List.mem_of_getElem? (i := 10) (by decide +kernel))) rfl, ⟨by decide +kernel, by decide +kernel, by decide +kernel⟩, xg (w := (Jvm.Cond.instanceMethod ({ cls := "SmellBurdensModel", name := "on", desc := "(I)I" } : Jvm.MethodName))) (xt6 (List.mem_of_getElem? (i := 29) (by decide +kernel))) rfl, xg (w := (Jvm.Cond.selects "SmellBurdensModel" ({ cls := "SmellBurdensModel", name := "on", desc := "(I)I" } : Jvm.MethodName) ({ cls := "SmellBurdensModel", name := "on", desc := "(I)I" } : Jvm.MethodName))) (xt6 (List.mem_of_getElem? (i := 30) (by decide +kernel))) rfl, rfl⟩
theorem wdX11_233 : (Jvm.Cond.methodLink "SmellBurdensModel" (233 : Nat) ({ cls := "SmellBurdensModel", name := "isMarks", desc := "(I)Z" } : Jvm.MethodName)) ∈ xG := xg (xt6 (List.mem_of_getElem? (i := 36) (by decide +kernel))) rfl
def pX11_like : List xE := [(0, 1, .aload_n 0, 0, 0, 0, []), (1, 1, .iload_n 1, 1, 0, 0, []), (2, 3, .invokevirtual 205, 0, 0, 0, []), (5, 3, .ifCond .eq 31, 36, 0, 0, []), (8, 1, .iload_n 2, 2, 0, 0, []), (9, 3, .invokestatic 233, 1, 0, 0, []), (12, 3, .ifCond .eq 24, 36, 0, 0, []), (15, 1, .aload_n 0, 0, 0, 0, []), (16, 3, .getfield 31, 8, 13, 0, []), (19, 1, .iload_n 1, 1, 0, 0, []), (20, 1, .iaload, 0, 0, 0, []), (21, 1, .aload_n 0, 0, 0, 0, []), (22, 3, .getfield 37, 8, 15, 0, []), (25, 1, .iconst 1, 1, 0, 0, []), (26, 1, .iload_n 1, 1, 0, 0, []), (27, 1, .iadd, 0, 0, 0, []), (28, 1, .iaload, 0, 0, 0, []), (29, 1, .iload_n 2, 2, 0, 0, []), (30, 3, .invokestatic 129, 2, 0, 0, []), (33, 3, .goto 4, 37, 0, 0, []), (36, 1, .iconst (-1), 1, 0, 0, []), (37, 1, .ireturn, 0, 0, 0, [])]
def mX11_like : xM := (yX11_like, cX11_like, 3, (some FieldType.int), 0, 2, 8, 2, 46, 0, pX11_like)
theorem dX11_like : xDec cX11_like pX11_like = true := by decide +kernel
theorem hX11_like : xHd mX11_like := ⟨xg (w := (Jvm.Cond.code ({ cls := "SmellBurdensModel", name := "like", desc := "(II)I" } : Jvm.MethodName) prog_13_method_65_code (3 : Nat) (Option.some Jvm.ClassFile.FieldType.int))) (xt6 (List.mem_of_getElem? (i := 35) (by decide +kernel))) rfl, xg (w := (Jvm.Cond.initialized "SmellBurdensModel")) (xt1 (List.mem_of_getElem? (i := 10) (by decide +kernel))) rfl, ⟨by decide +kernel, by decide +kernel, by decide +kernel⟩, xg (w := (Jvm.Cond.instanceMethod ({ cls := "SmellBurdensModel", name := "like", desc := "(II)I" } : Jvm.MethodName))) (xt6 (List.mem_of_getElem? (i := 33) (by decide +kernel))) rfl, xg (w := (Jvm.Cond.selects "SmellBurdensModel" ({ cls := "SmellBurdensModel", name := "like", desc := "(II)I" } : Jvm.MethodName) ({ cls := "SmellBurdensModel", name := "like", desc := "(II)I" } : Jvm.MethodName))) (xt6 (List.mem_of_getElem? (i := 34) (by decide +kernel))) rfl, rfl⟩
theorem wdX11_236 : (Jvm.Cond.methodLink "SmellBurdensModel" (236 : Nat) ({ cls := "SmellBurdensModel", name := "isTaken", desc := "(III)Z" } : Jvm.MethodName)) ∈ xG := xg (xt6 (List.mem_of_getElem? (i := 48) (by decide +kernel))) rfl
def pX11_takers : List xE := [(0, 1, .iconst 0, 0, 0, 0, []), (1, 1, .istore_n 2, 2, 0, 0, []), (2, 1, .iconst 0, 0, 0, 0, []), (3, 1, .istore_n 3, 3, 0, 0, []), (4, 1, .iload_n 3, 3, 0, 0, []), (5, 1, .aload_n 0, 0, 0, 0, []), (6, 3, .getfield 118, 8, 10, 0, []), (9, 3, .if_icmp .ge 40, 49, 0, 0, []), (12, 1, .iload_n 2, 2, 0, 0, []), (13, 1, .aload_n 0, 0, 0, 0, []), (14, 3, .getfield 31, 8, 13, 0, []), (17, 1, .iload_n 3, 3, 0, 0, []), (18, 1, .iaload, 0, 0, 0, []), (19, 1, .aload_n 0, 0, 0, 0, []), (20, 3, .getfield 37, 8, 15, 0, []), (23, 1, .iconst 1, 1, 0, 0, []), (24, 1, .iload_n 3, 3, 0, 0, []), (25, 1, .iadd, 0, 0, 0, []), (26, 1, .iaload, 0, 0, 0, []), (27, 1, .iload_n 1, 1, 0, 0, []), (28, 3, .invokestatic 236, 0, 0, 0, []), (31, 3, .ifCond .eq 9, 40, 0, 0, []), (34, 1, .iconst 1, 1, 0, 0, []), (35, 1, .iload_n 3, 3, 0, 0, []), (36, 1, .ishl, 0, 0, 0, []), (37, 3, .goto 4, 41, 0, 0, []), (40, 1, .iconst 0, 0, 0, 0, []), (41, 1, .ior, 0, 0, 0, []), (42, 1, .istore_n 2, 2, 0, 0, []), (43, 3, .iinc 3 1, 3, 1, 0, []), (46, 3, .goto (-42), 4, 0, 0, []), (49, 1, .iload_n 2, 2, 0, 0, []), (50, 1, .ireturn, 0, 0, 0, [])]
def mX11_takers : xM := (yX11_takers, cX11_takers, 4, (some FieldType.int), 0, 1, 8, 3, 67, 0, pX11_takers)
theorem dX11_takers : xDec cX11_takers pX11_takers = true := by decide +kernel
theorem hX11_takers : xHd mX11_takers := ⟨xg (w := (Jvm.Cond.code ({ cls := "SmellBurdensModel", name := "takers", desc := "(I)I" } : Jvm.MethodName) prog_13_method_66_code (4 : Nat) (Option.some Jvm.ClassFile.FieldType.int))) (xt6 (List.mem_of_getElem? (i := 47) (by decide +kernel))) rfl, xg (w := (Jvm.Cond.initialized "SmellBurdensModel")) (xt1 (List.mem_of_getElem? (i := 10) (by decide +kernel))) rfl, ⟨by decide +kernel, by decide +kernel, by decide +kernel⟩, xg (w := (Jvm.Cond.instanceMethod ({ cls := "SmellBurdensModel", name := "takers", desc := "(I)I" } : Jvm.MethodName))) (xt6 (List.mem_of_getElem? (i := 46) (by decide +kernel))) rfl, xg (w := (Jvm.Cond.selects "SmellBurdensModel" ({ cls := "SmellBurdensModel", name := "takers", desc := "(I)I" } : Jvm.MethodName) ({ cls := "SmellBurdensModel", name := "takers", desc := "(I)I" } : Jvm.MethodName))) (xsl (List.mem_of_getElem? (i := 53) (by decide +kernel))) rfl, rfl⟩
theorem wdX11_240 : (Jvm.Cond.methodLink "SmellBurdensModel" (240 : Nat) ({ cls := "SmellBurdensModel", name := "takers", desc := "(I)I" } : Jvm.MethodName)) ∈ xG := xg (xt6 (List.mem_of_getElem? (i := 44) (by decide +kernel))) rfl
def pX11_who : List xE := [(0, 1, .iload_n 1, 1, 0, 0, []), (1, 3, .invokestatic 233, 0, 0, 0, []), (4, 3, .ifCond .eq 11, 15, 0, 0, []), (7, 1, .aload_n 0, 0, 0, 0, []), (8, 1, .iload_n 1, 1, 0, 0, []), (9, 3, .invokevirtual 240, 1, 0, 0, []), (12, 3, .goto 4, 16, 0, 0, []), (15, 1, .iconst (-1), 1, 0, 0, []), (16, 1, .ireturn, 0, 0, 0, [])]
def mX11_who : xM := (yX11_who, cX11_who, 2, (some FieldType.int), 0, 1, 8, 4, 90, 0, pX11_who)
theorem dX11_who : xDec cX11_who pX11_who = true := by decide +kernel
theorem hX11_who : xHd mX11_who := ⟨xg (w := (Jvm.Cond.code ({ cls := "SmellBurdensModel", name := "who", desc := "(I)I" } : Jvm.MethodName) prog_13_method_67_code (2 : Nat) (Option.some Jvm.ClassFile.FieldType.int))) (xt6 (List.mem_of_getElem? (i := 43) (by decide +kernel))) rfl, xg (w := (Jvm.Cond.initialized "SmellBurdensModel")) (xt1 (List.mem_of_getElem? (i := 10) (by decide +kernel))) rfl, ⟨by decide +kernel, by decide +kernel, by decide +kernel⟩, xg (w := (Jvm.Cond.instanceMethod ({ cls := "SmellBurdensModel", name := "who", desc := "(I)I" } : Jvm.MethodName))) (xt6 (List.mem_of_getElem? (i := 41) (by decide +kernel))) rfl, xg (w := (Jvm.Cond.selects "SmellBurdensModel" ({ cls := "SmellBurdensModel", name := "who", desc := "(I)I" } : Jvm.MethodName) ({ cls := "SmellBurdensModel", name := "who", desc := "(I)I" } : Jvm.MethodName))) (xt6 (List.mem_of_getElem? (i := 42) (by decide +kernel))) rfl, rfl⟩
def pX11_asides : List xE := [(0, 1, .iconst 0, 0, 0, 0, []), (1, 1, .istore_n 1, 1, 0, 0, []), (2, 1, .iload_n 1, 1, 0, 0, []), (3, 2, .bipush 19, 19, 0, 0, []), (5, 3, .if_icmp .ge 21, 26, 0, 0, []), (8, 1, .aload_n 0, 0, 0, 0, []), (9, 3, .getfield 55, 8, 26, 0, []), (12, 1, .iload_n 1, 1, 0, 0, []), (13, 1, .aload_n 0, 0, 0, 0, []), (14, 3, .getfield 37, 8, 15, 0, []), (17, 1, .iload_n 1, 1, 0, 0, []), (18, 1, .iaload, 0, 0, 0, []), (19, 1, .iastore, 0, 0, 0, []), (20, 3, .iinc 1 1, 1, 1, 0, []), (23, 3, .goto (-21), 2, 0, 0, []), (26, 1, .return_, 0, 0, 0, [])]
def mX11_asides : xM := (yX11_asides, cX11_asides, 2, (none : Option FieldType), 0, 0, 8, 0, 0, 0, pX11_asides)
theorem dX11_asides : xDec cX11_asides pX11_asides = true := by decide +kernel
theorem hX11_asides : xHd mX11_asides := ⟨xg (w := (Jvm.Cond.code ({ cls := "SmellBurdensModel", name := "asides", desc := "()V" } : Jvm.MethodName) prog_13_method_68_code (2 : Nat) (Option.none : Option Jvm.ClassFile.FieldType))) (xt6 (List.mem_of_getElem? (i := 59) (by decide +kernel))) rfl, xg (w := (Jvm.Cond.initialized "SmellBurdensModel")) (xt1 (List.mem_of_getElem? (i := 10) (by decide +kernel))) rfl, ⟨by decide +kernel, by decide +kernel, by decide +kernel⟩, xg (w := (Jvm.Cond.instanceMethod ({ cls := "SmellBurdensModel", name := "asides", desc := "()V" } : Jvm.MethodName))) (xt6 (List.mem_of_getElem? (i := 58) (by decide +kernel))) rfl, xg (w := (Jvm.Cond.selects "SmellBurdensModel" ({ cls := "SmellBurdensModel", name := "asides", desc := "()V" } : Jvm.MethodName) ({ cls := "SmellBurdensModel", name := "asides", desc := "()V" } : Jvm.MethodName))) (xsl (List.mem_of_getElem? (i := 54) (by decide +kernel))) rfl, rfl⟩
def pX11_backs : List xE := [(0, 1, .iconst 0, 0, 0, 0, []), (1, 1, .istore_n 1, 1, 0, 0, []), (2, 1, .iload_n 1, 1, 0, 0, []), (3, 2, .bipush 19, 19, 0, 0, []), (5, 3, .if_icmp .ge 21, 26, 0, 0, []), (8, 1, .aload_n 0, 0, 0, 0, []), (9, 3, .getfield 37, 8, 15, 0, []), (12, 1, .iload_n 1, 1, 0, 0, []), (13, 1, .aload_n 0, 0, 0, 0, []), (14, 3, .getfield 55, 8, 26, 0, []), (17, 1, .iload_n 1, 1, 0, 0, []), (18, 1, .iaload, 0, 0, 0, []), (19, 1, .iastore, 0, 0, 0, []), (20, 3, .iinc 1 1, 1, 1, 0, []), (23, 3, .goto (-21), 2, 0, 0, []), (26, 1, .return_, 0, 0, 0, [])]
def mX11_backs : xM := (yX11_backs, cX11_backs, 2, (none : Option FieldType), 0, 0, 8, 0, 0, 0, pX11_backs)
theorem dX11_backs : xDec cX11_backs pX11_backs = true := by decide +kernel
theorem hX11_backs : xHd mX11_backs := ⟨xg (w := (Jvm.Cond.code ({ cls := "SmellBurdensModel", name := "backs", desc := "()V" } : Jvm.MethodName) prog_13_method_69_code (2 : Nat) (Option.none : Option Jvm.ClassFile.FieldType))) (xt6 (List.mem_of_getElem? (i := 63) (by decide +kernel))) rfl, xg (w := (Jvm.Cond.initialized "SmellBurdensModel")) (xt1 (List.mem_of_getElem? (i := 10) (by decide +kernel))) rfl, ⟨by decide +kernel, by decide +kernel, by decide +kernel⟩, xg (w := (Jvm.Cond.instanceMethod ({ cls := "SmellBurdensModel", name := "backs", desc := "()V" } : Jvm.MethodName))) (xt6 (List.mem_of_getElem? (i := 62) (by decide +kernel))) rfl, xg (w := (Jvm.Cond.selects "SmellBurdensModel" ({ cls := "SmellBurdensModel", name := "backs", desc := "()V" } : Jvm.MethodName) ({ cls := "SmellBurdensModel", name := "backs", desc := "()V" } : Jvm.MethodName))) (xsl (List.mem_of_getElem? (i := 55) (by decide +kernel))) rfl, rfl⟩
theorem wdX11_243 : (Jvm.Cond.constantLong "SmellBurdensModel" (243 : Nat) (60 : Int64)) ∈ xG := xg (xt6 (List.mem_of_getElem? (i := 55) (by decide +kernel))) rfl
theorem wdX11_245 : (Jvm.Cond.methodLink "SmellBurdensModel" (245 : Nat) ({ cls := "SmellBurdensModel", name := "asides", desc := "()V" } : Jvm.MethodName)) ∈ xG := xg (xt6 (List.mem_of_getElem? (i := 56) (by decide +kernel))) rfl
theorem wdX11_248 : (Jvm.Cond.methodLink "SmellBurdensModel" (248 : Nat) ({ cls := "SmellBurdensModel", name := "backs", desc := "()V" } : Jvm.MethodName)) ∈ xG := xg (xt6 (List.mem_of_getElem? (i := 60) (by decide +kernel))) rfl
def pX11_where : List xE := [(0, 1, .aload_n 0, 0, 0, 0, []), (1, 1, .iload_n 1, 1, 0, 0, []), (2, 3, .invokevirtual 211, 0, 0, 0, []), (5, 3, .ifCond .eq 15, 20, 0, 0, []), (8, 1, .iload_n 2, 2, 0, 0, []), (9, 1, .i2l, 0, 0, 0, []), (10, 1, .lconst 0, 0, 0, 0, []), (11, 3, .ldc2_w 243, 60, 0, 0, []), (14, 3, .invokestatic 90, 1, 0, 0, []), (17, 3, .ifCond .ne 5, 22, 0, 0, []), (20, 1, .iconst (-1), 1, 0, 0, []), (21, 1, .ireturn, 0, 0, 0, []), (22, 1, .aload_n 0, 0, 0, 0, []), (23, 3, .invokevirtual 245, 2, 0, 0, []), (26, 1, .iconst 0, 0, 0, 0, []), (27, 1, .istore_n 3, 3, 0, 0, []), (28, 1, .iload_n 3, 3, 0, 0, []), (29, 1, .iload_n 2, 2, 0, 0, []), (30, 3, .if_icmp .ge 14, 44, 0, 0, []), (33, 1, .aload_n 0, 0, 0, 0, []), (34, 3, .invokevirtual 228, 3, 0, 0, []), (37, 1, .pop, 0, 0, 0, []), (38, 3, .iinc 3 1, 3, 1, 0, []), (41, 3, .goto (-13), 28, 0, 0, []), (44, 1, .aload_n 0, 0, 0, 0, []), (45, 3, .getfield 37, 8, 15, 0, []), (48, 2, .bipush 14, 14, 0, 0, []), (50, 1, .iload_n 1, 1, 0, 0, []), (51, 1, .iadd, 0, 0, 0, []), (52, 1, .iaload, 0, 0, 0, []), (53, 1, .istore_n 3, 3, 0, 0, []), (54, 1, .aload_n 0, 0, 0, 0, []), (55, 3, .invokevirtual 248, 4, 0, 0, []), (58, 1, .iload_n 3, 3, 0, 0, []), (59, 1, .ireturn, 0, 0, 0, [])]
def mX11_where : xM := (yX11_where, cX11_where, 4, (some FieldType.int), 0, 2, 8, 7, 158, 0, pX11_where)
theorem dX11_where : xDec cX11_where pX11_where = true := by decide +kernel
theorem hX11_where : xHd mX11_where := ⟨xg (w := (Jvm.Cond.code ({ cls := "SmellBurdensModel", name := "where", desc := "(II)I" } : Jvm.MethodName) prog_13_method_70_code (4 : Nat) (Option.some Jvm.ClassFile.FieldType.int))) (xt6 (List.mem_of_getElem? (i := 54) (by decide +kernel))) rfl, xg (w := (Jvm.Cond.initialized "SmellBurdensModel")) (xt1 (List.mem_of_getElem? (i := 10) (by decide +kernel))) rfl, ⟨by decide +kernel, by decide +kernel, by decide +kernel⟩, xg (w := (Jvm.Cond.instanceMethod ({ cls := "SmellBurdensModel", name := "where", desc := "(II)I" } : Jvm.MethodName))) (xt6 (List.mem_of_getElem? (i := 52) (by decide +kernel))) rfl, xg (w := (Jvm.Cond.selects "SmellBurdensModel" ({ cls := "SmellBurdensModel", name := "where", desc := "(II)I" } : Jvm.MethodName) ({ cls := "SmellBurdensModel", name := "where", desc := "(II)I" } : Jvm.MethodName))) (xt6 (List.mem_of_getElem? (i := 53) (by decide +kernel))) rfl, rfl⟩
theorem wdX11_251 : (Jvm.Cond.methodLink "SmellBurdensModel" (251 : Nat) ({ cls := "SmellBurdensModel", name := "atHome", desc := "()I" } : Jvm.MethodName)) ∈ xG := xg (xt6 (List.mem_of_getElem? (i := 68) (by decide +kernel))) rfl
def pX11_home : List xE := [(0, 1, .aload_n 0, 0, 0, 0, []), (1, 3, .getfield 118, 8, 10, 0, []), (4, 3, .ifCond .ne 6, 10, 0, 0, []), (7, 2, .bipush (-4), 4, 0, 0, []), (9, 1, .ireturn, 0, 0, 0, []), (10, 1, .aload_n 0, 0, 0, 0, []), (11, 3, .invokevirtual 245, 0, 0, 0, []), (14, 1, .iconst 0, 0, 0, 0, []), (15, 1, .istore_n 1, 1, 0, 0, []), (16, 1, .iload_n 1, 1, 0, 0, []), (17, 2, .bipush 61, 61, 0, 0, []), (19, 3, .if_icmp .ge 28, 47, 0, 0, []), (22, 1, .aload_n 0, 0, 0, 0, []), (23, 3, .invokevirtual 251, 1, 0, 0, []), (26, 3, .invokestatic 126, 2, 0, 0, []), (29, 1, .aload_n 0, 0, 0, 0, []), (30, 3, .getfield 121, 8, 11, 0, []), (33, 3, .if_icmp .ge 14, 47, 0, 0, []), (36, 1, .aload_n 0, 0, 0, 0, []), (37, 3, .invokevirtual 228, 3, 0, 0, []), (40, 1, .pop, 0, 0, 0, []), (41, 3, .iinc 1 1, 1, 1, 0, []), (44, 3, .goto (-28), 16, 0, 0, []), (47, 1, .aload_n 0, 0, 0, 0, []), (48, 3, .invokevirtual 248, 4, 0, 0, []), (51, 1, .iload_n 1, 1, 0, 0, []), (52, 2, .bipush 61, 61, 0, 0, []), (54, 3, .if_icmp .ge 7, 61, 0, 0, []), (57, 1, .iload_n 1, 1, 0, 0, []), (58, 3, .goto 5, 63, 0, 0, []), (61, 2, .bipush (-9), 9, 0, 0, []), (63, 1, .ireturn, 0, 0, 0, [])]
def mX11_home : xM := (yX11_home, cX11_home, 2, (some FieldType.int), 0, 0, 8, 7, 158, 0, pX11_home)
theorem dX11_home : xDec cX11_home pX11_home = true := by decide +kernel
theorem hX11_home : xHd mX11_home := ⟨xg (w := (Jvm.Cond.code ({ cls := "SmellBurdensModel", name := "home", desc := "()I" } : Jvm.MethodName) prog_13_method_71_code (2 : Nat) (Option.some Jvm.ClassFile.FieldType.int))) (xt6 (List.mem_of_getElem? (i := 67) (by decide +kernel))) rfl, xg (w := (Jvm.Cond.initialized "SmellBurdensModel")) (xt1 (List.mem_of_getElem? (i := 10) (by decide +kernel))) rfl, ⟨by decide +kernel, by decide +kernel, by decide +kernel⟩, xg (w := (Jvm.Cond.instanceMethod ({ cls := "SmellBurdensModel", name := "home", desc := "()I" } : Jvm.MethodName))) (xt6 (List.mem_of_getElem? (i := 65) (by decide +kernel))) rfl, xg (w := (Jvm.Cond.selects "SmellBurdensModel" ({ cls := "SmellBurdensModel", name := "home", desc := "()I" } : Jvm.MethodName) ({ cls := "SmellBurdensModel", name := "home", desc := "()I" } : Jvm.MethodName))) (xt6 (List.mem_of_getElem? (i := 66) (by decide +kernel))) rfl, rfl⟩
def pX11_state : List xE := [(0, 1, .lconst 0, 0, 0, 0, []), (1, 1, .lstore_n 1, 1, 0, 0, []), (2, 1, .iconst 0, 0, 0, 0, []), (3, 1, .istore_n 3, 3, 0, 0, []), (4, 1, .iload_n 3, 3, 0, 0, []), (5, 1, .aload_n 0, 0, 0, 0, []), (6, 3, .getfield 118, 8, 10, 0, []), (9, 3, .if_icmp .ge 36, 45, 0, 0, []), (12, 1, .lload_n 1, 1, 0, 0, []), (13, 2, .bipush 8, 8, 0, 0, []), (15, 1, .lshl, 0, 0, 0, []), (16, 1, .aload_n 0, 0, 0, 0, []), (17, 3, .getfield 37, 8, 15, 0, []), (20, 1, .iconst 5, 5, 0, 0, []), (21, 1, .iload_n 3, 3, 0, 0, []), (22, 1, .iadd, 0, 0, 0, []), (23, 1, .iaload, 0, 0, 0, []), (24, 1, .i2l, 0, 0, 0, []), (25, 1, .iconst 4, 4, 0, 0, []), (26, 1, .lshl, 0, 0, 0, []), (27, 1, .lor, 0, 0, 0, []), (28, 1, .aload_n 0, 0, 0, 0, []), (29, 3, .getfield 37, 8, 15, 0, []), (32, 1, .iconst 1, 1, 0, 0, []), (33, 1, .iload_n 3, 3, 0, 0, []), (34, 1, .iadd, 0, 0, 0, []), (35, 1, .iaload, 0, 0, 0, []), (36, 1, .i2l, 0, 0, 0, []), (37, 1, .lor, 0, 0, 0, []), (38, 1, .lstore_n 1, 1, 0, 0, []), (39, 3, .iinc 3 1, 3, 1, 0, []), (42, 3, .goto (-38), 4, 0, 0, []), (45, 1, .iconst 0, 0, 0, 0, []), (46, 1, .istore_n 3, 3, 0, 0, []), (47, 1, .iload_n 3, 3, 0, 0, []), (48, 1, .aload_n 0, 0, 0, 0, []), (49, 3, .getfield 121, 8, 11, 0, []), (52, 3, .if_icmp .ge 24, 76, 0, 0, []), (55, 1, .lload_n 1, 1, 0, 0, []), (56, 1, .iconst 3, 3, 0, 0, []), (57, 1, .lshl, 0, 0, 0, []), (58, 1, .aload_n 0, 0, 0, 0, []), (59, 3, .getfield 37, 8, 15, 0, []), (62, 2, .bipush 14, 14, 0, 0, []), (64, 1, .iload_n 3, 3, 0, 0, []), (65, 1, .iadd, 0, 0, 0, []), (66, 1, .iaload, 0, 0, 0, []), (67, 1, .i2l, 0, 0, 0, []), (68, 1, .lor, 0, 0, 0, []), (69, 1, .lstore_n 1, 1, 0, 0, []), (70, 3, .iinc 3 1, 3, 1, 0, []), (73, 3, .goto (-26), 47, 0, 0, []), (76, 1, .lload_n 1, 1, 0, 0, []), (77, 1, .lreturn, 0, 0, 0, [])]
def mX11_state : xM := (yX11_state, cX11_state, 4, (some FieldType.long), 0, 0, 8, 0, 0, 0, pX11_state)
theorem dX11_state : xDec cX11_state pX11_state = true := by decide +kernel
theorem hX11_state : xHd mX11_state := ⟨xg (w := (Jvm.Cond.code ({ cls := "SmellBurdensModel", name := "state", desc := "()J" } : Jvm.MethodName) prog_13_method_72_code (4 : Nat) (Option.some Jvm.ClassFile.FieldType.long))) (xt6 (List.mem_of_getElem? (i := 79) (by decide +kernel))) rfl, xg (w := (Jvm.Cond.initialized "SmellBurdensModel")) (xt1 (List.mem_of_getElem? (i := 10) (by decide +kernel))) rfl, ⟨by decide +kernel, by decide +kernel, by decide +kernel⟩, xg (w := (Jvm.Cond.instanceMethod ({ cls := "SmellBurdensModel", name := "state", desc := "()J" } : Jvm.MethodName))) (xt6 (List.mem_of_getElem? (i := 78) (by decide +kernel))) rfl, xg (w := (Jvm.Cond.selects "SmellBurdensModel" ({ cls := "SmellBurdensModel", name := "state", desc := "()J" } : Jvm.MethodName) ({ cls := "SmellBurdensModel", name := "state", desc := "()J" } : Jvm.MethodName))) (xsl (List.mem_of_getElem? (i := 57) (by decide +kernel))) rfl, rfl⟩
theorem wdX11_254 : (Jvm.Cond.methodLink "SmellBurdensModel" (254 : Nat) ({ cls := "SmellBurdensModel", name := "state", desc := "()J" } : Jvm.MethodName)) ∈ xG := xg (xt6 (List.mem_of_getElem? (i := 76) (by decide +kernel))) rfl
def pX11_round : List xE := [(0, 1, .aload_n 0, 0, 0, 0, []), (1, 3, .getfield 118, 8, 10, 0, []), (4, 3, .ifCond .ne 6, 10, 0, 0, []), (7, 2, .bipush (-4), 4, 0, 0, []), (9, 1, .ireturn, 0, 0, 0, []), (10, 1, .aload_n 0, 0, 0, 0, []), (11, 3, .invokevirtual 245, 0, 0, 0, []), (14, 2, .bipush (-9), 9, 0, 0, []), (16, 1, .istore_n 1, 1, 0, 0, []), (17, 1, .aload_n 0, 0, 0, 0, []), (18, 3, .getfield 58, 8, 27, 0, []), (21, 1, .iconst 0, 0, 0, 0, []), (22, 1, .aload_n 0, 0, 0, 0, []), (23, 3, .invokevirtual 254, 1, 0, 0, []), (26, 1, .lastore, 0, 0, 0, []), (27, 1, .iconst 1, 1, 0, 0, []), (28, 1, .istore_n 2, 2, 0, 0, []), (29, 1, .iload_n 2, 2, 0, 0, []), (30, 2, .bipush 61, 61, 0, 0, []), (32, 3, .if_icmp .ge 74, 106, 0, 0, []), (35, 1, .iload_n 1, 1, 0, 0, []), (36, 2, .bipush (-9), 9, 0, 0, []), (38, 3, .if_icmp .ne 68, 106, 0, 0, []), (41, 1, .aload_n 0, 0, 0, 0, []), (42, 3, .invokevirtual 228, 2, 0, 0, []), (45, 1, .pop, 0, 0, 0, []), (46, 1, .aload_n 0, 0, 0, 0, []), (47, 3, .getfield 58, 8, 27, 0, []), (50, 1, .iload_n 2, 2, 0, 0, []), (51, 1, .aload_n 0, 0, 0, 0, []), (52, 3, .invokevirtual 254, 1, 0, 0, []), (55, 1, .lastore, 0, 0, 0, []), (56, 1, .iconst 0, 0, 0, 0, []), (57, 1, .istore_n 3, 3, 0, 0, []), (58, 1, .iload_n 3, 3, 0, 0, []), (59, 1, .iload_n 2, 2, 0, 0, []), (60, 3, .if_icmp .ge 40, 100, 0, 0, []), (63, 1, .iload_n 1, 1, 0, 0, []), (64, 2, .bipush (-9), 9, 0, 0, []), (66, 3, .if_icmp .ne 34, 100, 0, 0, []), (69, 1, .aload_n 0, 0, 0, 0, []), (70, 3, .getfield 58, 8, 27, 0, []), (73, 1, .iload_n 3, 3, 0, 0, []), (74, 1, .laload, 0, 0, 0, []), (75, 1, .aload_n 0, 0, 0, 0, []), (76, 3, .getfield 58, 8, 27, 0, []), (79, 1, .iload_n 2, 2, 0, 0, []), (80, 1, .laload, 0, 0, 0, []), (81, 1, .lcmp, 0, 0, 0, []), (82, 3, .ifCond .ne 12, 94, 0, 0, []), (85, 1, .iload_n 2, 2, 0, 0, []), (86, 1, .istore_n 1, 1, 0, 0, []), (87, 1, .aload_n 0, 0, 0, 0, []), (88, 1, .iload_n 2, 2, 0, 0, []), (89, 1, .iload_n 3, 3, 0, 0, []), (90, 1, .isub, 0, 0, 0, []), (91, 3, .putfield 82, 8, 0, 0, []), (94, 3, .iinc 3 1, 3, 1, 0, []), (97, 3, .goto (-39), 58, 0, 0, []), (100, 3, .iinc 2 1, 2, 1, 0, []), (103, 3, .goto (-74), 29, 0, 0, []), (106, 1, .aload_n 0, 0, 0, 0, []), (107, 3, .invokevirtual 248, 3, 0, 0, []), (110, 1, .iload_n 1, 1, 0, 0, []), (111, 1, .ireturn, 0, 0, 0, [])]
def mX11_round : xM := (yX11_round, cX11_round, 4, (some FieldType.int), 0, 0, 8, 7, 158, 0, pX11_round)
theorem dX11_round : xDec cX11_round pX11_round = true := by decide +kernel
theorem hX11_round : xHd mX11_round := ⟨xg (w := (Jvm.Cond.code ({ cls := "SmellBurdensModel", name := "round", desc := "()I" } : Jvm.MethodName) prog_13_method_73_code (4 : Nat) (Option.some Jvm.ClassFile.FieldType.int))) (xt6 (List.mem_of_getElem? (i := 75) (by decide +kernel))) rfl, xg (w := (Jvm.Cond.initialized "SmellBurdensModel")) (xt1 (List.mem_of_getElem? (i := 10) (by decide +kernel))) rfl, ⟨by decide +kernel, by decide +kernel, by decide +kernel⟩, xg (w := (Jvm.Cond.instanceMethod ({ cls := "SmellBurdensModel", name := "round", desc := "()I" } : Jvm.MethodName))) (xt6 (List.mem_of_getElem? (i := 73) (by decide +kernel))) rfl, xg (w := (Jvm.Cond.selects "SmellBurdensModel" ({ cls := "SmellBurdensModel", name := "round", desc := "()I" } : Jvm.MethodName) ({ cls := "SmellBurdensModel", name := "round", desc := "()I" } : Jvm.MethodName))) (xt6 (List.mem_of_getElem? (i := 74) (by decide +kernel))) rfl, rfl⟩
def pX11_comesHome : List xE := [(0, 1, .iconst 0, 0, 0, 0, []), (1, 1, .istore_n 3, 3, 0, 0, []), (2, 1, .iload_n 3, 3, 0, 0, []), (3, 1, .iload_n 2, 2, 0, 0, []), (4, 3, .if_icmp .ge 22, 26, 0, 0, []), (7, 1, .aload_n 0, 0, 0, 0, []), (8, 1, .iload_n 1, 1, 0, 0, []), (9, 3, .invokevirtual 139, 0, 0, 0, []), (12, 3, .ifCond .ne 14, 26, 0, 0, []), (15, 1, .aload_n 0, 0, 0, 0, []), (16, 3, .invokevirtual 228, 1, 0, 0, []), (19, 1, .pop, 0, 0, 0, []), (20, 3, .iinc 3 1, 3, 1, 0, []), (23, 3, .goto (-21), 2, 0, 0, []), (26, 1, .aload_n 0, 0, 0, 0, []), (27, 1, .iload_n 1, 1, 0, 0, []), (28, 3, .invokevirtual 139, 0, 0, 0, []), (31, 1, .ireturn, 0, 0, 0, [])]
def mX11_comesHome : xM := (yX11_comesHome, cX11_comesHome, 4, (some FieldType.boolean), 0, 2, 8, 7, 158, 0, pX11_comesHome)
theorem dX11_comesHome : xDec cX11_comesHome pX11_comesHome = true := by decide +kernel
theorem hX11_comesHome : xHd mX11_comesHome := ⟨xg (w := (Jvm.Cond.code ({ cls := "SmellBurdensModel", name := "comesHome", desc := "(II)Z" } : Jvm.MethodName) prog_13_method_74_code (4 : Nat) (Option.some Jvm.ClassFile.FieldType.boolean))) (xt6 (List.mem_of_getElem? (i := 88) (by decide +kernel))) rfl, xg (w := (Jvm.Cond.initialized "SmellBurdensModel")) (xt1 (List.mem_of_getElem? (i := 10) (by decide +kernel))) rfl, ⟨by decide +kernel, by decide +kernel, by decide +kernel⟩, xg (w := (Jvm.Cond.instanceMethod ({ cls := "SmellBurdensModel", name := "comesHome", desc := "(II)Z" } : Jvm.MethodName))) (xt6 (List.mem_of_getElem? (i := 87) (by decide +kernel))) rfl, xg (w := (Jvm.Cond.selects "SmellBurdensModel" ({ cls := "SmellBurdensModel", name := "comesHome", desc := "(II)Z" } : Jvm.MethodName) ({ cls := "SmellBurdensModel", name := "comesHome", desc := "(II)Z" } : Jvm.MethodName))) (xsl (List.mem_of_getElem? (i := 58) (by decide +kernel))) rfl, rfl⟩
theorem wdX11_258 : (Jvm.Cond.constantLong "SmellBurdensModel" (258 : Nat) (20 : Int64)) ∈ xG := xg (xt6 (List.mem_of_getElem? (i := 84) (by decide +kernel))) rfl
theorem wdX11_260 : (Jvm.Cond.methodLink "SmellBurdensModel" (260 : Nat) ({ cls := "SmellBurdensModel", name := "comesHome", desc := "(II)Z" } : Jvm.MethodName)) ∈ xG := xg (xt6 (List.mem_of_getElem? (i := 85) (by decide +kernel))) rfl
def pX11_marks_0 : List xE := [(0, 1, .aload_n 0, 0, 0, 0, []), (1, 1, .iload_n 1, 1, 0, 0, []), (2, 3, .invokevirtual 211, 0, 0, 0, []), (5, 3, .ifCond .eq 15, 20, 0, 0, []), (8, 1, .iload_n 2, 2, 0, 0, []), (9, 1, .i2l, 0, 0, 0, []), (10, 1, .lconst 0, 0, 0, 0, []), (11, 3, .ldc2_w 258, 20, 0, 0, []), (14, 3, .invokestatic 90, 1, 0, 0, []), (17, 3, .ifCond .ne 5, 22, 0, 0, []), (20, 1, .iconst (-1), 1, 0, 0, []), (21, 1, .ireturn, 0, 0, 0, []), (22, 1, .aload_n 0, 0, 0, 0, []), (23, 3, .invokevirtual 245, 2, 0, 0, []), (26, 2, .bipush (-9), 9, 0, 0, []), (28, 1, .istore_n 3, 3, 0, 0, []), (29, 1, .iconst 0, 0, 0, 0, []), (30, 2, .istore 4, 4, 0, 0, []), (32, 2, .iload 4, 4, 0, 0, []), (34, 2, .bipush 16, 16, 0, 0, []), (36, 3, .if_icmp .ge 82, 118, 0, 0, []), (39, 2, .iload 4, 4, 0, 0, []), (41, 1, .aload_n 0, 0, 0, 0, []), (42, 3, .getfield 55, 8, 26, 0, []), (45, 2, .bipush 9, 9, 0, 0, []), (47, 1, .iload_n 1, 1, 0, 0, []), (48, 1, .iadd, 0, 0, 0, []), (49, 1, .iaload, 0, 0, 0, []), (50, 1, .ixor, 0, 0, 0, []), (51, 3, .invokestatic 126, 3, 0, 0, []), (54, 2, .istore 5, 5, 0, 0, []), (56, 1, .iload_n 3, 3, 0, 0, []), (57, 2, .bipush (-9), 9, 0, 0, []), (59, 3, .if_icmp .eq 22, 81, 0, 0, []), (62, 2, .iload 5, 5, 0, 0, []), (64, 1, .iload_n 3, 3, 0, 0, []), (65, 1, .aload_n 0, 0, 0, 0, []), (66, 3, .getfield 55, 8, 26, 0, []), (69, 2, .bipush 9, 9, 0, 0, []), (71, 1, .iload_n 1, 1, 0, 0, []), (72, 1, .iadd, 0, 0, 0, []), (73, 1, .iaload, 0, 0, 0, []), (74, 1, .ixor, 0, 0, 0, []), (75, 3, .invokestatic 126, 3, 0, 0, []), (78, 3, .if_icmp .ge 34, 112, 0, 0, []), (81, 1, .aload_n 0, 0, 0, 0, []), (82, 3, .getfield 37, 8, 15, 0, []), (85, 2, .bipush 9, 9, 0, 0, []), (87, 1, .iload_n 1, 1, 0, 0, []), (88, 1, .iadd, 0, 0, 0, []), (89, 2, .iload 4, 4, 0, 0, []), (91, 1, .iastore, 0, 0, 0, []), (92, 1, .aload_n 0, 0, 0, 0, []), (93, 1, .iload_n 1, 1, 0, 0, []), (94, 1, .iload_n 2, 2, 0, 0, []), (95, 3, .invokevirtual 260, 4, 0, 0, []), (98, 3, .ifCond .eq 8, 106, 0, 0, []), (101, 2, .iload 4, 4, 0, 0, []), (103, 3, .goto 4, 107, 0, 0, []), (106, 1, .iload_n 3, 3, 0, 0, []), (107, 1, .istore_n 3, 3, 0, 0, []), (108, 1, .aload_n 0, 0, 0, 0, []), (109, 3, .invokevirtual 248, 5, 0, 0, []), (112, 3, .iinc 4 1, 4, 1, 0, []), (115, 3, .goto (-83), 32, 0, 0, []), (118, 1, .iload_n 3, 3, 0, 0, []), (119, 2, .bipush (-9), 9, 0, 0, []), (121, 3, .if_icmp .ne 6, 127, 0, 0, []), (124, 2, .bipush (-9), 9, 0, 0, []), (126, 1, .ireturn, 0, 0, 0, []), (127, 1, .aload_n 0, 0, 0, 0, []), (128, 1, .iload_n 3, 3, 0, 0, []), (129, 3, .putfield 82, 8, 0, 0, []), (132, 1, .iload_n 3, 3, 0, 0, []), (133, 1, .aload_n 0, 0, 0, 0, []), (134, 3, .getfield 37, 8, 15, 0, []), (137, 2, .bipush 9, 9, 0, 0, []), (139, 1, .iload_n 1, 1, 0, 0, []), (140, 1, .iadd, 0, 0, 0, []), (141, 1, .iaload, 0, 0, 0, [])]
def pX11_marks_1 : List xE := [(142, 1, .ixor, 0, 0, 0, []), (143, 3, .invokestatic 126, 3, 0, 0, []), (146, 1, .ireturn, 0, 0, 0, [])]
def pX11_marks : List xE := pX11_marks_0 ++ (pX11_marks_1)
def mX11_marks : xM := (yX11_marks, cX11_marks, 6, (some FieldType.int), 0, 2, 8, 8, 181, 0, pX11_marks)
theorem dX11_marks : xDec cX11_marks pX11_marks = true := by decide +kernel
theorem hX11_marks : xHd mX11_marks := ⟨xg (w := (Jvm.Cond.code ({ cls := "SmellBurdensModel", name := "marks", desc := "(II)I" } : Jvm.MethodName) prog_13_method_75_code (6 : Nat) (Option.some Jvm.ClassFile.FieldType.int))) (xt6 (List.mem_of_getElem? (i := 83) (by decide +kernel))) rfl, xg (w := (Jvm.Cond.initialized "SmellBurdensModel")) (xt1 (List.mem_of_getElem? (i := 10) (by decide +kernel))) rfl, ⟨by decide +kernel, by decide +kernel, by decide +kernel⟩, xg (w := (Jvm.Cond.instanceMethod ({ cls := "SmellBurdensModel", name := "marks", desc := "(II)I" } : Jvm.MethodName))) (xt6 (List.mem_of_getElem? (i := 81) (by decide +kernel))) rfl, xg (w := (Jvm.Cond.selects "SmellBurdensModel" ({ cls := "SmellBurdensModel", name := "marks", desc := "(II)I" } : Jvm.MethodName) ({ cls := "SmellBurdensModel", name := "marks", desc := "(II)I" } : Jvm.MethodName))) (xt6 (List.mem_of_getElem? (i := 82) (by decide +kernel))) rfl, rfl⟩
def pX11_worth_0 : List xE := [(0, 1, .iload_n 1, 1, 0, 0, []), (1, 1, .istore_n 2, 2, 0, 0, []), (2, 1, .iconst 0, 0, 0, 0, []), (3, 1, .istore_n 3, 3, 0, 0, []), (4, 1, .iconst 0, 0, 0, 0, []), (5, 2, .istore 4, 4, 0, 0, []), (7, 1, .aload_n 0, 0, 0, 0, []), (8, 3, .getfield 118, 8, 10, 0, []), (11, 1, .iconst 1, 1, 0, 0, []), (12, 1, .isub, 0, 0, 0, []), (13, 2, .istore 5, 5, 0, 0, []), (15, 2, .iload 5, 5, 0, 0, []), (17, 3, .ifCond .lt 165, 182, 0, 0, []), (20, 1, .iload_n 2, 2, 0, 0, []), (21, 1, .aload_n 0, 0, 0, 0, []), (22, 3, .getfield 121, 8, 11, 0, []), (25, 1, .iconst 1, 1, 0, 0, []), (26, 1, .iadd, 0, 0, 0, []), (27, 1, .irem, 0, 0, 0, []), (28, 1, .iconst 1, 1, 0, 0, []), (29, 1, .isub, 0, 0, 0, []), (30, 2, .istore 6, 6, 0, 0, []), (32, 1, .iload_n 2, 2, 0, 0, []), (33, 1, .aload_n 0, 0, 0, 0, []), (34, 3, .getfield 121, 8, 11, 0, []), (37, 1, .iconst 1, 1, 0, 0, []), (38, 1, .iadd, 0, 0, 0, []), (39, 1, .idiv, 0, 0, 0, []), (40, 1, .istore_n 2, 2, 0, 0, []), (41, 1, .aload_n 0, 0, 0, 0, []), (42, 3, .getfield 62, 8, 28, 0, []), (45, 2, .iload 5, 5, 0, 0, []), (47, 2, .iload 6, 6, 0, 0, []), (49, 3, .ifCond .ge 8, 57, 0, 0, []), (52, 2, .bipush (-9), 9, 0, 0, []), (54, 3, .goto 5, 59, 0, 0, []), (57, 2, .iload 6, 6, 0, 0, []), (59, 1, .iastore, 0, 0, 0, []), (60, 2, .iload 6, 6, 0, 0, []), (62, 3, .ifCond .lt 54, 116, 0, 0, []), (65, 1, .aload_n 0, 0, 0, 0, []), (66, 3, .getfield 37, 8, 15, 0, []), (69, 2, .bipush 14, 14, 0, 0, []), (71, 2, .iload 6, 6, 0, 0, []), (73, 1, .iadd, 0, 0, 0, []), (74, 1, .iaload, 0, 0, 0, []), (75, 1, .aload_n 0, 0, 0, 0, []), (76, 3, .getfield 37, 8, 15, 0, []), (79, 1, .iconst 5, 5, 0, 0, []), (80, 2, .iload 5, 5, 0, 0, []), (82, 1, .iadd, 0, 0, 0, []), (83, 1, .iaload, 0, 0, 0, []), (84, 3, .if_icmp .ne 36, 120, 0, 0, []), (87, 1, .aload_n 0, 0, 0, 0, []), (88, 2, .iload 6, 6, 0, 0, []), (90, 3, .invokevirtual 139, 0, 0, 0, []), (93, 3, .ifCond .ne 27, 120, 0, 0, []), (96, 1, .aload_n 0, 0, 0, 0, []), (97, 2, .iload 5, 5, 0, 0, []), (99, 2, .iload 6, 6, 0, 0, []), (101, 3, .invokevirtual 142, 1, 0, 0, []), (104, 3, .ifCond .ne 16, 120, 0, 0, []), (107, 1, .iload_n 3, 3, 0, 0, []), (108, 2, .iload 6, 6, 0, 0, []), (110, 1, .ishr, 0, 0, 0, []), (111, 1, .iconst 1, 1, 0, 0, []), (112, 1, .iand, 0, 0, 0, []), (113, 3, .ifCond .ne 7, 120, 0, 0, []), (116, 1, .iconst 1, 1, 0, 0, []), (117, 3, .goto 4, 121, 0, 0, []), (120, 1, .iconst 0, 0, 0, 0, []), (121, 2, .istore 7, 7, 0, 0, []), (123, 1, .iload_n 3, 3, 0, 0, []), (124, 2, .iload 6, 6, 0, 0, []), (126, 3, .ifCond .ge 7, 133, 0, 0, []), (129, 1, .iconst 0, 0, 0, 0, []), (130, 3, .goto 7, 137, 0, 0, []), (133, 1, .iconst 1, 1, 0, 0, []), (134, 2, .iload 6, 6, 0, 0, []), (136, 1, .ishl, 0, 0, 0, [])]
def pX11_worth_1 : List xE := [(137, 1, .ior, 0, 0, 0, []), (138, 1, .istore_n 3, 3, 0, 0, []), (139, 2, .iload 4, 4, 0, 0, []), (141, 2, .iload 6, 6, 0, 0, []), (143, 3, .ifCond .ge 7, 150, 0, 0, []), (146, 1, .iconst 0, 0, 0, 0, []), (147, 3, .goto 11, 158, 0, 0, []), (150, 1, .aload_n 0, 0, 0, 0, []), (151, 2, .iload 5, 5, 0, 0, []), (153, 2, .iload 6, 6, 0, 0, []), (155, 3, .invokevirtual 136, 2, 0, 0, []), (158, 1, .iadd, 0, 0, 0, []), (159, 2, .istore 4, 4, 0, 0, []), (161, 2, .iload 7, 7, 0, 0, []), (163, 3, .ifCond .eq 8, 171, 0, 0, []), (166, 2, .iload 4, 4, 0, 0, []), (168, 3, .goto 6, 174, 0, 0, []), (171, 3, .sipush (-9999), 9999, 0, 0, []), (174, 2, .istore 4, 4, 0, 0, []), (176, 3, .iinc 5 (-1), 5, 1, 0, []), (179, 3, .goto (-164), 15, 0, 0, []), (182, 2, .iload 4, 4, 0, 0, []), (184, 1, .ireturn, 0, 0, 0, [])]
def pX11_worth : List xE := pX11_worth_0 ++ (pX11_worth_1)
def mX11_worth : xM := (yX11_worth, cX11_worth, 8, (some FieldType.int), 0, 1, 8, 4, 89, 0, pX11_worth)
theorem dX11_worth : xDec cX11_worth pX11_worth = true := by decide +kernel
theorem hX11_worth : xHd mX11_worth := ⟨xg (w := (Jvm.Cond.code ({ cls := "SmellBurdensModel", name := "worth", desc := "(I)I" } : Jvm.MethodName) prog_13_method_76_code (8 : Nat) (Option.some Jvm.ClassFile.FieldType.int))) (xt6 (List.mem_of_getElem? (i := 96) (by decide +kernel))) rfl, xg (w := (Jvm.Cond.initialized "SmellBurdensModel")) (xt1 (List.mem_of_getElem? (i := 10) (by decide +kernel))) rfl, ⟨by decide +kernel, by decide +kernel, by decide +kernel⟩, xg (w := (Jvm.Cond.instanceMethod ({ cls := "SmellBurdensModel", name := "worth", desc := "(I)I" } : Jvm.MethodName))) (xt6 (List.mem_of_getElem? (i := 95) (by decide +kernel))) rfl, xg (w := (Jvm.Cond.selects "SmellBurdensModel" ({ cls := "SmellBurdensModel", name := "worth", desc := "(I)I" } : Jvm.MethodName) ({ cls := "SmellBurdensModel", name := "worth", desc := "(I)I" } : Jvm.MethodName))) (xsl (List.mem_of_getElem? (i := 59) (by decide +kernel))) rfl, rfl⟩
theorem wdX11_263 : (Jvm.Cond.methodLink "SmellBurdensModel" (263 : Nat) ({ cls := "SmellBurdensModel", name := "worth", desc := "(I)I" } : Jvm.MethodName)) ∈ xG := xg (xt6 (List.mem_of_getElem? (i := 93) (by decide +kernel))) rfl
def pX11_match_0 : List xE := [(0, 1, .iload_n 1, 1, 0, 0, []), (1, 3, .invokestatic 96, 0, 0, 0, []), (4, 3, .ifCond .ne 5, 9, 0, 0, []), (7, 1, .iconst (-1), 1, 0, 0, []), (8, 1, .ireturn, 0, 0, 0, []), (9, 1, .aload_n 0, 0, 0, 0, []), (10, 3, .getfield 118, 8, 10, 0, []), (13, 3, .ifCond .ne 6, 19, 0, 0, []), (16, 2, .bipush (-4), 4, 0, 0, []), (18, 1, .ireturn, 0, 0, 0, []), (19, 1, .iconst 1, 1, 0, 0, []), (20, 1, .istore_n 2, 2, 0, 0, []), (21, 1, .iconst 0, 0, 0, 0, []), (22, 1, .istore_n 3, 3, 0, 0, []), (23, 1, .iload_n 3, 3, 0, 0, []), (24, 1, .aload_n 0, 0, 0, 0, []), (25, 3, .getfield 118, 8, 10, 0, []), (28, 3, .if_icmp .ge 18, 46, 0, 0, []), (31, 1, .iload_n 2, 2, 0, 0, []), (32, 1, .aload_n 0, 0, 0, 0, []), (33, 3, .getfield 121, 8, 11, 0, []), (36, 1, .iconst 1, 1, 0, 0, []), (37, 1, .iadd, 0, 0, 0, []), (38, 1, .imul, 0, 0, 0, []), (39, 1, .istore_n 2, 2, 0, 0, []), (40, 3, .iinc 3 1, 3, 1, 0, []), (43, 3, .goto (-20), 23, 0, 0, []), (46, 1, .iconst 0, 0, 0, 0, []), (47, 1, .istore_n 3, 3, 0, 0, []), (48, 1, .iconst 0, 0, 0, 0, []), (49, 2, .istore 4, 4, 0, 0, []), (51, 1, .iconst 1, 1, 0, 0, []), (52, 2, .istore 5, 5, 0, 0, []), (54, 2, .iload 5, 5, 0, 0, []), (56, 1, .iload_n 2, 2, 0, 0, []), (57, 3, .if_icmp .ge 47, 104, 0, 0, []), (60, 1, .aload_n 0, 0, 0, 0, []), (61, 2, .iload 5, 5, 0, 0, []), (63, 3, .invokevirtual 263, 1, 0, 0, []), (66, 2, .istore 6, 6, 0, 0, []), (68, 2, .iload 6, 6, 0, 0, []), (70, 2, .iload 4, 4, 0, 0, []), (72, 3, .if_icmp .le 8, 80, 0, 0, []), (75, 2, .iload 5, 5, 0, 0, []), (77, 3, .goto 4, 81, 0, 0, []), (80, 1, .iload_n 3, 3, 0, 0, []), (81, 1, .istore_n 3, 3, 0, 0, []), (82, 2, .iload 6, 6, 0, 0, []), (84, 2, .iload 4, 4, 0, 0, []), (86, 3, .if_icmp .le 8, 94, 0, 0, []), (89, 2, .iload 6, 6, 0, 0, []), (91, 3, .goto 5, 96, 0, 0, []), (94, 2, .iload 4, 4, 0, 0, []), (96, 2, .istore 4, 4, 0, 0, []), (98, 3, .iinc 5 1, 5, 1, 0, []), (101, 3, .goto (-47), 54, 0, 0, []), (104, 1, .aload_n 0, 0, 0, 0, []), (105, 1, .iload_n 3, 3, 0, 0, []), (106, 3, .invokevirtual 263, 1, 0, 0, []), (109, 1, .pop, 0, 0, 0, []), (110, 1, .aload_n 0, 0, 0, 0, []), (111, 1, .iload_n 1, 1, 0, 0, []), (112, 1, .aload_n 0, 0, 0, 0, []), (113, 3, .getfield 118, 8, 10, 0, []), (116, 3, .invokevirtual 104, 2, 0, 0, []), (119, 1, .iconst 0, 0, 0, 0, []), (120, 2, .istore 5, 5, 0, 0, []), (122, 2, .iload 5, 5, 0, 0, []), (124, 1, .aload_n 0, 0, 0, 0, []), (125, 3, .getfield 118, 8, 10, 0, []), (128, 3, .if_icmp .ge 28, 156, 0, 0, []), (131, 1, .aload_n 0, 0, 0, 0, []), (132, 3, .getfield 16, 8, 6, 0, []), (135, 2, .bipush 40, 40, 0, 0, []), (137, 1, .iload_n 1, 1, 0, 0, []), (138, 1, .imul, 0, 0, 0, []), (139, 2, .iload 5, 5, 0, 0, []), (141, 1, .iadd, 0, 0, 0, []), (142, 1, .aload_n 0, 0, 0, 0, []), (143, 3, .getfield 62, 8, 28, 0, [])]
def pX11_match_1 : List xE := [(146, 2, .iload 5, 5, 0, 0, []), (148, 1, .iaload, 0, 0, 0, []), (149, 1, .iastore, 0, 0, 0, []), (150, 3, .iinc 5 1, 5, 1, 0, []), (153, 3, .goto (-31), 122, 0, 0, []), (156, 2, .iload 4, 4, 0, 0, []), (158, 1, .ireturn, 0, 0, 0, [])]
def pX11_match : List xE := pX11_match_0 ++ (pX11_match_1)
def mX11_match : xM := (yX11_match, cX11_match, 7, (some FieldType.int), 0, 1, 8, 5, 116, 0, pX11_match)
theorem dX11_match : xDec cX11_match pX11_match = true := by decide +kernel
theorem hX11_match : xHd mX11_match := ⟨xg (w := (Jvm.Cond.code ({ cls := "SmellBurdensModel", name := "match", desc := "(I)I" } : Jvm.MethodName) prog_13_method_77_code (7 : Nat) (Option.some Jvm.ClassFile.FieldType.int))) (xt6 (List.mem_of_getElem? (i := 92) (by decide +kernel))) rfl, xg (w := (Jvm.Cond.initialized "SmellBurdensModel")) (xt1 (List.mem_of_getElem? (i := 10) (by decide +kernel))) rfl, ⟨by decide +kernel, by decide +kernel, by decide +kernel⟩, xg (w := (Jvm.Cond.instanceMethod ({ cls := "SmellBurdensModel", name := "match", desc := "(I)I" } : Jvm.MethodName))) (xt6 (List.mem_of_getElem? (i := 90) (by decide +kernel))) rfl, xg (w := (Jvm.Cond.selects "SmellBurdensModel" ({ cls := "SmellBurdensModel", name := "match", desc := "(I)I" } : Jvm.MethodName) ({ cls := "SmellBurdensModel", name := "match", desc := "(I)I" } : Jvm.MethodName))) (xt6 (List.mem_of_getElem? (i := 91) (by decide +kernel))) rfl, rfl⟩
def pX11_isOrder : List xE := [(0, 1, .iload_n 1, 1, 0, 0, []), (1, 1, .istore_n 2, 2, 0, 0, []), (2, 1, .iconst 0, 0, 0, 0, []), (3, 1, .istore_n 3, 3, 0, 0, []), (4, 1, .aload_n 0, 0, 0, 0, []), (5, 3, .getfield 118, 8, 10, 0, []), (8, 1, .iconst 1, 1, 0, 0, []), (9, 1, .isub, 0, 0, 0, []), (10, 2, .istore 4, 4, 0, 0, []), (12, 2, .iload 4, 4, 0, 0, []), (14, 3, .ifCond .lt 41, 55, 0, 0, []), (17, 1, .aload_n 0, 0, 0, 0, []), (18, 3, .getfield 65, 8, 29, 0, []), (21, 2, .iload 4, 4, 0, 0, []), (23, 1, .iload_n 2, 2, 0, 0, []), (24, 1, .aload_n 0, 0, 0, 0, []), (25, 3, .getfield 118, 8, 10, 0, []), (28, 1, .irem, 0, 0, 0, []), (29, 1, .iastore, 0, 0, 0, []), (30, 1, .iload_n 2, 2, 0, 0, []), (31, 1, .aload_n 0, 0, 0, 0, []), (32, 3, .getfield 118, 8, 10, 0, []), (35, 1, .idiv, 0, 0, 0, []), (36, 1, .istore_n 2, 2, 0, 0, []), (37, 1, .iload_n 3, 3, 0, 0, []), (38, 1, .iconst 1, 1, 0, 0, []), (39, 1, .aload_n 0, 0, 0, 0, []), (40, 3, .getfield 65, 8, 29, 0, []), (43, 2, .iload 4, 4, 0, 0, []), (45, 1, .iaload, 0, 0, 0, []), (46, 1, .ishl, 0, 0, 0, []), (47, 1, .ior, 0, 0, 0, []), (48, 1, .istore_n 3, 3, 0, 0, []), (49, 3, .iinc 4 (-1), 4, 1, 0, []), (52, 3, .goto (-40), 12, 0, 0, []), (55, 1, .iload_n 3, 3, 0, 0, []), (56, 1, .iconst 1, 1, 0, 0, []), (57, 1, .aload_n 0, 0, 0, 0, []), (58, 3, .getfield 118, 8, 10, 0, []), (61, 1, .ishl, 0, 0, 0, []), (62, 1, .iconst 1, 1, 0, 0, []), (63, 1, .isub, 0, 0, 0, []), (64, 3, .if_icmp .ne 7, 71, 0, 0, []), (67, 1, .iconst 1, 1, 0, 0, []), (68, 3, .goto 4, 72, 0, 0, []), (71, 1, .iconst 0, 0, 0, 0, []), (72, 1, .ireturn, 0, 0, 0, [])]
def mX11_isOrder : xM := (yX11_isOrder, cX11_isOrder, 5, (some FieldType.boolean), 0, 1, 8, 0, 0, 0, pX11_isOrder)
theorem dX11_isOrder : xDec cX11_isOrder pX11_isOrder = true := by decide +kernel
theorem hX11_isOrder : xHd mX11_isOrder := ⟨xg (w := (Jvm.Cond.code ({ cls := "SmellBurdensModel", name := "isOrder", desc := "(I)Z" } : Jvm.MethodName) prog_13_method_78_code (5 : Nat) (Option.some Jvm.ClassFile.FieldType.boolean))) (xt6 (List.mem_of_getElem? (i := 104) (by decide +kernel))) rfl, xg (w := (Jvm.Cond.initialized "SmellBurdensModel")) (xt1 (List.mem_of_getElem? (i := 10) (by decide +kernel))) rfl, ⟨by decide +kernel, by decide +kernel, by decide +kernel⟩, xg (w := (Jvm.Cond.instanceMethod ({ cls := "SmellBurdensModel", name := "isOrder", desc := "(I)Z" } : Jvm.MethodName))) (xt6 (List.mem_of_getElem? (i := 103) (by decide +kernel))) rfl, xg (w := (Jvm.Cond.selects "SmellBurdensModel" ({ cls := "SmellBurdensModel", name := "isOrder", desc := "(I)Z" } : Jvm.MethodName) ({ cls := "SmellBurdensModel", name := "isOrder", desc := "(I)Z" } : Jvm.MethodName))) (xsl (List.mem_of_getElem? (i := 60) (by decide +kernel))) rfl, rfl⟩
theorem wdX11_266 : (Jvm.Cond.methodLink "SmellBurdensModel" (266 : Nat) ({ cls := "SmellBurdensModel", name := "isOrder", desc := "(I)Z" } : Jvm.MethodName)) ∈ xG := xg (xt6 (List.mem_of_getElem? (i := 101) (by decide +kernel))) rfl
def pX11_line_0 : List xE := [(0, 1, .aload_n 0, 0, 0, 0, []), (1, 1, .iload_n 1, 1, 0, 0, []), (2, 3, .invokevirtual 205, 0, 0, 0, []), (5, 3, .ifCond .eq 18, 23, 0, 0, []), (8, 1, .aload_n 0, 0, 0, 0, []), (9, 1, .iload_n 2, 2, 0, 0, []), (10, 3, .invokevirtual 211, 1, 0, 0, []), (13, 3, .ifCond .eq 10, 23, 0, 0, []), (16, 1, .iload_n 3, 3, 0, 0, []), (17, 3, .invokestatic 96, 2, 0, 0, []), (20, 3, .ifCond .ne 5, 25, 0, 0, []), (23, 1, .iconst (-1), 1, 0, 0, []), (24, 1, .ireturn, 0, 0, 0, []), (25, 1, .iconst 1, 1, 0, 0, []), (26, 2, .istore 4, 4, 0, 0, []), (28, 1, .iconst 0, 0, 0, 0, []), (29, 2, .istore 5, 5, 0, 0, []), (31, 2, .iload 5, 5, 0, 0, []), (33, 1, .aload_n 0, 0, 0, 0, []), (34, 3, .getfield 118, 8, 10, 0, []), (37, 3, .if_icmp .ge 18, 55, 0, 0, []), (40, 2, .iload 4, 4, 0, 0, []), (42, 1, .aload_n 0, 0, 0, 0, []), (43, 3, .getfield 118, 8, 10, 0, []), (46, 1, .imul, 0, 0, 0, []), (47, 2, .istore 4, 4, 0, 0, []), (49, 3, .iinc 5 1, 5, 1, 0, []), (52, 3, .goto (-21), 31, 0, 0, []), (55, 1, .iconst 0, 0, 0, 0, []), (56, 2, .istore 5, 5, 0, 0, []), (58, 2, .bipush (-9), 9, 0, 0, []), (60, 2, .istore 6, 6, 0, 0, []), (62, 1, .iconst 0, 0, 0, 0, []), (63, 2, .istore 7, 7, 0, 0, []), (65, 2, .iload 7, 7, 0, 0, []), (67, 2, .iload 4, 4, 0, 0, []), (69, 3, .if_icmp .ge 98, 167, 0, 0, []), (72, 1, .aload_n 0, 0, 0, 0, []), (73, 2, .iload 7, 7, 0, 0, []), (75, 3, .invokevirtual 266, 3, 0, 0, []), (78, 3, .ifCond .eq 83, 161, 0, 0, []), (81, 1, .iconst 0, 0, 0, 0, []), (82, 2, .istore 8, 8, 0, 0, []), (84, 1, .iconst 0, 0, 0, 0, []), (85, 2, .istore 9, 9, 0, 0, []), (87, 2, .iload 9, 9, 0, 0, []), (89, 1, .aload_n 0, 0, 0, 0, []), (90, 3, .getfield 118, 8, 10, 0, []), (93, 3, .if_icmp .ge 24, 117, 0, 0, []), (96, 1, .aload_n 0, 0, 0, 0, []), (97, 1, .aload_n 0, 0, 0, 0, []), (98, 3, .getfield 65, 8, 29, 0, []), (101, 2, .iload 9, 9, 0, 0, []), (103, 1, .iaload, 0, 0, 0, []), (104, 2, .iload 8, 8, 0, 0, []), (106, 3, .invokevirtual 146, 4, 0, 0, []), (109, 2, .istore 8, 8, 0, 0, []), (111, 3, .iinc 9 1, 9, 1, 0, []), (114, 3, .goto (-27), 87, 0, 0, []), (117, 1, .aload_n 0, 0, 0, 0, []), (118, 3, .getfield 40, 8, 16, 0, []), (121, 1, .iload_n 1, 1, 0, 0, []), (122, 1, .iaload, 0, 0, 0, []), (123, 1, .iload_n 2, 2, 0, 0, []), (124, 3, .if_icmp .ne 13, 137, 0, 0, []), (127, 2, .iload 5, 5, 0, 0, []), (129, 3, .ifCond .ne 8, 137, 0, 0, []), (132, 2, .iload 7, 7, 0, 0, []), (134, 3, .goto 5, 139, 0, 0, []), (137, 2, .iload 6, 6, 0, 0, []), (139, 2, .istore 6, 6, 0, 0, []), (141, 2, .iload 5, 5, 0, 0, []), (143, 1, .aload_n 0, 0, 0, 0, []), (144, 3, .getfield 40, 8, 16, 0, []), (147, 1, .iload_n 1, 1, 0, 0, []), (148, 1, .iaload, 0, 0, 0, []), (149, 1, .iload_n 2, 2, 0, 0, []), (150, 3, .if_icmp .ne 7, 157, 0, 0, []), (153, 1, .iconst 1, 1, 0, 0, []), (154, 3, .goto 4, 158, 0, 0, [])]
def pX11_line_1 : List xE := [(157, 1, .iconst 0, 0, 0, 0, []), (158, 1, .iadd, 0, 0, 0, []), (159, 2, .istore 5, 5, 0, 0, []), (161, 3, .iinc 7 1, 7, 1, 0, []), (164, 3, .goto (-99), 65, 0, 0, []), (167, 2, .iload 5, 5, 0, 0, []), (169, 3, .ifCond .ne 6, 175, 0, 0, []), (172, 2, .bipush (-9), 9, 0, 0, []), (174, 1, .ireturn, 0, 0, 0, []), (175, 1, .aload_n 0, 0, 0, 0, []), (176, 2, .iload 6, 6, 0, 0, []), (178, 3, .invokevirtual 266, 3, 0, 0, []), (181, 1, .pop, 0, 0, 0, []), (182, 1, .aload_n 0, 0, 0, 0, []), (183, 1, .iload_n 3, 3, 0, 0, []), (184, 1, .aload_n 0, 0, 0, 0, []), (185, 3, .getfield 118, 8, 10, 0, []), (188, 3, .invokevirtual 104, 5, 0, 0, []), (191, 1, .iconst 0, 0, 0, 0, []), (192, 2, .istore 7, 7, 0, 0, []), (194, 2, .iload 7, 7, 0, 0, []), (196, 1, .aload_n 0, 0, 0, 0, []), (197, 3, .getfield 118, 8, 10, 0, []), (200, 3, .if_icmp .ge 28, 228, 0, 0, []), (203, 1, .aload_n 0, 0, 0, 0, []), (204, 3, .getfield 16, 8, 6, 0, []), (207, 2, .bipush 40, 40, 0, 0, []), (209, 1, .iload_n 3, 3, 0, 0, []), (210, 1, .imul, 0, 0, 0, []), (211, 2, .iload 7, 7, 0, 0, []), (213, 1, .iadd, 0, 0, 0, []), (214, 1, .aload_n 0, 0, 0, 0, []), (215, 3, .getfield 65, 8, 29, 0, []), (218, 2, .iload 7, 7, 0, 0, []), (220, 1, .iaload, 0, 0, 0, []), (221, 1, .iastore, 0, 0, 0, []), (222, 3, .iinc 7 1, 7, 1, 0, []), (225, 3, .goto (-31), 194, 0, 0, []), (228, 2, .iload 5, 5, 0, 0, []), (230, 1, .ireturn, 0, 0, 0, [])]
def pX11_line : List xE := pX11_line_0 ++ (pX11_line_1)
def mX11_line : xM := (yX11_line, cX11_line, 10, (some FieldType.int), 0, 3, 8, 5, 114, 0, pX11_line)
theorem dX11_line : xDec cX11_line pX11_line = true := by decide +kernel
theorem hX11_line : xHd mX11_line := ⟨xg (w := (Jvm.Cond.code ({ cls := "SmellBurdensModel", name := "line", desc := "(III)I" } : Jvm.MethodName) prog_13_method_79_code (10 : Nat) (Option.some Jvm.ClassFile.FieldType.int))) (xt6 (List.mem_of_getElem? (i := 100) (by decide +kernel))) rfl, xg (w := (Jvm.Cond.initialized "SmellBurdensModel")) (xt1 (List.mem_of_getElem? (i := 10) (by decide +kernel))) rfl, ⟨by decide +kernel, by decide +kernel, by decide +kernel⟩, xg (w := (Jvm.Cond.instanceMethod ({ cls := "SmellBurdensModel", name := "line", desc := "(III)I" } : Jvm.MethodName))) (xt6 (List.mem_of_getElem? (i := 98) (by decide +kernel))) rfl, xg (w := (Jvm.Cond.selects "SmellBurdensModel" ({ cls := "SmellBurdensModel", name := "line", desc := "(III)I" } : Jvm.MethodName) ({ cls := "SmellBurdensModel", name := "line", desc := "(III)I" } : Jvm.MethodName))) (xt6 (List.mem_of_getElem? (i := 99) (by decide +kernel))) rfl, rfl⟩
def pX11_cover : List xE := [(0, 1, .aload_n 0, 0, 0, 0, []), (1, 3, .getfield 118, 8, 10, 0, []), (4, 3, .ifCond .ne 6, 10, 0, 0, []), (7, 2, .bipush (-4), 4, 0, 0, []), (9, 1, .ireturn, 0, 0, 0, []), (10, 2, .bipush (-9), 9, 0, 0, []), (12, 1, .istore_n 1, 1, 0, 0, []), (13, 1, .iconst 0, 0, 0, 0, []), (14, 1, .istore_n 2, 2, 0, 0, []), (15, 1, .iload_n 2, 2, 0, 0, []), (16, 1, .iconst 1, 1, 0, 0, []), (17, 1, .aload_n 0, 0, 0, 0, []), (18, 3, .getfield 118, 8, 10, 0, []), (21, 1, .ishl, 0, 0, 0, []), (22, 3, .if_icmp .ge 85, 107, 0, 0, []), (25, 1, .iconst 1, 1, 0, 0, []), (26, 1, .istore_n 3, 3, 0, 0, []), (27, 1, .iconst 0, 0, 0, 0, []), (28, 2, .istore 4, 4, 0, 0, []), (30, 2, .iload 4, 4, 0, 0, []), (32, 1, .aload_n 0, 0, 0, 0, []), (33, 3, .getfield 121, 8, 11, 0, []), (36, 3, .if_icmp .ge 38, 74, 0, 0, []), (39, 1, .iload_n 3, 3, 0, 0, []), (40, 3, .ifCond .eq 26, 66, 0, 0, []), (43, 1, .aload_n 0, 0, 0, 0, []), (44, 1, .aload_n 0, 0, 0, 0, []), (45, 3, .getfield 37, 8, 15, 0, []), (48, 2, .bipush 9, 9, 0, 0, []), (50, 2, .iload 4, 4, 0, 0, []), (52, 1, .iadd, 0, 0, 0, []), (53, 1, .iaload, 0, 0, 0, []), (54, 3, .invokevirtual 240, 0, 0, 0, []), (57, 1, .iload_n 2, 2, 0, 0, []), (58, 1, .iand, 0, 0, 0, []), (59, 3, .ifCond .eq 7, 66, 0, 0, []), (62, 1, .iconst 1, 1, 0, 0, []), (63, 3, .goto 4, 67, 0, 0, []), (66, 1, .iconst 0, 0, 0, 0, []), (67, 1, .istore_n 3, 3, 0, 0, []), (68, 3, .iinc 4 1, 4, 1, 0, []), (71, 3, .goto (-41), 30, 0, 0, []), (74, 1, .iload_n 3, 3, 0, 0, []), (75, 3, .ifCond .eq 24, 99, 0, 0, []), (78, 1, .iload_n 1, 1, 0, 0, []), (79, 2, .bipush (-9), 9, 0, 0, []), (81, 3, .if_icmp .eq 14, 95, 0, 0, []), (84, 1, .iload_n 2, 2, 0, 0, []), (85, 3, .invokestatic 126, 1, 0, 0, []), (88, 1, .iload_n 1, 1, 0, 0, []), (89, 3, .invokestatic 126, 1, 0, 0, []), (92, 3, .if_icmp .ge 7, 99, 0, 0, []), (95, 1, .iload_n 2, 2, 0, 0, []), (96, 3, .goto 4, 100, 0, 0, []), (99, 1, .iload_n 1, 1, 0, 0, []), (100, 1, .istore_n 1, 1, 0, 0, []), (101, 3, .iinc 2 1, 2, 1, 0, []), (104, 3, .goto (-89), 15, 0, 0, []), (107, 1, .iload_n 1, 1, 0, 0, []), (108, 2, .bipush (-9), 9, 0, 0, []), (110, 3, .if_icmp .ne 6, 116, 0, 0, []), (113, 2, .bipush (-9), 9, 0, 0, []), (115, 1, .ireturn, 0, 0, 0, []), (116, 1, .aload_n 0, 0, 0, 0, []), (117, 1, .iload_n 1, 1, 0, 0, []), (118, 3, .putfield 82, 8, 0, 0, []), (121, 1, .iload_n 1, 1, 0, 0, []), (122, 3, .invokestatic 126, 1, 0, 0, []), (125, 1, .ireturn, 0, 0, 0, [])]
def mX11_cover : xM := (yX11_cover, cX11_cover, 5, (some FieldType.int), 0, 0, 8, 4, 90, 0, pX11_cover)
theorem dX11_cover : xDec cX11_cover pX11_cover = true := by decide +kernel
theorem hX11_cover : xHd mX11_cover := ⟨xg (w := (Jvm.Cond.code ({ cls := "SmellBurdensModel", name := "cover", desc := "()I" } : Jvm.MethodName) prog_13_method_80_code (5 : Nat) (Option.some Jvm.ClassFile.FieldType.int))) (xt6 (List.mem_of_getElem? (i := 108) (by decide +kernel))) rfl, xg (w := (Jvm.Cond.initialized "SmellBurdensModel")) (xt1 (List.mem_of_getElem? (i := 10) (by decide +kernel))) rfl, ⟨by decide +kernel, by decide +kernel, by decide +kernel⟩, xg (w := (Jvm.Cond.instanceMethod ({ cls := "SmellBurdensModel", name := "cover", desc := "()I" } : Jvm.MethodName))) (xt6 (List.mem_of_getElem? (i := 106) (by decide +kernel))) rfl, xg (w := (Jvm.Cond.selects "SmellBurdensModel" ({ cls := "SmellBurdensModel", name := "cover", desc := "()I" } : Jvm.MethodName) ({ cls := "SmellBurdensModel", name := "cover", desc := "()I" } : Jvm.MethodName))) (xt6 (List.mem_of_getElem? (i := 107) (by decide +kernel))) rfl, rfl⟩
def pX11_whyPairs : List xE := [(0, 1, .aload_n 0, 0, 0, 0, []), (1, 3, .getfield 13, 8, 5, 0, []), (4, 1, .iload_n 1, 1, 0, 0, []), (5, 1, .iaload, 0, 0, 0, []), (6, 3, .ifCond .ge 9, 15, 0, 0, []), (9, 1, .aload_n 0, 0, 0, 0, []), (10, 1, .iconst 1, 1, 0, 0, []), (11, 3, .invokevirtual 100, 0, 0, 0, []), (14, 1, .ireturn, 0, 0, 0, []), (15, 1, .aload_n 0, 0, 0, 0, []), (16, 3, .getfield 13, 8, 5, 0, []), (19, 1, .iload_n 1, 1, 0, 0, []), (20, 1, .iaload, 0, 0, 0, []), (21, 1, .iconst 2, 2, 0, 0, []), (22, 1, .irem, 0, 0, 0, []), (23, 1, .iconst 1, 1, 0, 0, []), (24, 3, .if_icmp .eq 14, 38, 0, 0, []), (27, 1, .aload_n 0, 0, 0, 0, []), (28, 3, .getfield 13, 8, 5, 0, []), (31, 1, .iload_n 1, 1, 0, 0, []), (32, 1, .iaload, 0, 0, 0, []), (33, 2, .bipush 16, 16, 0, 0, []), (35, 3, .if_icmp .le 9, 44, 0, 0, []), (38, 1, .aload_n 0, 0, 0, 0, []), (39, 1, .iconst 5, 5, 0, 0, []), (40, 3, .invokevirtual 100, 0, 0, 0, []), (43, 1, .ireturn, 0, 0, 0, []), (44, 1, .iconst 0, 0, 0, 0, []), (45, 1, .istore_n 2, 2, 0, 0, []), (46, 1, .iload_n 2, 2, 0, 0, []), (47, 1, .aload_n 0, 0, 0, 0, []), (48, 3, .getfield 13, 8, 5, 0, []), (51, 1, .iload_n 1, 1, 0, 0, []), (52, 1, .iaload, 0, 0, 0, []), (53, 3, .if_icmp .ge 47, 100, 0, 0, []), (56, 1, .aload_n 0, 0, 0, 0, []), (57, 3, .getfield 16, 8, 6, 0, []), (60, 2, .bipush 40, 40, 0, 0, []), (62, 1, .iload_n 1, 1, 0, 0, []), (63, 1, .imul, 0, 0, 0, []), (64, 1, .iload_n 2, 2, 0, 0, []), (65, 1, .iadd, 0, 0, 0, []), (66, 1, .iaload, 0, 0, 0, []), (67, 1, .i2l, 0, 0, 0, []), (68, 1, .lconst 0, 0, 0, 0, []), (69, 1, .iload_n 2, 2, 0, 0, []), (70, 1, .iconst 2, 2, 0, 0, []), (71, 1, .irem, 0, 0, 0, []), (72, 3, .ifCond .ne 9, 81, 0, 0, []), (75, 3, .ldc2_w 124, 15, 0, 0, []), (78, 3, .goto 4, 82, 0, 0, []), (81, 1, .lconst 1, 1, 0, 0, []), (82, 3, .invokestatic 90, 1, 0, 0, []), (85, 3, .ifCond .ne 9, 94, 0, 0, []), (88, 1, .aload_n 0, 0, 0, 0, []), (89, 1, .iconst 3, 3, 0, 0, []), (90, 3, .invokevirtual 100, 0, 0, 0, []), (93, 1, .ireturn, 0, 0, 0, []), (94, 3, .iinc 2 1, 2, 1, 0, []), (97, 3, .goto (-51), 46, 0, 0, []), (100, 1, .iconst 0, 0, 0, 0, []), (101, 1, .ireturn, 0, 0, 0, [])]
def mX11_whyPairs : xM := (yX11_whyPairs, cX11_whyPairs, 3, (some FieldType.int), 0, 1, 8, 1, 25, 0, pX11_whyPairs)
theorem dX11_whyPairs : xDec cX11_whyPairs pX11_whyPairs = true := by decide +kernel
theorem hX11_whyPairs : xHd mX11_whyPairs := ⟨xg (w := (Jvm.Cond.code ({ cls := "SmellBurdensModel", name := "whyPairs", desc := "(I)I" } : Jvm.MethodName) prog_13_method_81_code (3 : Nat) (Option.some Jvm.ClassFile.FieldType.int))) (xt6 (List.mem_of_getElem? (i := 116) (by decide +kernel))) rfl, xg (w := (Jvm.Cond.initialized "SmellBurdensModel")) (xt1 (List.mem_of_getElem? (i := 10) (by decide +kernel))) rfl, ⟨by decide +kernel, by decide +kernel, by decide +kernel⟩, xg (w := (Jvm.Cond.instanceMethod ({ cls := "SmellBurdensModel", name := "whyPairs", desc := "(I)I" } : Jvm.MethodName))) (xt6 (List.mem_of_getElem? (i := 115) (by decide +kernel))) rfl, xg (w := (Jvm.Cond.selects "SmellBurdensModel" ({ cls := "SmellBurdensModel", name := "whyPairs", desc := "(I)I" } : Jvm.MethodName) ({ cls := "SmellBurdensModel", name := "whyPairs", desc := "(I)I" } : Jvm.MethodName))) (xsl (List.mem_of_getElem? (i := 61) (by decide +kernel))) rfl, rfl⟩
def pX11_isSo : List xE := [(0, 1, .iconst 1, 1, 0, 0, []), (1, 2, .istore 4, 4, 0, 0, []), (3, 1, .iconst 0, 0, 0, 0, []), (4, 2, .istore 5, 5, 0, 0, []), (6, 2, .iload 5, 5, 0, 0, []), (8, 1, .aload_n 0, 0, 0, 0, []), (9, 3, .getfield 13, 8, 5, 0, []), (12, 1, .iload_n 1, 1, 0, 0, []), (13, 1, .iaload, 0, 0, 0, []), (14, 3, .if_icmp .ge 64, 78, 0, 0, []), (17, 2, .iload 4, 4, 0, 0, []), (19, 3, .ifCond .eq 50, 69, 0, 0, []), (22, 1, .iload_n 2, 2, 0, 0, []), (23, 1, .iload_n 3, 3, 0, 0, []), (24, 1, .aload_n 0, 0, 0, 0, []), (25, 3, .getfield 16, 8, 6, 0, []), (28, 2, .bipush 40, 40, 0, 0, []), (30, 1, .iload_n 1, 1, 0, 0, []), (31, 1, .imul, 0, 0, 0, []), (32, 2, .iload 5, 5, 0, 0, []), (34, 1, .iadd, 0, 0, 0, []), (35, 1, .iaload, 0, 0, 0, []), (36, 3, .invokestatic 236, 0, 0, 0, []), (39, 1, .aload_n 0, 0, 0, 0, []), (40, 3, .getfield 16, 8, 6, 0, []), (43, 2, .bipush 40, 40, 0, 0, []), (45, 1, .iload_n 1, 1, 0, 0, []), (46, 1, .imul, 0, 0, 0, []), (47, 2, .iload 5, 5, 0, 0, []), (49, 1, .iadd, 0, 0, 0, []), (50, 1, .iconst 1, 1, 0, 0, []), (51, 1, .iadd, 0, 0, 0, []), (52, 1, .iaload, 0, 0, 0, []), (53, 1, .iconst 1, 1, 0, 0, []), (54, 3, .if_icmp .ne 7, 61, 0, 0, []), (57, 1, .iconst 1, 1, 0, 0, []), (58, 3, .goto 4, 62, 0, 0, []), (61, 1, .iconst 0, 0, 0, 0, []), (62, 3, .if_icmp .ne 7, 69, 0, 0, []), (65, 1, .iconst 1, 1, 0, 0, []), (66, 3, .goto 4, 70, 0, 0, []), (69, 1, .iconst 0, 0, 0, 0, []), (70, 2, .istore 4, 4, 0, 0, []), (72, 3, .iinc 5 2, 5, 2, 0, []), (75, 3, .goto (-69), 6, 0, 0, []), (78, 2, .iload 4, 4, 0, 0, []), (80, 1, .ireturn, 0, 0, 0, [])]
def mX11_isSo : xM := (yX11_isSo, cX11_isSo, 6, (some FieldType.boolean), 0, 3, 8, 3, 67, 0, pX11_isSo)
theorem dX11_isSo : xDec cX11_isSo pX11_isSo = true := by decide +kernel
theorem hX11_isSo : xHd mX11_isSo := ⟨xg (w := (Jvm.Cond.code ({ cls := "SmellBurdensModel", name := "isSo", desc := "(III)Z" } : Jvm.MethodName) prog_13_method_82_code (6 : Nat) (Option.some Jvm.ClassFile.FieldType.boolean))) (xt6 (List.mem_of_getElem? (i := 124) (by decide +kernel))) rfl, xg (w := (Jvm.Cond.initialized "SmellBurdensModel")) (xt1 (List.mem_of_getElem? (i := 10) (by decide +kernel))) rfl, ⟨by decide +kernel, by decide +kernel, by decide +kernel⟩, xg (w := (Jvm.Cond.instanceMethod ({ cls := "SmellBurdensModel", name := "isSo", desc := "(III)Z" } : Jvm.MethodName))) (xt6 (List.mem_of_getElem? (i := 123) (by decide +kernel))) rfl, xg (w := (Jvm.Cond.selects "SmellBurdensModel" ({ cls := "SmellBurdensModel", name := "isSo", desc := "(III)Z" } : Jvm.MethodName) ({ cls := "SmellBurdensModel", name := "isSo", desc := "(III)Z" } : Jvm.MethodName))) (xsl (List.mem_of_getElem? (i := 63) (by decide +kernel))) rfl, rfl⟩
theorem wdX11_269 : (Jvm.Cond.methodLink "SmellBurdensModel" (269 : Nat) ({ cls := "SmellBurdensModel", name := "isSo", desc := "(III)Z" } : Jvm.MethodName)) ∈ xG := xg (xt6 (List.mem_of_getElem? (i := 121) (by decide +kernel))) rfl
def pX11_memoriesBy : List xE := [(0, 1, .iconst 0, 0, 0, 0, []), (1, 1, .istore_n 3, 3, 0, 0, []), (2, 1, .iconst 0, 0, 0, 0, []), (3, 2, .istore 4, 4, 0, 0, []), (5, 2, .iload 4, 4, 0, 0, []), (7, 2, .bipush 16, 16, 0, 0, []), (9, 3, .if_icmp .ge 36, 45, 0, 0, []), (12, 1, .iload_n 3, 3, 0, 0, []), (13, 1, .aload_n 0, 0, 0, 0, []), (14, 1, .iload_n 2, 2, 0, 0, []), (15, 1, .aload_n 0, 0, 0, 0, []), (16, 3, .getfield 31, 8, 13, 0, []), (19, 1, .iload_n 1, 1, 0, 0, []), (20, 1, .iaload, 0, 0, 0, []), (21, 2, .iload 4, 4, 0, 0, []), (23, 3, .invokevirtual 269, 0, 0, 0, []), (26, 3, .ifCond .eq 10, 36, 0, 0, []), (29, 1, .iconst 1, 1, 0, 0, []), (30, 2, .iload 4, 4, 0, 0, []), (32, 1, .ishl, 0, 0, 0, []), (33, 3, .goto 4, 37, 0, 0, []), (36, 1, .iconst 0, 0, 0, 0, []), (37, 1, .ior, 0, 0, 0, []), (38, 1, .istore_n 3, 3, 0, 0, []), (39, 3, .iinc 4 1, 4, 1, 0, []), (42, 3, .goto (-37), 5, 0, 0, []), (45, 1, .iload_n 3, 3, 0, 0, []), (46, 1, .ireturn, 0, 0, 0, [])]
def mX11_memoriesBy : xM := (yX11_memoriesBy, cX11_memoriesBy, 5, (some FieldType.int), 0, 2, 8, 4, 92, 0, pX11_memoriesBy)
theorem dX11_memoriesBy : xDec cX11_memoriesBy pX11_memoriesBy = true := by decide +kernel
theorem hX11_memoriesBy : xHd mX11_memoriesBy := ⟨xg (w := (Jvm.Cond.code ({ cls := "SmellBurdensModel", name := "memoriesBy", desc := "(II)I" } : Jvm.MethodName) prog_13_method_83_code (5 : Nat) (Option.some Jvm.ClassFile.FieldType.int))) (xt6 (List.mem_of_getElem? (i := 120) (by decide +kernel))) rfl, xg (w := (Jvm.Cond.initialized "SmellBurdensModel")) (xt1 (List.mem_of_getElem? (i := 10) (by decide +kernel))) rfl, ⟨by decide +kernel, by decide +kernel, by decide +kernel⟩, xg (w := (Jvm.Cond.instanceMethod ({ cls := "SmellBurdensModel", name := "memoriesBy", desc := "(II)I" } : Jvm.MethodName))) (xt6 (List.mem_of_getElem? (i := 119) (by decide +kernel))) rfl, xg (w := (Jvm.Cond.selects "SmellBurdensModel" ({ cls := "SmellBurdensModel", name := "memoriesBy", desc := "(II)I" } : Jvm.MethodName) ({ cls := "SmellBurdensModel", name := "memoriesBy", desc := "(II)I" } : Jvm.MethodName))) (xsl (List.mem_of_getElem? (i := 62) (by decide +kernel))) rfl, rfl⟩
theorem wdX11_272 : (Jvm.Cond.methodLink "SmellBurdensModel" (272 : Nat) ({ cls := "SmellBurdensModel", name := "whyPairs", desc := "(I)I" } : Jvm.MethodName)) ∈ xG := xg (xt6 (List.mem_of_getElem? (i := 113) (by decide +kernel))) rfl
theorem wdX11_275 : (Jvm.Cond.methodLink "SmellBurdensModel" (275 : Nat) ({ cls := "SmellBurdensModel", name := "memoriesBy", desc := "(II)I" } : Jvm.MethodName)) ∈ xG := xg (xt6 (List.mem_of_getElem? (i := 117) (by decide +kernel))) rfl
def pX11_memories : List xE := [(0, 1, .aload_n 0, 0, 0, 0, []), (1, 1, .iload_n 1, 1, 0, 0, []), (2, 3, .invokevirtual 205, 0, 0, 0, []), (5, 3, .ifCond .eq 10, 15, 0, 0, []), (8, 1, .iload_n 2, 2, 0, 0, []), (9, 3, .invokestatic 96, 1, 0, 0, []), (12, 3, .ifCond .ne 5, 17, 0, 0, []), (15, 1, .iconst (-1), 1, 0, 0, []), (16, 1, .ireturn, 0, 0, 0, []), (17, 1, .aload_n 0, 0, 0, 0, []), (18, 1, .iload_n 2, 2, 0, 0, []), (19, 3, .invokevirtual 272, 2, 0, 0, []), (22, 1, .istore_n 3, 3, 0, 0, []), (23, 1, .iload_n 3, 3, 0, 0, []), (24, 3, .ifCond .ge 7, 31, 0, 0, []), (27, 1, .iload_n 3, 3, 0, 0, []), (28, 3, .goto 9, 37, 0, 0, []), (31, 1, .aload_n 0, 0, 0, 0, []), (32, 1, .iload_n 1, 1, 0, 0, []), (33, 1, .iload_n 2, 2, 0, 0, []), (34, 3, .invokevirtual 275, 3, 0, 0, []), (37, 1, .ireturn, 0, 0, 0, [])]
def mX11_memories : xM := (yX11_memories, cX11_memories, 4, (some FieldType.int), 0, 2, 8, 5, 116, 0, pX11_memories)
theorem dX11_memories : xDec cX11_memories pX11_memories = true := by decide +kernel
theorem hX11_memories : xHd mX11_memories := ⟨xg (w := (Jvm.Cond.code ({ cls := "SmellBurdensModel", name := "memories", desc := "(II)I" } : Jvm.MethodName) prog_13_method_84_code (4 : Nat) (Option.some Jvm.ClassFile.FieldType.int))) (xt6 (List.mem_of_getElem? (i := 112) (by decide +kernel))) rfl, xg (w := (Jvm.Cond.initialized "SmellBurdensModel")) (xt1 (List.mem_of_getElem? (i := 10) (by decide +kernel))) rfl, ⟨by decide +kernel, by decide +kernel, by decide +kernel⟩, xg (w := (Jvm.Cond.instanceMethod ({ cls := "SmellBurdensModel", name := "memories", desc := "(II)I" } : Jvm.MethodName))) (xt6 (List.mem_of_getElem? (i := 110) (by decide +kernel))) rfl, xg (w := (Jvm.Cond.selects "SmellBurdensModel" ({ cls := "SmellBurdensModel", name := "memories", desc := "(II)I" } : Jvm.MethodName) ({ cls := "SmellBurdensModel", name := "memories", desc := "(II)I" } : Jvm.MethodName))) (xt6 (List.mem_of_getElem? (i := 111) (by decide +kernel))) rfl, rfl⟩
def pX11_kinds : List xE := [(0, 1, .aload_n 0, 0, 0, 0, []), (1, 1, .iload_n 1, 1, 0, 0, []), (2, 3, .invokevirtual 205, 0, 0, 0, []), (5, 3, .ifCond .eq 10, 15, 0, 0, []), (8, 1, .iload_n 2, 2, 0, 0, []), (9, 3, .invokestatic 96, 1, 0, 0, []), (12, 3, .ifCond .ne 5, 17, 0, 0, []), (15, 1, .iconst (-1), 1, 0, 0, []), (16, 1, .ireturn, 0, 0, 0, []), (17, 1, .aload_n 0, 0, 0, 0, []), (18, 1, .iload_n 2, 2, 0, 0, []), (19, 3, .invokevirtual 272, 2, 0, 0, []), (22, 1, .istore_n 3, 3, 0, 0, []), (23, 1, .iload_n 3, 3, 0, 0, []), (24, 3, .ifCond .ge 5, 29, 0, 0, []), (27, 1, .iload_n 3, 3, 0, 0, []), (28, 1, .ireturn, 0, 0, 0, []), (29, 1, .iconst 0, 0, 0, 0, []), (30, 2, .istore 4, 4, 0, 0, []), (32, 1, .iconst 0, 0, 0, 0, []), (33, 2, .istore 5, 5, 0, 0, []), (35, 2, .iload 5, 5, 0, 0, []), (37, 2, .bipush 6, 6, 0, 0, []), (39, 3, .if_icmp .ge 40, 79, 0, 0, []), (42, 2, .iload 4, 4, 0, 0, []), (44, 1, .aload_n 0, 0, 0, 0, []), (45, 1, .iload_n 2, 2, 0, 0, []), (46, 2, .iload 5, 5, 0, 0, []), (48, 1, .aload_n 0, 0, 0, 0, []), (49, 3, .getfield 37, 8, 15, 0, []), (52, 1, .iconst 1, 1, 0, 0, []), (53, 1, .iload_n 1, 1, 0, 0, []), (54, 1, .iadd, 0, 0, 0, []), (55, 1, .iaload, 0, 0, 0, []), (56, 3, .invokevirtual 269, 3, 0, 0, []), (59, 3, .ifCond .eq 10, 69, 0, 0, []), (62, 1, .iconst 1, 1, 0, 0, []), (63, 2, .iload 5, 5, 0, 0, []), (65, 1, .ishl, 0, 0, 0, []), (66, 3, .goto 4, 70, 0, 0, []), (69, 1, .iconst 0, 0, 0, 0, []), (70, 1, .ior, 0, 0, 0, []), (71, 2, .istore 4, 4, 0, 0, []), (73, 3, .iinc 5 1, 5, 1, 0, []), (76, 3, .goto (-41), 35, 0, 0, []), (79, 2, .iload 4, 4, 0, 0, []), (81, 1, .ireturn, 0, 0, 0, [])]
def mX11_kinds : xM := (yX11_kinds, cX11_kinds, 6, (some FieldType.int), 0, 2, 8, 4, 92, 0, pX11_kinds)
theorem dX11_kinds : xDec cX11_kinds pX11_kinds = true := by decide +kernel
theorem hX11_kinds : xHd mX11_kinds := ⟨xg (w := (Jvm.Cond.code ({ cls := "SmellBurdensModel", name := "kinds", desc := "(II)I" } : Jvm.MethodName) prog_13_method_85_code (6 : Nat) (Option.some Jvm.ClassFile.FieldType.int))) (xt6 (List.mem_of_getElem? (i := 128) (by decide +kernel))) rfl, xg (w := (Jvm.Cond.initialized "SmellBurdensModel")) (xt1 (List.mem_of_getElem? (i := 10) (by decide +kernel))) rfl, ⟨by decide +kernel, by decide +kernel, by decide +kernel⟩, xg (w := (Jvm.Cond.instanceMethod ({ cls := "SmellBurdensModel", name := "kinds", desc := "(II)I" } : Jvm.MethodName))) (xt6 (List.mem_of_getElem? (i := 126) (by decide +kernel))) rfl, xg (w := (Jvm.Cond.selects "SmellBurdensModel" ({ cls := "SmellBurdensModel", name := "kinds", desc := "(II)I" } : Jvm.MethodName) ({ cls := "SmellBurdensModel", name := "kinds", desc := "(II)I" } : Jvm.MethodName))) (xt6 (List.mem_of_getElem? (i := 127) (by decide +kernel))) rfl, rfl⟩
def pX11_next_0 : List xE := [(0, 1, .aload_n 0, 0, 0, 0, []), (1, 1, .iload_n 1, 1, 0, 0, []), (2, 3, .invokevirtual 205, 0, 0, 0, []), (5, 3, .ifCond .eq 10, 15, 0, 0, []), (8, 1, .iload_n 2, 2, 0, 0, []), (9, 3, .invokestatic 96, 1, 0, 0, []), (12, 3, .ifCond .ne 5, 17, 0, 0, []), (15, 1, .iconst (-1), 1, 0, 0, []), (16, 1, .ireturn, 0, 0, 0, []), (17, 1, .aload_n 0, 0, 0, 0, []), (18, 1, .iload_n 2, 2, 0, 0, []), (19, 3, .invokevirtual 272, 2, 0, 0, []), (22, 1, .istore_n 3, 3, 0, 0, []), (23, 1, .iload_n 3, 3, 0, 0, []), (24, 3, .ifCond .ge 5, 29, 0, 0, []), (27, 1, .iload_n 3, 3, 0, 0, []), (28, 1, .ireturn, 0, 0, 0, []), (29, 1, .aload_n 0, 0, 0, 0, []), (30, 1, .iload_n 1, 1, 0, 0, []), (31, 1, .iload_n 2, 2, 0, 0, []), (32, 3, .invokevirtual 275, 3, 0, 0, []), (35, 2, .istore 4, 4, 0, 0, []), (37, 2, .iload 4, 4, 0, 0, []), (39, 3, .ifCond .ne 6, 45, 0, 0, []), (42, 2, .bipush (-9), 9, 0, 0, []), (44, 1, .ireturn, 0, 0, 0, []), (45, 2, .bipush (-9), 9, 0, 0, []), (47, 2, .istore 5, 5, 0, 0, []), (49, 2, .bipush 99, 99, 0, 0, []), (51, 2, .istore 6, 6, 0, 0, []), (53, 1, .iconst 0, 0, 0, 0, []), (54, 2, .istore 7, 7, 0, 0, []), (56, 2, .iload 7, 7, 0, 0, []), (58, 2, .bipush 16, 16, 0, 0, []), (60, 3, .if_icmp .ge 125, 185, 0, 0, []), (63, 1, .iconst 0, 0, 0, 0, []), (64, 2, .istore 8, 8, 0, 0, []), (66, 1, .iconst 0, 0, 0, 0, []), (67, 2, .istore 9, 9, 0, 0, []), (69, 2, .iload 9, 9, 0, 0, []), (71, 2, .bipush 16, 16, 0, 0, []), (73, 3, .if_icmp .ge 46, 119, 0, 0, []), (76, 2, .iload 8, 8, 0, 0, []), (78, 2, .iload 4, 4, 0, 0, []), (80, 2, .iload 9, 9, 0, 0, []), (82, 1, .ishr, 0, 0, 0, []), (83, 1, .iconst 1, 1, 0, 0, []), (84, 1, .iand, 0, 0, 0, []), (85, 1, .iconst 1, 1, 0, 0, []), (86, 3, .if_icmp .ne 23, 109, 0, 0, []), (89, 1, .aload_n 0, 0, 0, 0, []), (90, 3, .getfield 31, 8, 13, 0, []), (93, 1, .iload_n 1, 1, 0, 0, []), (94, 1, .iaload, 0, 0, 0, []), (95, 2, .iload 9, 9, 0, 0, []), (97, 2, .iload 7, 7, 0, 0, []), (99, 3, .invokestatic 236, 4, 0, 0, []), (102, 3, .ifCond .eq 7, 109, 0, 0, []), (105, 1, .iconst 1, 1, 0, 0, []), (106, 3, .goto 4, 110, 0, 0, []), (109, 1, .iconst 0, 0, 0, 0, []), (110, 1, .iadd, 0, 0, 0, []), (111, 2, .istore 8, 8, 0, 0, []), (113, 3, .iinc 9 1, 9, 1, 0, []), (116, 3, .goto (-47), 69, 0, 0, []), (119, 2, .iload 8, 8, 0, 0, []), (121, 2, .iload 4, 4, 0, 0, []), (123, 3, .invokestatic 126, 5, 0, 0, []), (126, 2, .iload 8, 8, 0, 0, []), (128, 1, .isub, 0, 0, 0, []), (129, 3, .if_icmp .le 8, 137, 0, 0, []), (132, 2, .iload 8, 8, 0, 0, []), (134, 3, .goto 11, 145, 0, 0, []), (137, 2, .iload 4, 4, 0, 0, []), (139, 3, .invokestatic 126, 5, 0, 0, []), (142, 2, .iload 8, 8, 0, 0, []), (144, 1, .isub, 0, 0, 0, []), (145, 2, .istore 9, 9, 0, 0, []), (147, 2, .iload 9, 9, 0, 0, []), (149, 2, .iload 6, 6, 0, 0, [])]
def pX11_next_1 : List xE := [(151, 3, .if_icmp .ge 8, 159, 0, 0, []), (154, 2, .iload 7, 7, 0, 0, []), (156, 3, .goto 5, 161, 0, 0, []), (159, 2, .iload 5, 5, 0, 0, []), (161, 2, .istore 5, 5, 0, 0, []), (163, 2, .iload 9, 9, 0, 0, []), (165, 2, .iload 6, 6, 0, 0, []), (167, 3, .if_icmp .ge 8, 175, 0, 0, []), (170, 2, .iload 9, 9, 0, 0, []), (172, 3, .goto 5, 177, 0, 0, []), (175, 2, .iload 6, 6, 0, 0, []), (177, 2, .istore 6, 6, 0, 0, []), (179, 3, .iinc 7 1, 7, 1, 0, []), (182, 3, .goto (-126), 56, 0, 0, []), (185, 1, .aload_n 0, 0, 0, 0, []), (186, 2, .iload 6, 6, 0, 0, []), (188, 3, .putfield 82, 8, 0, 0, []), (191, 2, .iload 5, 5, 0, 0, []), (193, 1, .ireturn, 0, 0, 0, [])]
def pX11_next : List xE := pX11_next_0 ++ (pX11_next_1)
def mX11_next : xM := (yX11_next, cX11_next, 10, (some FieldType.int), 0, 2, 8, 5, 116, 0, pX11_next)
theorem dX11_next : xDec cX11_next pX11_next = true := by decide +kernel
theorem hX11_next : xHd mX11_next := ⟨xg (w := (Jvm.Cond.code ({ cls := "SmellBurdensModel", name := "next", desc := "(II)I" } : Jvm.MethodName) prog_13_method_86_code (10 : Nat) (Option.some Jvm.ClassFile.FieldType.int))) (xt6 (List.mem_of_getElem? (i := 132) (by decide +kernel))) rfl, xg (w := (Jvm.Cond.initialized "SmellBurdensModel")) (xt1 (List.mem_of_getElem? (i := 10) (by decide +kernel))) rfl, ⟨by decide +kernel, by decide +kernel, by decide +kernel⟩, xg (w := (Jvm.Cond.instanceMethod ({ cls := "SmellBurdensModel", name := "next", desc := "(II)I" } : Jvm.MethodName))) (xt6 (List.mem_of_getElem? (i := 130) (by decide +kernel))) rfl, xg (w := (Jvm.Cond.selects "SmellBurdensModel" ({ cls := "SmellBurdensModel", name := "next", desc := "(II)I" } : Jvm.MethodName) ({ cls := "SmellBurdensModel", name := "next", desc := "(II)I" } : Jvm.MethodName))) (xt6 (List.mem_of_getElem? (i := 131) (by decide +kernel))) rfl, rfl⟩
def pX11_turns : List xE := [(0, 1, .iconst 0, 0, 0, 0, []), (1, 1, .istore_n 2, 2, 0, 0, []), (2, 1, .iload_n 2, 2, 0, 0, []), (3, 2, .bipush 16, 16, 0, 0, []), (5, 3, .if_icmp .ge 79, 84, 0, 0, []), (8, 1, .aload_n 0, 0, 0, 0, []), (9, 3, .getfield 68, 8, 30, 0, []), (12, 1, .iload_n 2, 2, 0, 0, []), (13, 1, .iaload, 0, 0, 0, []), (14, 1, .istore_n 3, 3, 0, 0, []), (15, 1, .iconst 0, 0, 0, 0, []), (16, 2, .istore 4, 4, 0, 0, []), (18, 2, .iload 4, 4, 0, 0, []), (20, 1, .iconst 4, 4, 0, 0, []), (21, 3, .if_icmp .ge 50, 71, 0, 0, []), (24, 1, .aload_n 0, 0, 0, 0, []), (25, 3, .getfield 68, 8, 30, 0, []), (28, 1, .iload_n 2, 2, 0, 0, []), (29, 1, .iconst 1, 1, 0, 0, []), (30, 2, .iload 4, 4, 0, 0, []), (32, 1, .ishl, 0, 0, 0, []), (33, 1, .ixor, 0, 0, 0, []), (34, 1, .iaload, 0, 0, 0, []), (35, 2, .istore 5, 5, 0, 0, []), (37, 1, .iload_n 1, 1, 0, 0, []), (38, 2, .iload 5, 5, 0, 0, []), (40, 1, .iload_n 3, 3, 0, 0, []), (41, 3, .if_icmp .le 7, 48, 0, 0, []), (44, 1, .iconst 1, 1, 0, 0, []), (45, 3, .goto 4, 49, 0, 0, []), (48, 1, .iconst 0, 0, 0, 0, []), (49, 3, .if_icmp .ne 14, 63, 0, 0, []), (52, 2, .iload 5, 5, 0, 0, []), (54, 1, .iload_n 3, 3, 0, 0, []), (55, 3, .if_icmp .eq 8, 63, 0, 0, []), (58, 2, .iload 5, 5, 0, 0, []), (60, 3, .goto 4, 64, 0, 0, []), (63, 1, .iload_n 3, 3, 0, 0, []), (64, 1, .istore_n 3, 3, 0, 0, []), (65, 3, .iinc 4 1, 4, 1, 0, []), (68, 3, .goto (-50), 18, 0, 0, []), (71, 1, .aload_n 0, 0, 0, 0, []), (72, 3, .getfield 71, 8, 31, 0, []), (75, 1, .iload_n 2, 2, 0, 0, []), (76, 1, .iload_n 3, 3, 0, 0, []), (77, 1, .iastore, 0, 0, 0, []), (78, 3, .iinc 2 1, 2, 1, 0, []), (81, 3, .goto (-79), 2, 0, 0, []), (84, 1, .iconst 0, 0, 0, 0, []), (85, 1, .istore_n 2, 2, 0, 0, []), (86, 1, .iload_n 2, 2, 0, 0, []), (87, 2, .bipush 16, 16, 0, 0, []), (89, 3, .if_icmp .ge 21, 110, 0, 0, []), (92, 1, .aload_n 0, 0, 0, 0, []), (93, 3, .getfield 68, 8, 30, 0, []), (96, 1, .iload_n 2, 2, 0, 0, []), (97, 1, .aload_n 0, 0, 0, 0, []), (98, 3, .getfield 71, 8, 31, 0, []), (101, 1, .iload_n 2, 2, 0, 0, []), (102, 1, .iaload, 0, 0, 0, []), (103, 1, .iastore, 0, 0, 0, []), (104, 3, .iinc 2 1, 2, 1, 0, []), (107, 3, .goto (-21), 86, 0, 0, []), (110, 1, .return_, 0, 0, 0, [])]
def mX11_turns : xM := (yX11_turns, cX11_turns, 6, (none : Option FieldType), 0, 1, 8, 0, 0, 0, pX11_turns)
theorem dX11_turns : xDec cX11_turns pX11_turns = true := by decide +kernel
theorem hX11_turns : xHd mX11_turns := ⟨xg (w := (Jvm.Cond.code ({ cls := "SmellBurdensModel", name := "turns", desc := "(Z)V" } : Jvm.MethodName) prog_13_method_87_code (6 : Nat) (Option.none : Option Jvm.ClassFile.FieldType))) (xt6 (List.mem_of_getElem? (i := 140) (by decide +kernel))) rfl, xg (w := (Jvm.Cond.initialized "SmellBurdensModel")) (xt1 (List.mem_of_getElem? (i := 10) (by decide +kernel))) rfl, ⟨by decide +kernel, by decide +kernel, by decide +kernel⟩, xg (w := (Jvm.Cond.instanceMethod ({ cls := "SmellBurdensModel", name := "turns", desc := "(Z)V" } : Jvm.MethodName))) (xt6 (List.mem_of_getElem? (i := 139) (by decide +kernel))) rfl, xg (w := (Jvm.Cond.selects "SmellBurdensModel" ({ cls := "SmellBurdensModel", name := "turns", desc := "(Z)V" } : Jvm.MethodName) ({ cls := "SmellBurdensModel", name := "turns", desc := "(Z)V" } : Jvm.MethodName))) (xsl (List.mem_of_getElem? (i := 64) (by decide +kernel))) rfl, rfl⟩
theorem wdX11_278 : (Jvm.Cond.methodLink "SmellBurdensModel" (278 : Nat) ({ cls := "SmellBurdensModel", name := "turns", desc := "(Z)V" } : Jvm.MethodName)) ∈ xG := xg (xt6 (List.mem_of_getElem? (i := 137) (by decide +kernel))) rfl
def pX11_duel : List xE := [(0, 1, .aload_n 0, 0, 0, 0, []), (1, 1, .iload_n 1, 1, 0, 0, []), (2, 3, .invokevirtual 211, 0, 0, 0, []), (5, 3, .ifCond .eq 15, 20, 0, 0, []), (8, 1, .iload_n 2, 2, 0, 0, []), (9, 1, .i2l, 0, 0, 0, []), (10, 1, .lconst 0, 0, 0, 0, []), (11, 3, .ldc2_w 231, 2, 0, 0, []), (14, 3, .invokestatic 90, 1, 0, 0, []), (17, 3, .ifCond .ne 5, 22, 0, 0, []), (20, 1, .iconst (-1), 1, 0, 0, []), (21, 1, .ireturn, 0, 0, 0, []), (22, 1, .iconst 0, 0, 0, 0, []), (23, 1, .istore_n 3, 3, 0, 0, []), (24, 1, .iload_n 3, 3, 0, 0, []), (25, 2, .bipush 16, 16, 0, 0, []), (27, 3, .if_icmp .ge 23, 50, 0, 0, []), (30, 1, .aload_n 0, 0, 0, 0, []), (31, 3, .getfield 68, 8, 30, 0, []), (34, 1, .iload_n 3, 3, 0, 0, []), (35, 1, .aload_n 0, 0, 0, 0, []), (36, 1, .iload_n 3, 3, 0, 0, []), (37, 3, .invokevirtual 240, 2, 0, 0, []), (40, 3, .invokestatic 126, 3, 0, 0, []), (43, 1, .iastore, 0, 0, 0, []), (44, 3, .iinc 3 1, 3, 1, 0, []), (47, 3, .goto (-23), 24, 0, 0, []), (50, 1, .iconst 0, 0, 0, 0, []), (51, 1, .istore_n 3, 3, 0, 0, []), (52, 1, .iload_n 3, 3, 0, 0, []), (53, 1, .iload_n 2, 2, 0, 0, []), (54, 3, .if_icmp .ge 19, 73, 0, 0, []), (57, 1, .aload_n 0, 0, 0, 0, []), (58, 1, .iconst 0, 0, 0, 0, []), (59, 3, .invokevirtual 278, 4, 0, 0, []), (62, 1, .aload_n 0, 0, 0, 0, []), (63, 1, .iconst 1, 1, 0, 0, []), (64, 3, .invokevirtual 278, 4, 0, 0, []), (67, 3, .iinc 3 1, 3, 1, 0, []), (70, 3, .goto (-18), 52, 0, 0, []), (73, 1, .aload_n 0, 0, 0, 0, []), (74, 3, .getfield 68, 8, 30, 0, []), (77, 1, .aload_n 0, 0, 0, 0, []), (78, 3, .getfield 37, 8, 15, 0, []), (81, 2, .bipush 9, 9, 0, 0, []), (83, 1, .iload_n 1, 1, 0, 0, []), (84, 1, .iadd, 0, 0, 0, []), (85, 1, .iaload, 0, 0, 0, []), (86, 1, .iaload, 0, 0, 0, []), (87, 1, .ireturn, 0, 0, 0, [])]
def mX11_duel : xM := (yX11_duel, cX11_duel, 4, (some FieldType.int), 0, 2, 8, 4, 90, 0, pX11_duel)
theorem dX11_duel : xDec cX11_duel pX11_duel = true := by decide +kernel
theorem hX11_duel : xHd mX11_duel := ⟨xg (w := (Jvm.Cond.code ({ cls := "SmellBurdensModel", name := "duel", desc := "(II)I" } : Jvm.MethodName) prog_13_method_88_code (4 : Nat) (Option.some Jvm.ClassFile.FieldType.int))) (xt6 (List.mem_of_getElem? (i := 136) (by decide +kernel))) rfl, xg (w := (Jvm.Cond.initialized "SmellBurdensModel")) (xt1 (List.mem_of_getElem? (i := 10) (by decide +kernel))) rfl, ⟨by decide +kernel, by decide +kernel, by decide +kernel⟩, xg (w := (Jvm.Cond.instanceMethod ({ cls := "SmellBurdensModel", name := "duel", desc := "(II)I" } : Jvm.MethodName))) (xt6 (List.mem_of_getElem? (i := 134) (by decide +kernel))) rfl, xg (w := (Jvm.Cond.selects "SmellBurdensModel" ({ cls := "SmellBurdensModel", name := "duel", desc := "(II)I" } : Jvm.MethodName) ({ cls := "SmellBurdensModel", name := "duel", desc := "(II)I" } : Jvm.MethodName))) (xt6 (List.mem_of_getElem? (i := 135) (by decide +kernel))) rfl, rfl⟩
def pX11_fraction : List xE := [(0, 1, .lload_n 1, 1, 0, 0, []), (1, 2, .lstore 5, 5, 0, 0, []), (3, 1, .lload_n 3, 3, 0, 0, []), (4, 2, .lstore 7, 7, 0, 0, []), (6, 2, .lload 7, 7, 0, 0, []), (8, 1, .lconst 0, 0, 0, 0, []), (9, 1, .lcmp, 0, 0, 0, []), (10, 3, .ifCond .eq 21, 31, 0, 0, []), (13, 2, .lload 5, 5, 0, 0, []), (15, 2, .lload 7, 7, 0, 0, []), (17, 1, .lrem, 0, 0, 0, []), (18, 2, .lstore 9, 9, 0, 0, []), (20, 2, .lload 7, 7, 0, 0, []), (22, 2, .lstore 5, 5, 0, 0, []), (24, 2, .lload 9, 9, 0, 0, []), (26, 2, .lstore 7, 7, 0, 0, []), (28, 3, .goto (-22), 6, 0, 0, []), (31, 1, .aload_n 0, 0, 0, 0, []), (32, 1, .lload_n 1, 1, 0, 0, []), (33, 2, .lload 5, 5, 0, 0, []), (35, 1, .ldiv, 0, 0, 0, []), (36, 3, .putfield 85, 8, 1, 0, []), (39, 1, .aload_n 0, 0, 0, 0, []), (40, 1, .lload_n 3, 3, 0, 0, []), (41, 2, .lload 5, 5, 0, 0, []), (43, 1, .ldiv, 0, 0, 0, []), (44, 3, .putfield 74, 8, 2, 0, []), (47, 1, .return_, 0, 0, 0, [])]
def mX11_fraction : xM := (yX11_fraction, cX11_fraction, 11, (none : Option FieldType), 0, 2, 8, 0, 0, 0, pX11_fraction)
theorem dX11_fraction : xDec cX11_fraction pX11_fraction = true := by decide +kernel
theorem hX11_fraction : xHd mX11_fraction := ⟨xg (w := (Jvm.Cond.code ({ cls := "SmellBurdensModel", name := "fraction", desc := "(JJ)V" } : Jvm.MethodName) prog_13_method_89_code (11 : Nat) (Option.none : Option Jvm.ClassFile.FieldType))) (xt6 (List.mem_of_getElem? (i := 157) (by decide +kernel))) rfl, xg (w := (Jvm.Cond.initialized "SmellBurdensModel")) (xt1 (List.mem_of_getElem? (i := 10) (by decide +kernel))) rfl, ⟨by decide +kernel, by decide +kernel, by decide +kernel⟩, xg (w := (Jvm.Cond.instanceMethod ({ cls := "SmellBurdensModel", name := "fraction", desc := "(JJ)V" } : Jvm.MethodName))) (xt6 (List.mem_of_getElem? (i := 156) (by decide +kernel))) rfl, xg (w := (Jvm.Cond.selects "SmellBurdensModel" ({ cls := "SmellBurdensModel", name := "fraction", desc := "(JJ)V" } : Jvm.MethodName) ({ cls := "SmellBurdensModel", name := "fraction", desc := "(JJ)V" } : Jvm.MethodName))) (xsl (List.mem_of_getElem? (i := 67) (by decide +kernel))) rfl, rfl⟩
def pX11_part : List xE := [(0, 1, .lconst 1, 1, 0, 0, []), (1, 1, .lstore_n 3, 3, 0, 0, []), (2, 1, .iconst 0, 0, 0, 0, []), (3, 2, .istore 5, 5, 0, 0, []), (5, 2, .iload 5, 5, 0, 0, []), (7, 1, .aload_n 0, 0, 0, 0, []), (8, 3, .getfield 118, 8, 10, 0, []), (11, 3, .if_icmp .ge 32, 43, 0, 0, []), (14, 1, .lload_n 3, 3, 0, 0, []), (15, 1, .iload_n 1, 1, 0, 0, []), (16, 2, .iload 5, 5, 0, 0, []), (18, 1, .ishr, 0, 0, 0, []), (19, 1, .iconst 1, 1, 0, 0, []), (20, 1, .iand, 0, 0, 0, []), (21, 1, .iconst 1, 1, 0, 0, []), (22, 3, .if_icmp .ne 8, 30, 0, 0, []), (25, 1, .iload_n 2, 2, 0, 0, []), (26, 1, .i2l, 0, 0, 0, []), (27, 3, .goto 8, 35, 0, 0, []), (30, 2, .bipush 12, 12, 0, 0, []), (32, 1, .iload_n 2, 2, 0, 0, []), (33, 1, .isub, 0, 0, 0, []), (34, 1, .i2l, 0, 0, 0, []), (35, 1, .lmul, 0, 0, 0, []), (36, 1, .lstore_n 3, 3, 0, 0, []), (37, 3, .iinc 5 1, 5, 1, 0, []), (40, 3, .goto (-35), 5, 0, 0, []), (43, 1, .lload_n 3, 3, 0, 0, []), (44, 1, .lreturn, 0, 0, 0, [])]
def mX11_part : xM := (yX11_part, cX11_part, 6, (some FieldType.long), 0, 2, 8, 0, 0, 0, pX11_part)
theorem dX11_part : xDec cX11_part pX11_part = true := by decide +kernel
theorem hX11_part : xHd mX11_part := ⟨xg (w := (Jvm.Cond.code ({ cls := "SmellBurdensModel", name := "part", desc := "(II)J" } : Jvm.MethodName) prog_13_method_90_code (6 : Nat) (Option.some Jvm.ClassFile.FieldType.long))) (xt6 (List.mem_of_getElem? (i := 149) (by decide +kernel))) rfl, xg (w := (Jvm.Cond.initialized "SmellBurdensModel")) (xt1 (List.mem_of_getElem? (i := 10) (by decide +kernel))) rfl, ⟨by decide +kernel, by decide +kernel, by decide +kernel⟩, xg (w := (Jvm.Cond.instanceMethod ({ cls := "SmellBurdensModel", name := "part", desc := "(II)J" } : Jvm.MethodName))) (xt6 (List.mem_of_getElem? (i := 148) (by decide +kernel))) rfl, xg (w := (Jvm.Cond.selects "SmellBurdensModel" ({ cls := "SmellBurdensModel", name := "part", desc := "(II)J" } : Jvm.MethodName) ({ cls := "SmellBurdensModel", name := "part", desc := "(II)J" } : Jvm.MethodName))) (xsl (List.mem_of_getElem? (i := 65) (by decide +kernel))) rfl, rfl⟩
theorem wdX11_282 : (Jvm.Cond.constantLong "SmellBurdensModel" (282 : Nat) (12 : Int64)) ∈ xG := xg (xt6 (List.mem_of_getElem? (i := 145) (by decide +kernel))) rfl
def pX11_allParts : List xE := [(0, 1, .lconst 1, 1, 0, 0, []), (1, 1, .lstore_n 1, 1, 0, 0, []), (2, 1, .iconst 0, 0, 0, 0, []), (3, 1, .istore_n 3, 3, 0, 0, []), (4, 1, .iload_n 3, 3, 0, 0, []), (5, 1, .aload_n 0, 0, 0, 0, []), (6, 3, .getfield 118, 8, 10, 0, []), (9, 3, .if_icmp .ge 15, 24, 0, 0, []), (12, 1, .lload_n 1, 1, 0, 0, []), (13, 3, .ldc2_w 282, 12, 0, 0, []), (16, 1, .lmul, 0, 0, 0, []), (17, 1, .lstore_n 1, 1, 0, 0, []), (18, 3, .iinc 3 1, 3, 1, 0, []), (21, 3, .goto (-17), 4, 0, 0, []), (24, 1, .lload_n 1, 1, 0, 0, []), (25, 1, .lreturn, 0, 0, 0, [])]
def mX11_allParts : xM := (yX11_allParts, cX11_allParts, 4, (some FieldType.long), 0, 0, 8, 0, 0, 0, pX11_allParts)
theorem dX11_allParts : xDec cX11_allParts pX11_allParts = true := by decide +kernel
theorem hX11_allParts : xHd mX11_allParts := ⟨xg (w := (Jvm.Cond.code ({ cls := "SmellBurdensModel", name := "allParts", desc := "()J" } : Jvm.MethodName) prog_13_method_91_code (4 : Nat) (Option.some Jvm.ClassFile.FieldType.long))) (xt6 (List.mem_of_getElem? (i := 153) (by decide +kernel))) rfl, xg (w := (Jvm.Cond.initialized "SmellBurdensModel")) (xt1 (List.mem_of_getElem? (i := 10) (by decide +kernel))) rfl, ⟨by decide +kernel, by decide +kernel, by decide +kernel⟩, xg (w := (Jvm.Cond.instanceMethod ({ cls := "SmellBurdensModel", name := "allParts", desc := "()J" } : Jvm.MethodName))) (xt6 (List.mem_of_getElem? (i := 152) (by decide +kernel))) rfl, xg (w := (Jvm.Cond.selects "SmellBurdensModel" ({ cls := "SmellBurdensModel", name := "allParts", desc := "()J" } : Jvm.MethodName) ({ cls := "SmellBurdensModel", name := "allParts", desc := "()J" } : Jvm.MethodName))) (xsl (List.mem_of_getElem? (i := 66) (by decide +kernel))) rfl, rfl⟩
theorem wdX11_284 : (Jvm.Cond.methodLink "SmellBurdensModel" (284 : Nat) ({ cls := "SmellBurdensModel", name := "part", desc := "(II)J" } : Jvm.MethodName)) ∈ xG := xg (xt6 (List.mem_of_getElem? (i := 146) (by decide +kernel))) rfl
theorem wdX11_288 : (Jvm.Cond.methodLink "SmellBurdensModel" (288 : Nat) ({ cls := "SmellBurdensModel", name := "allParts", desc := "()J" } : Jvm.MethodName)) ∈ xG := xg (xt6 (List.mem_of_getElem? (i := 150) (by decide +kernel))) rfl
theorem wdX11_291 : (Jvm.Cond.methodLink "SmellBurdensModel" (291 : Nat) ({ cls := "SmellBurdensModel", name := "fraction", desc := "(JJ)V" } : Jvm.MethodName)) ∈ xG := xg (xt6 (List.mem_of_getElem? (i := 154) (by decide +kernel))) rfl
def pX11_odds : List xE := [(0, 1, .aload_n 0, 0, 0, 0, []), (1, 1, .iload_n 1, 1, 0, 0, []), (2, 3, .invokevirtual 211, 0, 0, 0, []), (5, 3, .ifCond .eq 15, 20, 0, 0, []), (8, 1, .iload_n 2, 2, 0, 0, []), (9, 1, .i2l, 0, 0, 0, []), (10, 1, .lconst 0, 0, 0, 0, []), (11, 3, .ldc2_w 282, 12, 0, 0, []), (14, 3, .invokestatic 90, 1, 0, 0, []), (17, 3, .ifCond .ne 5, 22, 0, 0, []), (20, 1, .iconst (-1), 1, 0, 0, []), (21, 1, .ireturn, 0, 0, 0, []), (22, 1, .lconst 0, 0, 0, 0, []), (23, 1, .lstore_n 3, 3, 0, 0, []), (24, 1, .iconst 0, 0, 0, 0, []), (25, 2, .istore 5, 5, 0, 0, []), (27, 2, .iload 5, 5, 0, 0, []), (29, 1, .iconst 1, 1, 0, 0, []), (30, 1, .aload_n 0, 0, 0, 0, []), (31, 3, .getfield 118, 8, 10, 0, []), (34, 1, .ishl, 0, 0, 0, []), (35, 3, .if_icmp .ge 31, 66, 0, 0, []), (38, 1, .lload_n 3, 3, 0, 0, []), (39, 1, .aload_n 0, 0, 0, 0, []), (40, 2, .iload 5, 5, 0, 0, []), (42, 3, .invokevirtual 149, 2, 0, 0, []), (45, 1, .iload_n 1, 1, 0, 0, []), (46, 1, .ishr, 0, 0, 0, []), (47, 1, .iconst 1, 1, 0, 0, []), (48, 1, .iand, 0, 0, 0, []), (49, 1, .i2l, 0, 0, 0, []), (50, 1, .aload_n 0, 0, 0, 0, []), (51, 2, .iload 5, 5, 0, 0, []), (53, 1, .iload_n 2, 2, 0, 0, []), (54, 3, .invokevirtual 284, 3, 0, 0, []), (57, 1, .lmul, 0, 0, 0, []), (58, 1, .ladd, 0, 0, 0, []), (59, 1, .lstore_n 3, 3, 0, 0, []), (60, 3, .iinc 5 1, 5, 1, 0, []), (63, 3, .goto (-36), 27, 0, 0, []), (66, 1, .aload_n 0, 0, 0, 0, []), (67, 1, .lload_n 3, 3, 0, 0, []), (68, 1, .aload_n 0, 0, 0, 0, []), (69, 3, .invokevirtual 288, 4, 0, 0, []), (72, 3, .invokevirtual 291, 5, 0, 0, []), (75, 1, .iconst 1, 1, 0, 0, []), (76, 1, .ireturn, 0, 0, 0, [])]
def mX11_odds : xM := (yX11_odds, cX11_odds, 6, (some FieldType.int), 0, 2, 8, 6, 137, 0, pX11_odds)
theorem dX11_odds : xDec cX11_odds pX11_odds = true := by decide +kernel
theorem hX11_odds : xHd mX11_odds := ⟨xg (w := (Jvm.Cond.code ({ cls := "SmellBurdensModel", name := "odds", desc := "(II)I" } : Jvm.MethodName) prog_13_method_92_code (6 : Nat) (Option.some Jvm.ClassFile.FieldType.int))) (xt6 (List.mem_of_getElem? (i := 144) (by decide +kernel))) rfl, xg (w := (Jvm.Cond.initialized "SmellBurdensModel")) (xt1 (List.mem_of_getElem? (i := 10) (by decide +kernel))) rfl, ⟨by decide +kernel, by decide +kernel, by decide +kernel⟩, xg (w := (Jvm.Cond.instanceMethod ({ cls := "SmellBurdensModel", name := "odds", desc := "(II)I" } : Jvm.MethodName))) (xt6 (List.mem_of_getElem? (i := 142) (by decide +kernel))) rfl, xg (w := (Jvm.Cond.selects "SmellBurdensModel" ({ cls := "SmellBurdensModel", name := "odds", desc := "(II)I" } : Jvm.MethodName) ({ cls := "SmellBurdensModel", name := "odds", desc := "(II)I" } : Jvm.MethodName))) (xt6 (List.mem_of_getElem? (i := 143) (by decide +kernel))) rfl, rfl⟩
def pX11_mid : List xE := [(0, 1, .iload_n 1, 1, 0, 0, []), (1, 1, .i2l, 0, 0, 0, []), (2, 1, .lconst 0, 0, 0, 0, []), (3, 3, .ldc2_w 282, 12, 0, 0, []), (6, 3, .invokestatic 90, 0, 0, 0, []), (9, 3, .ifCond .ne 5, 14, 0, 0, []), (12, 1, .iconst (-1), 1, 0, 0, []), (13, 1, .ireturn, 0, 0, 0, []), (14, 1, .aload_n 0, 0, 0, 0, []), (15, 3, .getfield 118, 8, 10, 0, []), (18, 3, .ifCond .ne 6, 24, 0, 0, []), (21, 2, .bipush (-4), 4, 0, 0, []), (23, 1, .ireturn, 0, 0, 0, []), (24, 1, .aload_n 0, 0, 0, 0, []), (25, 3, .invokevirtual 245, 1, 0, 0, []), (28, 1, .lconst 0, 0, 0, 0, []), (29, 1, .lstore_n 2, 2, 0, 0, []), (30, 1, .iconst 0, 0, 0, 0, []), (31, 2, .istore 4, 4, 0, 0, []), (33, 2, .iload 4, 4, 0, 0, []), (35, 1, .iconst 1, 1, 0, 0, []), (36, 1, .aload_n 0, 0, 0, 0, []), (37, 3, .getfield 118, 8, 10, 0, []), (40, 1, .ishl, 0, 0, 0, []), (41, 3, .if_icmp .ge 43, 84, 0, 0, []), (44, 1, .aload_n 0, 0, 0, 0, []), (45, 2, .iload 4, 4, 0, 0, []), (47, 3, .invokevirtual 149, 2, 0, 0, []), (50, 1, .pop, 0, 0, 0, []), (51, 1, .aload_n 0, 0, 0, 0, []), (52, 3, .invokevirtual 152, 3, 0, 0, []), (55, 1, .lload_n 2, 2, 0, 0, []), (56, 1, .aload_n 0, 0, 0, 0, []), (57, 3, .invokevirtual 251, 4, 0, 0, []), (60, 3, .invokestatic 126, 5, 0, 0, []), (63, 1, .i2l, 0, 0, 0, []), (64, 1, .aload_n 0, 0, 0, 0, []), (65, 2, .iload 4, 4, 0, 0, []), (67, 1, .iload_n 1, 1, 0, 0, []), (68, 3, .invokevirtual 284, 6, 0, 0, []), (71, 1, .lmul, 0, 0, 0, []), (72, 1, .ladd, 0, 0, 0, []), (73, 1, .lstore_n 2, 2, 0, 0, []), (74, 1, .aload_n 0, 0, 0, 0, []), (75, 3, .invokevirtual 248, 7, 0, 0, []), (78, 3, .iinc 4 1, 4, 1, 0, []), (81, 3, .goto (-48), 33, 0, 0, []), (84, 1, .aload_n 0, 0, 0, 0, []), (85, 1, .lload_n 2, 2, 0, 0, []), (86, 1, .aload_n 0, 0, 0, 0, []), (87, 3, .invokevirtual 288, 8, 0, 0, []), (90, 3, .invokevirtual 291, 9, 0, 0, []), (93, 1, .iconst 1, 1, 0, 0, []), (94, 1, .ireturn, 0, 0, 0, [])]
def mX11_mid : xM := (yX11_mid, cX11_mid, 5, (some FieldType.int), 0, 1, 8, 6, 137, 0, pX11_mid)
theorem dX11_mid : xDec cX11_mid pX11_mid = true := by decide +kernel
theorem hX11_mid : xHd mX11_mid := ⟨xg (w := (Jvm.Cond.code ({ cls := "SmellBurdensModel", name := "mid", desc := "(I)I" } : Jvm.MethodName) prog_13_method_93_code (5 : Nat) (Option.some Jvm.ClassFile.FieldType.int))) (xt6 (List.mem_of_getElem? (i := 161) (by decide +kernel))) rfl, xg (w := (Jvm.Cond.initialized "SmellBurdensModel")) (xt1 (List.mem_of_getElem? (i := 10) (by decide +kernel))) rfl, ⟨by decide +kernel, by decide +kernel, by decide +kernel⟩, xg (w := (Jvm.Cond.instanceMethod ({ cls := "SmellBurdensModel", name := "mid", desc := "(I)I" } : Jvm.MethodName))) (xt6 (List.mem_of_getElem? (i := 159) (by decide +kernel))) rfl, xg (w := (Jvm.Cond.selects "SmellBurdensModel" ({ cls := "SmellBurdensModel", name := "mid", desc := "(I)I" } : Jvm.MethodName) ({ cls := "SmellBurdensModel", name := "mid", desc := "(I)I" } : Jvm.MethodName))) (xt6 (List.mem_of_getElem? (i := 160) (by decide +kernel))) rfl, rfl⟩
theorem wdX11_295 : (Jvm.Cond.constantLong "SmellBurdensModel" (295 : Nat) (2147483646 : Int64)) ∈ xG := xg (xt6 (List.mem_of_getElem? (i := 166) (by decide +kernel))) rfl
theorem wdX11_297 : (Jvm.Cond.constantLong "SmellBurdensModel" (297 : Nat) (48271 : Int64)) ∈ xG := xg (xt6 (List.mem_of_getElem? (i := 167) (by decide +kernel))) rfl
theorem wdX11_299 : (Jvm.Cond.constantLong "SmellBurdensModel" (299 : Nat) (2147483647 : Int64)) ∈ xG := xg (xt6 (List.mem_of_getElem? (i := 168) (by decide +kernel))) rfl
theorem wdX11_301 : (Jvm.Cond.constantLong "SmellBurdensModel" (301 : Nat) (8 : Int64)) ∈ xG := xg (xt6 (List.mem_of_getElem? (i := 169) (by decide +kernel))) rfl
theorem wdX11_303 : (Jvm.Cond.constantLong "SmellBurdensModel" (303 : Nat) (64 : Int64)) ∈ xG := xg (xt6 (List.mem_of_getElem? (i := 170) (by decide +kernel))) rfl
def pX11_lots_0 : List xE := [(0, 1, .iload_n 1, 1, 0, 0, []), (1, 1, .i2l, 0, 0, 0, []), (2, 1, .lconst 1, 1, 0, 0, []), (3, 3, .ldc2_w 258, 20, 0, 0, []), (6, 3, .invokestatic 90, 0, 0, 0, []), (9, 3, .ifCond .eq 15, 24, 0, 0, []), (12, 1, .iload_n 2, 2, 0, 0, []), (13, 1, .i2l, 0, 0, 0, []), (14, 1, .lconst 1, 1, 0, 0, []), (15, 3, .ldc2_w 295, 2147483646, 0, 0, []), (18, 3, .invokestatic 90, 0, 0, 0, []), (21, 3, .ifCond .ne 5, 26, 0, 0, []), (24, 1, .iconst (-1), 1, 0, 0, []), (25, 1, .ireturn, 0, 0, 0, []), (26, 1, .aload_n 0, 0, 0, 0, []), (27, 3, .getfield 118, 8, 10, 0, []), (30, 3, .ifCond .ne 6, 36, 0, 0, []), (33, 2, .bipush (-4), 4, 0, 0, []), (35, 1, .ireturn, 0, 0, 0, []), (36, 1, .aload_n 0, 0, 0, 0, []), (37, 3, .getfield 199, 8, 22, 0, []), (40, 1, .iload_n 1, 1, 0, 0, []), (41, 1, .iadd, 0, 0, 0, []), (42, 2, .bipush 40, 40, 0, 0, []), (44, 3, .if_icmp .le 6, 50, 0, 0, []), (47, 2, .bipush (-2), 2, 0, 0, []), (49, 1, .ireturn, 0, 0, 0, []), (50, 1, .iload_n 2, 2, 0, 0, []), (51, 1, .i2l, 0, 0, 0, []), (52, 1, .lstore_n 3, 3, 0, 0, []), (53, 1, .iconst 0, 0, 0, 0, []), (54, 2, .istore 5, 5, 0, 0, []), (56, 2, .iload 5, 5, 0, 0, []), (58, 1, .iload_n 1, 1, 0, 0, []), (59, 3, .if_icmp .ge 113, 172, 0, 0, []), (62, 1, .lload_n 3, 3, 0, 0, []), (63, 3, .ldc2_w 297, 48271, 0, 0, []), (66, 1, .lmul, 0, 0, 0, []), (67, 3, .ldc2_w 299, 2147483647, 0, 0, []), (70, 1, .lrem, 0, 0, 0, []), (71, 1, .lstore_n 3, 3, 0, 0, []), (72, 1, .lload_n 3, 3, 0, 0, []), (73, 3, .ldc2_w 301, 8, 0, 0, []), (76, 1, .ldiv, 0, 0, 0, []), (77, 3, .ldc2_w 214, 4, 0, 0, []), (80, 1, .lrem, 0, 0, 0, []), (81, 1, .l2i, 0, 0, 0, []), (82, 2, .istore 6, 6, 0, 0, []), (84, 1, .aload_n 0, 0, 0, 0, []), (85, 3, .invokevirtual 225, 1, 0, 0, []), (88, 2, .iload 6, 6, 0, 0, []), (90, 3, .ifCond .ne 37, 127, 0, 0, []), (93, 1, .aload_n 0, 0, 0, 0, []), (94, 3, .getfield 37, 8, 15, 0, []), (97, 2, .bipush 9, 9, 0, 0, []), (99, 1, .lload_n 3, 3, 0, 0, []), (100, 1, .aload_n 0, 0, 0, 0, []), (101, 3, .getfield 121, 8, 11, 0, []), (104, 1, .i2l, 0, 0, 0, []), (105, 1, .lrem, 0, 0, 0, []), (106, 1, .l2i, 0, 0, 0, []), (107, 1, .iadd, 0, 0, 0, []), (108, 1, .dup2, 0, 0, 0, []), (109, 1, .iaload, 0, 0, 0, []), (110, 1, .iconst 1, 1, 0, 0, []), (111, 1, .lload_n 3, 3, 0, 0, []), (112, 3, .ldc2_w 303, 64, 0, 0, []), (115, 1, .ldiv, 0, 0, 0, []), (116, 3, .ldc2_w 214, 4, 0, 0, []), (119, 1, .lrem, 0, 0, 0, []), (120, 1, .l2i, 0, 0, 0, []), (121, 1, .ishl, 0, 0, 0, []), (122, 1, .ixor, 0, 0, 0, []), (123, 1, .iastore, 0, 0, 0, []), (124, 3, .goto 42, 166, 0, 0, []), (127, 2, .iload 6, 6, 0, 0, []), (129, 1, .iconst 1, 1, 0, 0, []), (130, 3, .if_icmp .ne 31, 161, 0, 0, []), (133, 1, .aload_n 0, 0, 0, 0, []), (134, 3, .getfield 37, 8, 15, 0, [])]
def pX11_lots_1 : List xE := [(137, 1, .iconst 5, 5, 0, 0, []), (138, 1, .lload_n 3, 3, 0, 0, []), (139, 1, .aload_n 0, 0, 0, 0, []), (140, 3, .getfield 118, 8, 10, 0, []), (143, 1, .i2l, 0, 0, 0, []), (144, 1, .lrem, 0, 0, 0, []), (145, 1, .l2i, 0, 0, 0, []), (146, 1, .iadd, 0, 0, 0, []), (147, 1, .lload_n 3, 3, 0, 0, []), (148, 3, .ldc2_w 303, 64, 0, 0, []), (151, 1, .ldiv, 0, 0, 0, []), (152, 3, .ldc2_w 88, 5, 0, 0, []), (155, 1, .lrem, 0, 0, 0, []), (156, 1, .l2i, 0, 0, 0, []), (157, 1, .iastore, 0, 0, 0, []), (158, 3, .goto 8, 166, 0, 0, []), (161, 1, .aload_n 0, 0, 0, 0, []), (162, 3, .invokevirtual 228, 2, 0, 0, []), (165, 1, .pop, 0, 0, 0, []), (166, 3, .iinc 5 1, 5, 1, 0, []), (169, 3, .goto (-113), 56, 0, 0, []), (172, 1, .aload_n 0, 0, 0, 0, []), (173, 3, .invokevirtual 251, 3, 0, 0, []), (176, 3, .invokestatic 126, 4, 0, 0, []), (179, 1, .ireturn, 0, 0, 0, [])]
def pX11_lots : List xE := pX11_lots_0 ++ (pX11_lots_1)
def mX11_lots : xM := (yX11_lots, cX11_lots, 7, (some FieldType.int), 0, 2, 8, 7, 158, 0, pX11_lots)
theorem dX11_lots : xDec cX11_lots pX11_lots = true := by decide +kernel
theorem hX11_lots : xHd mX11_lots := ⟨xg (w := (Jvm.Cond.code ({ cls := "SmellBurdensModel", name := "lots", desc := "(II)I" } : Jvm.MethodName) prog_13_method_94_code (7 : Nat) (Option.some Jvm.ClassFile.FieldType.int))) (xt6 (List.mem_of_getElem? (i := 165) (by decide +kernel))) rfl, xg (w := (Jvm.Cond.initialized "SmellBurdensModel")) (xt1 (List.mem_of_getElem? (i := 10) (by decide +kernel))) rfl, ⟨by decide +kernel, by decide +kernel, by decide +kernel⟩, xg (w := (Jvm.Cond.instanceMethod ({ cls := "SmellBurdensModel", name := "lots", desc := "(II)I" } : Jvm.MethodName))) (xt6 (List.mem_of_getElem? (i := 163) (by decide +kernel))) rfl, xg (w := (Jvm.Cond.selects "SmellBurdensModel" ({ cls := "SmellBurdensModel", name := "lots", desc := "(II)I" } : Jvm.MethodName) ({ cls := "SmellBurdensModel", name := "lots", desc := "(II)I" } : Jvm.MethodName))) (xt6 (List.mem_of_getElem? (i := 164) (by decide +kernel))) rfl, rfl⟩
def pX11_sortsLike : List xE := [(0, 1, .iconst 0, 0, 0, 0, []), (1, 1, .istore_n 2, 2, 0, 0, []), (2, 1, .iconst 0, 0, 0, 0, []), (3, 1, .istore_n 3, 3, 0, 0, []), (4, 1, .iload_n 3, 3, 0, 0, []), (5, 1, .aload_n 0, 0, 0, 0, []), (6, 3, .getfield 118, 8, 10, 0, []), (9, 3, .if_icmp .ge 30, 39, 0, 0, []), (12, 1, .iload_n 2, 2, 0, 0, []), (13, 1, .aload_n 0, 0, 0, 0, []), (14, 3, .getfield 31, 8, 13, 0, []), (17, 1, .iload_n 3, 3, 0, 0, []), (18, 1, .iaload, 0, 0, 0, []), (19, 1, .iload_n 1, 1, 0, 0, []), (20, 3, .invokestatic 219, 0, 0, 0, []), (23, 3, .ifCond .eq 7, 30, 0, 0, []), (26, 1, .iconst 1, 1, 0, 0, []), (27, 3, .goto 4, 31, 0, 0, []), (30, 1, .iconst 0, 0, 0, 0, []), (31, 1, .iadd, 0, 0, 0, []), (32, 1, .istore_n 2, 2, 0, 0, []), (33, 3, .iinc 3 1, 3, 1, 0, []), (36, 3, .goto (-32), 4, 0, 0, []), (39, 1, .iload_n 2, 2, 0, 0, []), (40, 1, .ireturn, 0, 0, 0, [])]
def mX11_sortsLike : xM := (yX11_sortsLike, cX11_sortsLike, 4, (some FieldType.int), 0, 1, 8, 1, 21, 0, pX11_sortsLike)
theorem dX11_sortsLike : xDec cX11_sortsLike pX11_sortsLike = true := by decide +kernel
theorem hX11_sortsLike : xHd mX11_sortsLike := ⟨xg (w := (Jvm.Cond.code ({ cls := "SmellBurdensModel", name := "sortsLike", desc := "(I)I" } : Jvm.MethodName) prog_13_method_95_code (4 : Nat) (Option.some Jvm.ClassFile.FieldType.int))) (xt6 (List.mem_of_getElem? (i := 182) (by decide +kernel))) rfl, xg (w := (Jvm.Cond.initialized "SmellBurdensModel")) (xt1 (List.mem_of_getElem? (i := 10) (by decide +kernel))) rfl, ⟨by decide +kernel, by decide +kernel, by decide +kernel⟩, xg (w := (Jvm.Cond.instanceMethod ({ cls := "SmellBurdensModel", name := "sortsLike", desc := "(I)I" } : Jvm.MethodName))) (xt6 (List.mem_of_getElem? (i := 181) (by decide +kernel))) rfl, xg (w := (Jvm.Cond.selects "SmellBurdensModel" ({ cls := "SmellBurdensModel", name := "sortsLike", desc := "(I)I" } : Jvm.MethodName) ({ cls := "SmellBurdensModel", name := "sortsLike", desc := "(I)I" } : Jvm.MethodName))) (xsl (List.mem_of_getElem? (i := 69) (by decide +kernel))) rfl, rfl⟩
def pX11_roadsNow : List xE := [(0, 1, .iconst 0, 0, 0, 0, []), (1, 1, .istore_n 1, 1, 0, 0, []), (2, 1, .iconst 0, 0, 0, 0, []), (3, 1, .istore_n 2, 2, 0, 0, []), (4, 1, .iload_n 2, 2, 0, 0, []), (5, 1, .iconst 5, 5, 0, 0, []), (6, 3, .if_icmp .ge 21, 27, 0, 0, []), (9, 2, .bipush 10, 10, 0, 0, []), (11, 1, .iload_n 1, 1, 0, 0, []), (12, 1, .imul, 0, 0, 0, []), (13, 1, .aload_n 0, 0, 0, 0, []), (14, 3, .getfield 28, 8, 12, 0, []), (17, 1, .iload_n 2, 2, 0, 0, []), (18, 1, .iaload, 0, 0, 0, []), (19, 1, .iadd, 0, 0, 0, []), (20, 1, .istore_n 1, 1, 0, 0, []), (21, 3, .iinc 2 1, 2, 1, 0, []), (24, 3, .goto (-20), 4, 0, 0, []), (27, 1, .iload_n 1, 1, 0, 0, []), (28, 1, .ireturn, 0, 0, 0, [])]
def mX11_roadsNow : xM := (yX11_roadsNow, cX11_roadsNow, 3, (some FieldType.int), 0, 0, 8, 0, 0, 0, pX11_roadsNow)
theorem dX11_roadsNow : xDec cX11_roadsNow pX11_roadsNow = true := by decide +kernel
theorem hX11_roadsNow : xHd mX11_roadsNow := ⟨xg (w := (Jvm.Cond.code ({ cls := "SmellBurdensModel", name := "roadsNow", desc := "()I" } : Jvm.MethodName) prog_13_method_96_code (3 : Nat) (Option.some Jvm.ClassFile.FieldType.int))) (xt6 (List.mem_of_getElem? (i := 178) (by decide +kernel))) rfl, xg (w := (Jvm.Cond.initialized "SmellBurdensModel")) (xt1 (List.mem_of_getElem? (i := 10) (by decide +kernel))) rfl, ⟨by decide +kernel, by decide +kernel, by decide +kernel⟩, xg (w := (Jvm.Cond.instanceMethod ({ cls := "SmellBurdensModel", name := "roadsNow", desc := "()I" } : Jvm.MethodName))) (xt6 (List.mem_of_getElem? (i := 177) (by decide +kernel))) rfl, xg (w := (Jvm.Cond.selects "SmellBurdensModel" ({ cls := "SmellBurdensModel", name := "roadsNow", desc := "()I" } : Jvm.MethodName) ({ cls := "SmellBurdensModel", name := "roadsNow", desc := "()I" } : Jvm.MethodName))) (xsl (List.mem_of_getElem? (i := 68) (by decide +kernel))) rfl, rfl⟩
def pX11_there : List xE := [(0, 1, .iconst 0, 0, 0, 0, []), (1, 1, .istore_n 2, 2, 0, 0, []), (2, 1, .iconst 0, 0, 0, 0, []), (3, 1, .istore_n 3, 3, 0, 0, []), (4, 1, .iload_n 3, 3, 0, 0, []), (5, 2, .bipush 6, 6, 0, 0, []), (7, 3, .if_icmp .ge 32, 39, 0, 0, []), (10, 1, .iload_n 1, 1, 0, 0, []), (11, 2, .bipush 8, 8, 0, 0, []), (13, 3, .if_icmp .ne 26, 39, 0, 0, []), (16, 1, .iload_n 2, 2, 0, 0, []), (17, 1, .aload_n 0, 0, 0, 0, []), (18, 3, .getfield 13, 8, 5, 0, []), (21, 1, .iload_n 3, 3, 0, 0, []), (22, 1, .iaload, 0, 0, 0, []), (23, 3, .ifCond .ge 7, 30, 0, 0, []), (26, 1, .iconst 0, 0, 0, 0, []), (27, 3, .goto 4, 31, 0, 0, []), (30, 1, .iconst 1, 1, 0, 0, []), (31, 1, .iadd, 0, 0, 0, []), (32, 1, .istore_n 2, 2, 0, 0, []), (33, 3, .iinc 3 1, 3, 1, 0, []), (36, 3, .goto (-32), 4, 0, 0, []), (39, 1, .iconst 0, 0, 0, 0, []), (40, 1, .istore_n 3, 3, 0, 0, []), (41, 1, .iload_n 3, 3, 0, 0, []), (42, 1, .iconst 4, 4, 0, 0, []), (43, 3, .if_icmp .ge 32, 75, 0, 0, []), (46, 1, .iload_n 1, 1, 0, 0, []), (47, 2, .bipush 9, 9, 0, 0, []), (49, 3, .if_icmp .ne 26, 75, 0, 0, []), (52, 1, .iload_n 2, 2, 0, 0, []), (53, 1, .aload_n 0, 0, 0, 0, []), (54, 3, .getfield 19, 8, 7, 0, []), (57, 1, .iload_n 3, 3, 0, 0, []), (58, 1, .iaload, 0, 0, 0, []), (59, 3, .ifCond .ge 7, 66, 0, 0, []), (62, 1, .iconst 0, 0, 0, 0, []), (63, 3, .goto 4, 67, 0, 0, []), (66, 1, .iconst 1, 1, 0, 0, []), (67, 1, .iadd, 0, 0, 0, []), (68, 1, .istore_n 2, 2, 0, 0, []), (69, 3, .iinc 3 1, 3, 1, 0, []), (72, 3, .goto (-31), 41, 0, 0, []), (75, 1, .iconst 0, 0, 0, 0, []), (76, 1, .istore_n 3, 3, 0, 0, []), (77, 1, .iload_n 3, 3, 0, 0, []), (78, 1, .iconst 3, 3, 0, 0, []), (79, 3, .if_icmp .ge 32, 111, 0, 0, []), (82, 1, .iload_n 1, 1, 0, 0, []), (83, 2, .bipush 10, 10, 0, 0, []), (85, 3, .if_icmp .ne 26, 111, 0, 0, []), (88, 1, .iload_n 2, 2, 0, 0, []), (89, 1, .aload_n 0, 0, 0, 0, []), (90, 3, .getfield 49, 8, 24, 0, []), (93, 1, .iload_n 3, 3, 0, 0, []), (94, 1, .iaload, 0, 0, 0, []), (95, 3, .ifCond .ge 7, 102, 0, 0, []), (98, 1, .iconst 0, 0, 0, 0, []), (99, 3, .goto 4, 103, 0, 0, []), (102, 1, .iconst 1, 1, 0, 0, []), (103, 1, .iadd, 0, 0, 0, []), (104, 1, .istore_n 2, 2, 0, 0, []), (105, 3, .iinc 3 1, 3, 1, 0, []), (108, 3, .goto (-31), 77, 0, 0, []), (111, 1, .iload_n 2, 2, 0, 0, []), (112, 1, .ireturn, 0, 0, 0, [])]
def mX11_there : xM := (yX11_there, cX11_there, 4, (some FieldType.int), 0, 1, 8, 0, 0, 0, pX11_there)
theorem dX11_there : xDec cX11_there pX11_there = true := by decide +kernel
theorem hX11_there : xHd mX11_there := ⟨xg (w := (Jvm.Cond.code ({ cls := "SmellBurdensModel", name := "there", desc := "(I)I" } : Jvm.MethodName) prog_13_method_97_code (4 : Nat) (Option.some Jvm.ClassFile.FieldType.int))) (xt6 (List.mem_of_getElem? (i := 186) (by decide +kernel))) rfl, xg (w := (Jvm.Cond.initialized "SmellBurdensModel")) (xt1 (List.mem_of_getElem? (i := 10) (by decide +kernel))) rfl, ⟨by decide +kernel, by decide +kernel, by decide +kernel⟩, xg (w := (Jvm.Cond.instanceMethod ({ cls := "SmellBurdensModel", name := "there", desc := "(I)I" } : Jvm.MethodName))) (xt6 (List.mem_of_getElem? (i := 185) (by decide +kernel))) rfl, xg (w := (Jvm.Cond.selects "SmellBurdensModel" ({ cls := "SmellBurdensModel", name := "there", desc := "(I)I" } : Jvm.MethodName) ({ cls := "SmellBurdensModel", name := "there", desc := "(I)I" } : Jvm.MethodName))) (xsl (List.mem_of_getElem? (i := 70) (by decide +kernel))) rfl, rfl⟩
theorem wdX11_305 : (Jvm.Cond.methodLink "SmellBurdensModel" (305 : Nat) ({ cls := "SmellBurdensModel", name := "roadsNow", desc := "()I" } : Jvm.MethodName)) ∈ xG := xg (xt6 (List.mem_of_getElem? (i := 175) (by decide +kernel))) rfl
theorem wdX11_308 : (Jvm.Cond.methodLink "SmellBurdensModel" (308 : Nat) ({ cls := "SmellBurdensModel", name := "sortsLike", desc := "(I)I" } : Jvm.MethodName)) ∈ xG := xg (xt6 (List.mem_of_getElem? (i := 179) (by decide +kernel))) rfl
theorem wdX11_311 : (Jvm.Cond.methodLink "SmellBurdensModel" (311 : Nat) ({ cls := "SmellBurdensModel", name := "there", desc := "(I)I" } : Jvm.MethodName)) ∈ xG := xg (xt6 (List.mem_of_getElem? (i := 183) (by decide +kernel))) rfl
def pX11_count : List xE := [(0, 1, .iload_n 1, 1, 0, 0, []), (1, 59, .tableswitch 109 0 10 #[59, 64, 69, 76, 81, 86, 91, 97, 103, 103, 103], 110, 0, 0, [(0, 60), (1, 65), (2, 70), (3, 77), (4, 82), (5, 87), (6, 92), (7, 98), (8, 104), (9, 104), (10, 104)]), (60, 1, .aload_n 0, 0, 0, 0, []), (61, 3, .getfield 118, 8, 10, 0, []), (64, 1, .ireturn, 0, 0, 0, []), (65, 1, .aload_n 0, 0, 0, 0, []), (66, 3, .getfield 121, 8, 11, 0, []), (69, 1, .ireturn, 0, 0, 0, []), (70, 1, .aload_n 0, 0, 0, 0, []), (71, 3, .getfield 37, 8, 15, 0, []), (74, 1, .iconst 0, 0, 0, 0, []), (75, 1, .iaload, 0, 0, 0, []), (76, 1, .ireturn, 0, 0, 0, []), (77, 1, .aload_n 0, 0, 0, 0, []), (78, 3, .getfield 199, 8, 22, 0, []), (81, 1, .ireturn, 0, 0, 0, []), (82, 1, .aload_n 0, 0, 0, 0, []), (83, 3, .invokevirtual 251, 0, 0, 0, []), (86, 1, .ireturn, 0, 0, 0, []), (87, 1, .aload_n 0, 0, 0, 0, []), (88, 3, .invokevirtual 305, 1, 0, 0, []), (91, 1, .ireturn, 0, 0, 0, []), (92, 1, .aload_n 0, 0, 0, 0, []), (93, 1, .iconst 1, 1, 0, 0, []), (94, 3, .invokevirtual 308, 2, 0, 0, []), (97, 1, .ireturn, 0, 0, 0, []), (98, 1, .aload_n 0, 0, 0, 0, []), (99, 1, .iconst 3, 3, 0, 0, []), (100, 3, .invokevirtual 308, 2, 0, 0, []), (103, 1, .ireturn, 0, 0, 0, []), (104, 1, .aload_n 0, 0, 0, 0, []), (105, 1, .iload_n 1, 1, 0, 0, []), (106, 3, .invokevirtual 311, 3, 0, 0, []), (109, 1, .ireturn, 0, 0, 0, []), (110, 1, .iconst (-1), 1, 0, 0, []), (111, 1, .ireturn, 0, 0, 0, [])]
def mX11_count : xM := (yX11_count, cX11_count, 2, (some FieldType.int), 0, 1, 8, 2, 44, 0, pX11_count)
theorem dX11_count : xDec cX11_count pX11_count = true := by decide +kernel
theorem hX11_count : xHd mX11_count := ⟨xg (w := (Jvm.Cond.code ({ cls := "SmellBurdensModel", name := "count", desc := "(I)I" } : Jvm.MethodName) prog_13_method_98_code (2 : Nat) (Option.some Jvm.ClassFile.FieldType.int))) (xt6 (List.mem_of_getElem? (i := 174) (by decide +kernel))) rfl, xg (w := (Jvm.Cond.initialized "SmellBurdensModel")) (xt1 (List.mem_of_getElem? (i := 10) (by decide +kernel))) rfl, ⟨by decide +kernel, by decide +kernel, by decide +kernel⟩, xg (w := (Jvm.Cond.instanceMethod ({ cls := "SmellBurdensModel", name := "count", desc := "(I)I" } : Jvm.MethodName))) (xt6 (List.mem_of_getElem? (i := 172) (by decide +kernel))) rfl, xg (w := (Jvm.Cond.selects "SmellBurdensModel" ({ cls := "SmellBurdensModel", name := "count", desc := "(I)I" } : Jvm.MethodName) ({ cls := "SmellBurdensModel", name := "count", desc := "(I)I" } : Jvm.MethodName))) (xt6 (List.mem_of_getElem? (i := 173) (by decide +kernel))) rfl, rfl⟩
theorem wdX11_314 : (Jvm.Cond.constantLong "SmellBurdensModel" (314 : Nat) (17 : Int64)) ∈ xG := xg (xt6 (List.mem_of_getElem? (i := 191) (by decide +kernel))) rfl
theorem wdX11_316 : (Jvm.Cond.constantLong "SmellBurdensModel" (316 : Nat) (31 : Int64)) ∈ xG := xg (xt6 (List.mem_of_getElem? (i := 192) (by decide +kernel))) rfl
theorem wdX11_318 : (Jvm.Cond.methodLink "SmellBurdensModel" (318 : Nat) ({ cls := "SmellBurdensModel", name := "count", desc := "(I)I" } : Jvm.MethodName)) ∈ xG := xg (xt6 (List.mem_of_getElem? (i := 193) (by decide +kernel))) rfl
def pX11_digest_0 : List xE := [(0, 3, .ldc2_w 314, 17, 0, 0, []), (3, 1, .lstore_n 1, 1, 0, 0, []), (4, 1, .iconst 0, 0, 0, 0, []), (5, 1, .istore_n 3, 3, 0, 0, []), (6, 1, .iload_n 3, 3, 0, 0, []), (7, 2, .bipush 11, 11, 0, 0, []), (9, 3, .if_icmp .ge 22, 31, 0, 0, []), (12, 3, .ldc2_w 316, 31, 0, 0, []), (15, 1, .lload_n 1, 1, 0, 0, []), (16, 1, .lmul, 0, 0, 0, []), (17, 1, .aload_n 0, 0, 0, 0, []), (18, 1, .iload_n 3, 3, 0, 0, []), (19, 3, .invokevirtual 318, 0, 0, 0, []), (22, 1, .i2l, 0, 0, 0, []), (23, 1, .ladd, 0, 0, 0, []), (24, 1, .lstore_n 1, 1, 0, 0, []), (25, 3, .iinc 3 1, 3, 1, 0, []), (28, 3, .goto (-22), 6, 0, 0, []), (31, 1, .iconst 0, 0, 0, 0, []), (32, 1, .istore_n 3, 3, 0, 0, []), (33, 1, .iload_n 3, 3, 0, 0, []), (34, 1, .aload_n 0, 0, 0, 0, []), (35, 3, .getfield 118, 8, 10, 0, []), (38, 3, .if_icmp .ge 39, 77, 0, 0, []), (41, 1, .iconst 0, 0, 0, 0, []), (42, 2, .istore 4, 4, 0, 0, []), (44, 2, .iload 4, 4, 0, 0, []), (46, 1, .iconst 4, 4, 0, 0, []), (47, 3, .if_icmp .ge 24, 71, 0, 0, []), (50, 3, .ldc2_w 316, 31, 0, 0, []), (53, 1, .lload_n 1, 1, 0, 0, []), (54, 1, .lmul, 0, 0, 0, []), (55, 1, .aload_n 0, 0, 0, 0, []), (56, 1, .iload_n 3, 3, 0, 0, []), (57, 2, .iload 4, 4, 0, 0, []), (59, 3, .invokevirtual 208, 1, 0, 0, []), (62, 1, .i2l, 0, 0, 0, []), (63, 1, .ladd, 0, 0, 0, []), (64, 1, .lstore_n 1, 1, 0, 0, []), (65, 3, .iinc 4 1, 4, 1, 0, []), (68, 3, .goto (-24), 44, 0, 0, []), (71, 3, .iinc 3 1, 3, 1, 0, []), (74, 3, .goto (-41), 33, 0, 0, []), (77, 1, .iconst 0, 0, 0, 0, []), (78, 1, .istore_n 3, 3, 0, 0, []), (79, 1, .iload_n 3, 3, 0, 0, []), (80, 1, .aload_n 0, 0, 0, 0, []), (81, 3, .getfield 121, 8, 11, 0, []), (84, 3, .if_icmp .ge 39, 123, 0, 0, []), (87, 1, .iconst 0, 0, 0, 0, []), (88, 2, .istore 4, 4, 0, 0, []), (90, 2, .iload 4, 4, 0, 0, []), (92, 1, .iconst 5, 5, 0, 0, []), (93, 3, .if_icmp .ge 24, 117, 0, 0, []), (96, 3, .ldc2_w 316, 31, 0, 0, []), (99, 1, .lload_n 1, 1, 0, 0, []), (100, 1, .lmul, 0, 0, 0, []), (101, 1, .aload_n 0, 0, 0, 0, []), (102, 1, .iload_n 3, 3, 0, 0, []), (103, 2, .iload 4, 4, 0, 0, []), (105, 3, .invokevirtual 216, 2, 0, 0, []), (108, 1, .i2l, 0, 0, 0, []), (109, 1, .ladd, 0, 0, 0, []), (110, 1, .lstore_n 1, 1, 0, 0, []), (111, 3, .iinc 4 1, 4, 1, 0, []), (114, 3, .goto (-24), 90, 0, 0, []), (117, 3, .iinc 3 1, 3, 1, 0, []), (120, 3, .goto (-41), 79, 0, 0, []), (123, 1, .iconst 0, 0, 0, 0, []), (124, 1, .istore_n 3, 3, 0, 0, []), (125, 1, .iload_n 3, 3, 0, 0, []), (126, 1, .iconst 3, 3, 0, 0, []), (127, 3, .if_icmp .ge 23, 150, 0, 0, []), (130, 3, .ldc2_w 316, 31, 0, 0, []), (133, 1, .lload_n 1, 1, 0, 0, []), (134, 1, .lmul, 0, 0, 0, []), (135, 1, .aload_n 0, 0, 0, 0, []), (136, 3, .getfield 49, 8, 24, 0, []), (139, 1, .iload_n 3, 3, 0, 0, []), (140, 1, .iaload, 0, 0, 0, [])]
def pX11_digest_1 : List xE := [(141, 1, .i2l, 0, 0, 0, []), (142, 1, .ladd, 0, 0, 0, []), (143, 1, .lstore_n 1, 1, 0, 0, []), (144, 3, .iinc 3 1, 3, 1, 0, []), (147, 3, .goto (-22), 125, 0, 0, []), (150, 1, .iconst 0, 0, 0, 0, []), (151, 1, .istore_n 3, 3, 0, 0, []), (152, 1, .iload_n 3, 3, 0, 0, []), (153, 2, .bipush 6, 6, 0, 0, []), (155, 3, .if_icmp .ge 63, 218, 0, 0, []), (158, 3, .ldc2_w 316, 31, 0, 0, []), (161, 1, .lload_n 1, 1, 0, 0, []), (162, 1, .lmul, 0, 0, 0, []), (163, 1, .aload_n 0, 0, 0, 0, []), (164, 3, .getfield 13, 8, 5, 0, []), (167, 1, .iload_n 3, 3, 0, 0, []), (168, 1, .iaload, 0, 0, 0, []), (169, 1, .i2l, 0, 0, 0, []), (170, 1, .ladd, 0, 0, 0, []), (171, 1, .lstore_n 1, 1, 0, 0, []), (172, 1, .iconst 0, 0, 0, 0, []), (173, 2, .istore 4, 4, 0, 0, []), (175, 2, .iload 4, 4, 0, 0, []), (177, 1, .aload_n 0, 0, 0, 0, []), (178, 3, .getfield 13, 8, 5, 0, []), (181, 1, .iload_n 3, 3, 0, 0, []), (182, 1, .iaload, 0, 0, 0, []), (183, 3, .if_icmp .ge 29, 212, 0, 0, []), (186, 3, .ldc2_w 316, 31, 0, 0, []), (189, 1, .lload_n 1, 1, 0, 0, []), (190, 1, .lmul, 0, 0, 0, []), (191, 1, .aload_n 0, 0, 0, 0, []), (192, 3, .getfield 16, 8, 6, 0, []), (195, 2, .bipush 40, 40, 0, 0, []), (197, 1, .iload_n 3, 3, 0, 0, []), (198, 1, .imul, 0, 0, 0, []), (199, 2, .iload 4, 4, 0, 0, []), (201, 1, .iadd, 0, 0, 0, []), (202, 1, .iaload, 0, 0, 0, []), (203, 1, .i2l, 0, 0, 0, []), (204, 1, .ladd, 0, 0, 0, []), (205, 1, .lstore_n 1, 1, 0, 0, []), (206, 3, .iinc 4 1, 4, 1, 0, []), (209, 3, .goto (-34), 175, 0, 0, []), (212, 3, .iinc 3 1, 3, 1, 0, []), (215, 3, .goto (-63), 152, 0, 0, []), (218, 1, .iconst 0, 0, 0, 0, []), (219, 1, .istore_n 3, 3, 0, 0, []), (220, 1, .iload_n 3, 3, 0, 0, []), (221, 1, .iconst 4, 4, 0, 0, []), (222, 3, .if_icmp .ge 63, 285, 0, 0, []), (225, 3, .ldc2_w 316, 31, 0, 0, []), (228, 1, .lload_n 1, 1, 0, 0, []), (229, 1, .lmul, 0, 0, 0, []), (230, 1, .aload_n 0, 0, 0, 0, []), (231, 3, .getfield 19, 8, 7, 0, []), (234, 1, .iload_n 3, 3, 0, 0, []), (235, 1, .iaload, 0, 0, 0, []), (236, 1, .i2l, 0, 0, 0, []), (237, 1, .ladd, 0, 0, 0, []), (238, 1, .lstore_n 1, 1, 0, 0, []), (239, 1, .iconst 0, 0, 0, 0, []), (240, 2, .istore 4, 4, 0, 0, []), (242, 2, .iload 4, 4, 0, 0, []), (244, 1, .aload_n 0, 0, 0, 0, []), (245, 3, .getfield 19, 8, 7, 0, []), (248, 1, .iload_n 3, 3, 0, 0, []), (249, 1, .iaload, 0, 0, 0, []), (250, 3, .if_icmp .ge 29, 279, 0, 0, []), (253, 3, .ldc2_w 316, 31, 0, 0, []), (256, 1, .lload_n 1, 1, 0, 0, []), (257, 1, .lmul, 0, 0, 0, []), (258, 1, .aload_n 0, 0, 0, 0, []), (259, 3, .getfield 22, 8, 8, 0, []), (262, 2, .bipush 60, 60, 0, 0, []), (264, 1, .iload_n 3, 3, 0, 0, []), (265, 1, .imul, 0, 0, 0, []), (266, 2, .iload 4, 4, 0, 0, []), (268, 1, .iadd, 0, 0, 0, []), (269, 1, .iaload, 0, 0, 0, [])]
def pX11_digest_2 : List xE := [(270, 1, .i2l, 0, 0, 0, []), (271, 1, .ladd, 0, 0, 0, []), (272, 1, .lstore_n 1, 1, 0, 0, []), (273, 3, .iinc 4 1, 4, 1, 0, []), (276, 3, .goto (-34), 242, 0, 0, []), (279, 3, .iinc 3 1, 3, 1, 0, []), (282, 3, .goto (-62), 220, 0, 0, []), (285, 1, .lload_n 1, 1, 0, 0, []), (286, 1, .lreturn, 0, 0, 0, [])]
def pX11_digest : List xE := pX11_digest_0 ++ (pX11_digest_1 ++ (pX11_digest_2))
def mX11_digest : xM := (yX11_digest, cX11_digest, 5, (some FieldType.long), 0, 0, 8, 8, 182, 0, pX11_digest)
theorem dX11_digest : xDec cX11_digest pX11_digest = true := by decide +kernel
theorem hX11_digest : xHd mX11_digest := ⟨xg (w := (Jvm.Cond.code ({ cls := "SmellBurdensModel", name := "digest", desc := "()J" } : Jvm.MethodName) prog_13_method_99_code (5 : Nat) (Option.some Jvm.ClassFile.FieldType.long))) (xt6 (List.mem_of_getElem? (i := 190) (by decide +kernel))) rfl, xg (w := (Jvm.Cond.initialized "SmellBurdensModel")) (xt1 (List.mem_of_getElem? (i := 10) (by decide +kernel))) rfl, ⟨by decide +kernel, by decide +kernel, by decide +kernel⟩, xg (w := (Jvm.Cond.instanceMethod ({ cls := "SmellBurdensModel", name := "digest", desc := "()J" } : Jvm.MethodName))) (xt6 (List.mem_of_getElem? (i := 188) (by decide +kernel))) rfl, xg (w := (Jvm.Cond.selects "SmellBurdensModel" ({ cls := "SmellBurdensModel", name := "digest", desc := "()J" } : Jvm.MethodName) ({ cls := "SmellBurdensModel", name := "digest", desc := "()J" } : Jvm.MethodName))) (xt6 (List.mem_of_getElem? (i := 189) (by decide +kernel))) rfl, rfl⟩
end
section
/-! 19.prog-law: printed of the program by wip/whole/gen_prog.py -/
theorem wdL_7 : (Jvm.Cond.classLink "SmellBurdensLaw" (7 : Nat) "SmellBurdens") ∈ xG := xg (xt1 (List.mem_of_getElem? (i := 17) (by decide +kernel))) rfl
theorem wdL_9 : (Jvm.Cond.methodLink "SmellBurdensLaw" (9 : Nat) ({ cls := "SmellBurdens", name := "<init>", desc := "()V" } : Jvm.MethodName)) ∈ xG := xg (xt1 (List.mem_of_getElem? (i := 19) (by decide +kernel))) rfl
theorem wdL_10 : (Jvm.Cond.classLink "SmellBurdensLaw" (10 : Nat) "SmellBurdensModel") ∈ xG := xg (xt4 (List.mem_of_getElem? (i := 177) (by decide +kernel))) rfl
theorem wdL_12 : (Jvm.Cond.methodLink "SmellBurdensLaw" (12 : Nat) ({ cls := "SmellBurdensModel", name := "<init>", desc := "()V" } : Jvm.MethodName)) ∈ xG := xg (xt4 (List.mem_of_getElem? (i := 179) (by decide +kernel))) rfl
theorem wdL_13 : (Jvm.Cond.methodLink "SmellBurdensLaw" (13 : Nat) ({ cls := "SmellBurdens", name := "row", desc := "(II)I" } : Jvm.MethodName)) ∈ xG := xg (xt1 (List.mem_of_getElem? (i := 200) (by decide +kernel))) rfl
theorem wdL_17 : (Jvm.Cond.methodLink "SmellBurdensLaw" (17 : Nat) ({ cls := "SmellBurdensModel", name := "row", desc := "(II)I" } : Jvm.MethodName)) ∈ xG := xg (xt5 (List.mem_of_getElem? (i := 64) (by decide +kernel))) rfl
theorem wdL_18 : (Jvm.Cond.methodLink "SmellBurdensLaw" (18 : Nat) ({ cls := "SmellBurdens", name := "lay", desc := "(III)I" } : Jvm.MethodName)) ∈ xG := xg (xt1 (List.mem_of_getElem? (i := 232) (by decide +kernel))) rfl
theorem wdL_22 : (Jvm.Cond.methodLink "SmellBurdensLaw" (22 : Nat) ({ cls := "SmellBurdensModel", name := "lay", desc := "(III)I" } : Jvm.MethodName)) ∈ xG := xg (xt5 (List.mem_of_getElem? (i := 79) (by decide +kernel))) rfl
theorem wdL_23 : (Jvm.Cond.methodLink "SmellBurdensLaw" (23 : Nat) ({ cls := "SmellBurdens", name := "at", desc := "(II)I" } : Jvm.MethodName)) ∈ xG := xg (xt2 (List.mem_of_getElem? (i := 9) (by decide +kernel))) rfl
theorem wdL_26 : (Jvm.Cond.methodLink "SmellBurdensLaw" (26 : Nat) ({ cls := "SmellBurdensModel", name := "at", desc := "(II)I" } : Jvm.MethodName)) ∈ xG := xg (xt5 (List.mem_of_getElem? (i := 91) (by decide +kernel))) rfl
theorem wdL_27 : (Jvm.Cond.methodLink "SmellBurdensLaw" (27 : Nat) ({ cls := "SmellBurdens", name := "tear", desc := "(I)I" } : Jvm.MethodName)) ∈ xG := xg (xt2 (List.mem_of_getElem? (i := 14) (by decide +kernel))) rfl
theorem wdL_31 : (Jvm.Cond.methodLink "SmellBurdensLaw" (31 : Nat) ({ cls := "SmellBurdensModel", name := "tear", desc := "(I)I" } : Jvm.MethodName)) ∈ xG := xg (xt5 (List.mem_of_getElem? (i := 95) (by decide +kernel))) rfl
theorem wdL_32 : (Jvm.Cond.methodLink "SmellBurdensLaw" (32 : Nat) ({ cls := "SmellBurdens", name := "copy", desc := "(IIIII)I" } : Jvm.MethodName)) ∈ xG := xg (xt2 (List.mem_of_getElem? (i := 23) (by decide +kernel))) rfl
theorem wdL_36 : (Jvm.Cond.methodLink "SmellBurdensLaw" (36 : Nat) ({ cls := "SmellBurdensModel", name := "copy", desc := "(IIIII)I" } : Jvm.MethodName)) ∈ xG := xg (xt5 (List.mem_of_getElem? (i := 99) (by decide +kernel))) rfl
theorem wdL_37 : (Jvm.Cond.methodLink "SmellBurdensLaw" (37 : Nat) ({ cls := "SmellBurdens", name := "mean", desc := "(I)I" } : Jvm.MethodName)) ∈ xG := xg (xt2 (List.mem_of_getElem? (i := 35) (by decide +kernel))) rfl
theorem wdL_40 : (Jvm.Cond.methodLink "SmellBurdensLaw" (40 : Nat) ({ cls := "SmellBurdensModel", name := "mean", desc := "(I)I" } : Jvm.MethodName)) ∈ xG := xg (xt5 (List.mem_of_getElem? (i := 103) (by decide +kernel))) rfl
theorem wdL_41 : (Jvm.Cond.methodLink "SmellBurdensLaw" (41 : Nat) ({ cls := "SmellBurdens", name := "text", desc := "(II)I" } : Jvm.MethodName)) ∈ xG := xg (xt2 (List.mem_of_getElem? (i := 44) (by decide +kernel))) rfl
theorem wdL_44 : (Jvm.Cond.methodLink "SmellBurdensLaw" (44 : Nat) ({ cls := "SmellBurdensModel", name := "text", desc := "(II)I" } : Jvm.MethodName)) ∈ xG := xg (xt5 (List.mem_of_getElem? (i := 107) (by decide +kernel))) rfl
theorem wdL_45 : (Jvm.Cond.methodLink "SmellBurdensLaw" (45 : Nat) ({ cls := "SmellBurdens", name := "put", desc := "(III)I" } : Jvm.MethodName)) ∈ xG := xg (xt2 (List.mem_of_getElem? (i := 48) (by decide +kernel))) rfl
theorem wdL_48 : (Jvm.Cond.methodLink "SmellBurdensLaw" (48 : Nat) ({ cls := "SmellBurdensModel", name := "put", desc := "(III)I" } : Jvm.MethodName)) ∈ xG := xg (xt5 (List.mem_of_getElem? (i := 115) (by decide +kernel))) rfl
theorem wdL_49 : (Jvm.Cond.methodLink "SmellBurdensLaw" (49 : Nat) ({ cls := "SmellBurdens", name := "fault", desc := "(I)I" } : Jvm.MethodName)) ∈ xG := xg (xt2 (List.mem_of_getElem? (i := 52) (by decide +kernel))) rfl
theorem wdL_52 : (Jvm.Cond.methodLink "SmellBurdensLaw" (52 : Nat) ({ cls := "SmellBurdensModel", name := "fault", desc := "(I)I" } : Jvm.MethodName)) ∈ xG := xg (xt5 (List.mem_of_getElem? (i := 119) (by decide +kernel))) rfl
theorem wdL_53 : (Jvm.Cond.methodLink "SmellBurdensLaw" (53 : Nat) ({ cls := "SmellBurdens", name := "plain", desc := "(I)I" } : Jvm.MethodName)) ∈ xG := xg (xt2 (List.mem_of_getElem? (i := 129) (by decide +kernel))) rfl
theorem wdL_56 : (Jvm.Cond.methodLink "SmellBurdensLaw" (56 : Nat) ({ cls := "SmellBurdensModel", name := "plain", desc := "(I)I" } : Jvm.MethodName)) ∈ xG := xg (xt5 (List.mem_of_getElem? (i := 162) (by decide +kernel))) rfl
theorem wdL_57 : (Jvm.Cond.methodLink "SmellBurdensLaw" (57 : Nat) ({ cls := "SmellBurdens", name := "ass", desc := "(II)I" } : Jvm.MethodName)) ∈ xG := xg (xt2 (List.mem_of_getElem? (i := 145) (by decide +kernel))) rfl
theorem wdL_60 : (Jvm.Cond.methodLink "SmellBurdensLaw" (60 : Nat) ({ cls := "SmellBurdensModel", name := "ass", desc := "(II)I" } : Jvm.MethodName)) ∈ xG := xg (xt5 (List.mem_of_getElem? (i := 166) (by decide +kernel))) rfl
theorem wdL_61 : (Jvm.Cond.methodLink "SmellBurdensLaw" (61 : Nat) ({ cls := "SmellBurdens", name := "load", desc := "(II)I" } : Jvm.MethodName)) ∈ xG := xg (xt2 (List.mem_of_getElem? (i := 213) (by decide +kernel))) rfl
theorem wdL_64 : (Jvm.Cond.methodLink "SmellBurdensLaw" (64 : Nat) ({ cls := "SmellBurdensModel", name := "load", desc := "(II)I" } : Jvm.MethodName)) ∈ xG := xg (xt5 (List.mem_of_getElem? (i := 207) (by decide +kernel))) rfl
theorem wdL_65 : (Jvm.Cond.methodLink "SmellBurdensLaw" (65 : Nat) ({ cls := "SmellBurdens", name := "mark", desc := "(II)I" } : Jvm.MethodName)) ∈ xG := xg (xt2 (List.mem_of_getElem? (i := 236) (by decide +kernel))) rfl
theorem wdL_68 : (Jvm.Cond.methodLink "SmellBurdensLaw" (68 : Nat) ({ cls := "SmellBurdensModel", name := "mark", desc := "(II)I" } : Jvm.MethodName)) ∈ xG := xg (xt5 (List.mem_of_getElem? (i := 224) (by decide +kernel))) rfl
theorem wdL_69 : (Jvm.Cond.methodLink "SmellBurdensLaw" (69 : Nat) ({ cls := "SmellBurdens", name := "day", desc := "()I" } : Jvm.MethodName)) ∈ xG := xg (xt3 (List.mem_of_getElem? (i := 31) (by decide +kernel))) rfl
theorem wdL_73 : (Jvm.Cond.methodLink "SmellBurdensLaw" (73 : Nat) ({ cls := "SmellBurdensModel", name := "day", desc := "()I" } : Jvm.MethodName)) ∈ xG := xg (xt5 (List.mem_of_getElem? (i := 235) (by decide +kernel))) rfl
theorem wdL_74 : (Jvm.Cond.methodLink "SmellBurdensLaw" (74 : Nat) ({ cls := "SmellBurdens", name := "smear", desc := "(II)I" } : Jvm.MethodName)) ∈ xG := xg (xt3 (List.mem_of_getElem? (i := 61) (by decide +kernel))) rfl
theorem wdL_77 : (Jvm.Cond.methodLink "SmellBurdensLaw" (77 : Nat) ({ cls := "SmellBurdensModel", name := "smear", desc := "(II)I" } : Jvm.MethodName)) ∈ xG := xg (xt6 (List.mem_of_getElem? (i := 11) (by decide +kernel))) rfl
theorem wdL_78 : (Jvm.Cond.methodLink "SmellBurdensLaw" (78 : Nat) ({ cls := "SmellBurdens", name := "lead", desc := "(II)I" } : Jvm.MethodName)) ∈ xG := xg (xt3 (List.mem_of_getElem? (i := 70) (by decide +kernel))) rfl
theorem wdL_81 : (Jvm.Cond.methodLink "SmellBurdensLaw" (81 : Nat) ({ cls := "SmellBurdensModel", name := "lead", desc := "(II)I" } : Jvm.MethodName)) ∈ xG := xg (xt6 (List.mem_of_getElem? (i := 15) (by decide +kernel))) rfl
theorem wdL_82 : (Jvm.Cond.methodLink "SmellBurdensLaw" (82 : Nat) ({ cls := "SmellBurdens", name := "undo", desc := "(I)I" } : Jvm.MethodName)) ∈ xG := xg (xt3 (List.mem_of_getElem? (i := 79) (by decide +kernel))) rfl
theorem wdL_85 : (Jvm.Cond.methodLink "SmellBurdensLaw" (85 : Nat) ({ cls := "SmellBurdensModel", name := "undo", desc := "(I)I" } : Jvm.MethodName)) ∈ xG := xg (xt6 (List.mem_of_getElem? (i := 19) (by decide +kernel))) rfl
theorem wdL_86 : (Jvm.Cond.methodLink "SmellBurdensLaw" (86 : Nat) ({ cls := "SmellBurdens", name := "keep", desc := "(I)I" } : Jvm.MethodName)) ∈ xG := xg (xt3 (List.mem_of_getElem? (i := 87) (by decide +kernel))) rfl
theorem wdL_89 : (Jvm.Cond.methodLink "SmellBurdensLaw" (89 : Nat) ({ cls := "SmellBurdensModel", name := "keep", desc := "(I)I" } : Jvm.MethodName)) ∈ xG := xg (xt6 (List.mem_of_getElem? (i := 23) (by decide +kernel))) rfl
theorem wdL_90 : (Jvm.Cond.methodLink "SmellBurdensLaw" (90 : Nat) ({ cls := "SmellBurdens", name := "on", desc := "(I)I" } : Jvm.MethodName)) ∈ xG := xg (xt3 (List.mem_of_getElem? (i := 96) (by decide +kernel))) rfl
theorem wdL_93 : (Jvm.Cond.methodLink "SmellBurdensLaw" (93 : Nat) ({ cls := "SmellBurdensModel", name := "on", desc := "(I)I" } : Jvm.MethodName)) ∈ xG := xg (xt6 (List.mem_of_getElem? (i := 28) (by decide +kernel))) rfl
theorem wdL_94 : (Jvm.Cond.methodLink "SmellBurdensLaw" (94 : Nat) ({ cls := "SmellBurdens", name := "like", desc := "(II)I" } : Jvm.MethodName)) ∈ xG := xg (xt3 (List.mem_of_getElem? (i := 104) (by decide +kernel))) rfl
theorem wdL_97 : (Jvm.Cond.methodLink "SmellBurdensLaw" (97 : Nat) ({ cls := "SmellBurdensModel", name := "like", desc := "(II)I" } : Jvm.MethodName)) ∈ xG := xg (xt6 (List.mem_of_getElem? (i := 32) (by decide +kernel))) rfl
theorem wdL_98 : (Jvm.Cond.methodLink "SmellBurdensLaw" (98 : Nat) ({ cls := "SmellBurdens", name := "who", desc := "(I)I" } : Jvm.MethodName)) ∈ xG := xg (xt3 (List.mem_of_getElem? (i := 112) (by decide +kernel))) rfl
theorem wdL_101 : (Jvm.Cond.methodLink "SmellBurdensLaw" (101 : Nat) ({ cls := "SmellBurdensModel", name := "who", desc := "(I)I" } : Jvm.MethodName)) ∈ xG := xg (xt6 (List.mem_of_getElem? (i := 40) (by decide +kernel))) rfl
theorem wdL_102 : (Jvm.Cond.methodLink "SmellBurdensLaw" (102 : Nat) ({ cls := "SmellBurdens", name := "where", desc := "(II)I" } : Jvm.MethodName)) ∈ xG := xg (xt3 (List.mem_of_getElem? (i := 120) (by decide +kernel))) rfl
theorem wdL_105 : (Jvm.Cond.methodLink "SmellBurdensLaw" (105 : Nat) ({ cls := "SmellBurdensModel", name := "where", desc := "(II)I" } : Jvm.MethodName)) ∈ xG := xg (xt6 (List.mem_of_getElem? (i := 51) (by decide +kernel))) rfl
theorem wdL_106 : (Jvm.Cond.methodLink "SmellBurdensLaw" (106 : Nat) ({ cls := "SmellBurdens", name := "home", desc := "()I" } : Jvm.MethodName)) ∈ xG := xg (xt3 (List.mem_of_getElem? (i := 129) (by decide +kernel))) rfl
theorem wdL_109 : (Jvm.Cond.methodLink "SmellBurdensLaw" (109 : Nat) ({ cls := "SmellBurdensModel", name := "home", desc := "()I" } : Jvm.MethodName)) ∈ xG := xg (xt6 (List.mem_of_getElem? (i := 64) (by decide +kernel))) rfl
theorem wdL_110 : (Jvm.Cond.methodLink "SmellBurdensLaw" (110 : Nat) ({ cls := "SmellBurdens", name := "round", desc := "()I" } : Jvm.MethodName)) ∈ xG := xg (xt3 (List.mem_of_getElem? (i := 145) (by decide +kernel))) rfl
theorem wdL_113 : (Jvm.Cond.methodLink "SmellBurdensLaw" (113 : Nat) ({ cls := "SmellBurdensModel", name := "round", desc := "()I" } : Jvm.MethodName)) ∈ xG := xg (xt6 (List.mem_of_getElem? (i := 72) (by decide +kernel))) rfl
theorem wdL_114 : (Jvm.Cond.methodLink "SmellBurdensLaw" (114 : Nat) ({ cls := "SmellBurdens", name := "marks", desc := "(II)I" } : Jvm.MethodName)) ∈ xG := xg (xt3 (List.mem_of_getElem? (i := 158) (by decide +kernel))) rfl
theorem wdL_117 : (Jvm.Cond.methodLink "SmellBurdensLaw" (117 : Nat) ({ cls := "SmellBurdensModel", name := "marks", desc := "(II)I" } : Jvm.MethodName)) ∈ xG := xg (xt6 (List.mem_of_getElem? (i := 80) (by decide +kernel))) rfl
theorem wdL_118 : (Jvm.Cond.methodLink "SmellBurdensLaw" (118 : Nat) ({ cls := "SmellBurdens", name := "match", desc := "(I)I" } : Jvm.MethodName)) ∈ xG := xg (xt3 (List.mem_of_getElem? (i := 169) (by decide +kernel))) rfl
theorem wdL_121 : (Jvm.Cond.methodLink "SmellBurdensLaw" (121 : Nat) ({ cls := "SmellBurdensModel", name := "match", desc := "(I)I" } : Jvm.MethodName)) ∈ xG := xg (xt6 (List.mem_of_getElem? (i := 89) (by decide +kernel))) rfl
theorem wdL_122 : (Jvm.Cond.methodLink "SmellBurdensLaw" (122 : Nat) ({ cls := "SmellBurdens", name := "line", desc := "(III)I" } : Jvm.MethodName)) ∈ xG := xg (xt3 (List.mem_of_getElem? (i := 208) (by decide +kernel))) rfl
theorem wdL_125 : (Jvm.Cond.methodLink "SmellBurdensLaw" (125 : Nat) ({ cls := "SmellBurdensModel", name := "line", desc := "(III)I" } : Jvm.MethodName)) ∈ xG := xg (xt6 (List.mem_of_getElem? (i := 97) (by decide +kernel))) rfl
theorem wdL_126 : (Jvm.Cond.methodLink "SmellBurdensLaw" (126 : Nat) ({ cls := "SmellBurdens", name := "cover", desc := "()I" } : Jvm.MethodName)) ∈ xG := xg (xt3 (List.mem_of_getElem? (i := 234) (by decide +kernel))) rfl
theorem wdL_129 : (Jvm.Cond.methodLink "SmellBurdensLaw" (129 : Nat) ({ cls := "SmellBurdensModel", name := "cover", desc := "()I" } : Jvm.MethodName)) ∈ xG := xg (xt6 (List.mem_of_getElem? (i := 105) (by decide +kernel))) rfl
theorem wdL_130 : (Jvm.Cond.methodLink "SmellBurdensLaw" (130 : Nat) ({ cls := "SmellBurdens", name := "memories", desc := "(II)I" } : Jvm.MethodName)) ∈ xG := xg (xt4 (List.mem_of_getElem? (i := 7) (by decide +kernel))) rfl
theorem wdL_133 : (Jvm.Cond.methodLink "SmellBurdensLaw" (133 : Nat) ({ cls := "SmellBurdensModel", name := "memories", desc := "(II)I" } : Jvm.MethodName)) ∈ xG := xg (xt6 (List.mem_of_getElem? (i := 109) (by decide +kernel))) rfl
theorem wdL_134 : (Jvm.Cond.methodLink "SmellBurdensLaw" (134 : Nat) ({ cls := "SmellBurdens", name := "kinds", desc := "(II)I" } : Jvm.MethodName)) ∈ xG := xg (xt4 (List.mem_of_getElem? (i := 25) (by decide +kernel))) rfl
theorem wdL_137 : (Jvm.Cond.methodLink "SmellBurdensLaw" (137 : Nat) ({ cls := "SmellBurdensModel", name := "kinds", desc := "(II)I" } : Jvm.MethodName)) ∈ xG := xg (xt6 (List.mem_of_getElem? (i := 125) (by decide +kernel))) rfl
theorem wdL_138 : (Jvm.Cond.methodLink "SmellBurdensLaw" (138 : Nat) ({ cls := "SmellBurdens", name := "next", desc := "(II)I" } : Jvm.MethodName)) ∈ xG := xg (xt4 (List.mem_of_getElem? (i := 32) (by decide +kernel))) rfl
theorem wdL_141 : (Jvm.Cond.methodLink "SmellBurdensLaw" (141 : Nat) ({ cls := "SmellBurdensModel", name := "next", desc := "(II)I" } : Jvm.MethodName)) ∈ xG := xg (xt6 (List.mem_of_getElem? (i := 129) (by decide +kernel))) rfl
theorem wdL_142 : (Jvm.Cond.methodLink "SmellBurdensLaw" (142 : Nat) ({ cls := "SmellBurdens", name := "duel", desc := "(II)I" } : Jvm.MethodName)) ∈ xG := xg (xt4 (List.mem_of_getElem? (i := 45) (by decide +kernel))) rfl
theorem wdL_145 : (Jvm.Cond.methodLink "SmellBurdensLaw" (145 : Nat) ({ cls := "SmellBurdensModel", name := "duel", desc := "(II)I" } : Jvm.MethodName)) ∈ xG := xg (xt6 (List.mem_of_getElem? (i := 133) (by decide +kernel))) rfl
theorem wdL_146 : (Jvm.Cond.methodLink "SmellBurdensLaw" (146 : Nat) ({ cls := "SmellBurdens", name := "odds", desc := "(II)I" } : Jvm.MethodName)) ∈ xG := xg (xt4 (List.mem_of_getElem? (i := 61) (by decide +kernel))) rfl
theorem wdL_149 : (Jvm.Cond.methodLink "SmellBurdensLaw" (149 : Nat) ({ cls := "SmellBurdensModel", name := "odds", desc := "(II)I" } : Jvm.MethodName)) ∈ xG := xg (xt6 (List.mem_of_getElem? (i := 141) (by decide +kernel))) rfl
theorem wdL_150 : (Jvm.Cond.methodLink "SmellBurdensLaw" (150 : Nat) ({ cls := "SmellBurdens", name := "mid", desc := "(I)I" } : Jvm.MethodName)) ∈ xG := xg (xt4 (List.mem_of_getElem? (i := 85) (by decide +kernel))) rfl
theorem wdL_153 : (Jvm.Cond.methodLink "SmellBurdensLaw" (153 : Nat) ({ cls := "SmellBurdensModel", name := "mid", desc := "(I)I" } : Jvm.MethodName)) ∈ xG := xg (xt6 (List.mem_of_getElem? (i := 158) (by decide +kernel))) rfl
theorem wdL_154 : (Jvm.Cond.methodLink "SmellBurdensLaw" (154 : Nat) ({ cls := "SmellBurdens", name := "lots", desc := "(II)I" } : Jvm.MethodName)) ∈ xG := xg (xt4 (List.mem_of_getElem? (i := 95) (by decide +kernel))) rfl
theorem wdL_157 : (Jvm.Cond.methodLink "SmellBurdensLaw" (157 : Nat) ({ cls := "SmellBurdensModel", name := "lots", desc := "(II)I" } : Jvm.MethodName)) ∈ xG := xg (xt6 (List.mem_of_getElem? (i := 162) (by decide +kernel))) rfl
theorem wdL_158 : (Jvm.Cond.methodLink "SmellBurdensLaw" (158 : Nat) ({ cls := "SmellBurdens", name := "asked", desc := "()I" } : Jvm.MethodName)) ∈ xG := xg (xt4 (List.mem_of_getElem? (i := 110) (by decide +kernel))) rfl
theorem wdL_161 : (Jvm.Cond.methodLink "SmellBurdensLaw" (161 : Nat) ({ cls := "SmellBurdensModel", name := "asked", desc := "()I" } : Jvm.MethodName)) ∈ xG := xg (xt5 (List.mem_of_getElem? (i := 40) (by decide +kernel))) rfl
theorem wdL_162 : (Jvm.Cond.methodLink "SmellBurdensLaw" (162 : Nat) ({ cls := "SmellBurdens", name := "upper", desc := "()J" } : Jvm.MethodName)) ∈ xG := xg (xt4 (List.mem_of_getElem? (i := 114) (by decide +kernel))) rfl
theorem wdL_166 : (Jvm.Cond.methodLink "SmellBurdensLaw" (166 : Nat) ({ cls := "SmellBurdensModel", name := "upper", desc := "()J" } : Jvm.MethodName)) ∈ xG := xg (xt5 (List.mem_of_getElem? (i := 44) (by decide +kernel))) rfl
theorem wdL_167 : (Jvm.Cond.methodLink "SmellBurdensLaw" (167 : Nat) ({ cls := "SmellBurdens", name := "lower", desc := "()J" } : Jvm.MethodName)) ∈ xG := xg (xt4 (List.mem_of_getElem? (i := 118) (by decide +kernel))) rfl
theorem wdL_170 : (Jvm.Cond.methodLink "SmellBurdensLaw" (170 : Nat) ({ cls := "SmellBurdensModel", name := "lower", desc := "()J" } : Jvm.MethodName)) ∈ xG := xg (xt5 (List.mem_of_getElem? (i := 48) (by decide +kernel))) rfl
theorem wdL_171 : (Jvm.Cond.methodLink "SmellBurdensLaw" (171 : Nat) ({ cls := "SmellBurdens", name := "count", desc := "(I)I" } : Jvm.MethodName)) ∈ xG := xg (xt4 (List.mem_of_getElem? (i := 122) (by decide +kernel))) rfl
theorem wdL_174 : (Jvm.Cond.methodLink "SmellBurdensLaw" (174 : Nat) ({ cls := "SmellBurdensModel", name := "count", desc := "(I)I" } : Jvm.MethodName)) ∈ xG := xg (xt6 (List.mem_of_getElem? (i := 171) (by decide +kernel))) rfl
theorem wdL_175 : (Jvm.Cond.methodLink "SmellBurdensLaw" (175 : Nat) ({ cls := "SmellBurdens", name := "finding", desc := "()I" } : Jvm.MethodName)) ∈ xG := xg (xt4 (List.mem_of_getElem? (i := 157) (by decide +kernel))) rfl
theorem wdL_178 : (Jvm.Cond.methodLink "SmellBurdensLaw" (178 : Nat) ({ cls := "SmellBurdensModel", name := "finding", desc := "()I" } : Jvm.MethodName)) ∈ xG := xg (xt5 (List.mem_of_getElem? (i := 52) (by decide +kernel))) rfl
theorem wdL_179 : (Jvm.Cond.methodLink "SmellBurdensLaw" (179 : Nat) ({ cls := "SmellBurdens", name := "findings", desc := "(I)I" } : Jvm.MethodName)) ∈ xG := xg (xt4 (List.mem_of_getElem? (i := 161) (by decide +kernel))) rfl
theorem wdL_182 : (Jvm.Cond.methodLink "SmellBurdensLaw" (182 : Nat) ({ cls := "SmellBurdensModel", name := "findings", desc := "(I)I" } : Jvm.MethodName)) ∈ xG := xg (xt5 (List.mem_of_getElem? (i := 56) (by decide +kernel))) rfl
theorem wdL_183 : (Jvm.Cond.methodLink "SmellBurdensLaw" (183 : Nat) ({ cls := "SmellBurdens", name := "digest", desc := "()J" } : Jvm.MethodName)) ∈ xG := xg (xt4 (List.mem_of_getElem? (i := 165) (by decide +kernel))) rfl
theorem wdL_186 : (Jvm.Cond.methodLink "SmellBurdensLaw" (186 : Nat) ({ cls := "SmellBurdensModel", name := "digest", desc := "()J" } : Jvm.MethodName)) ∈ xG := xg (xt6 (List.mem_of_getElem? (i := 187) (by decide +kernel))) rfl
def pL_law_0 : List xE := [(0, 3, .new 7, 7, 0, 0, []), (3, 1, .dup, 0, 0, 0, []), (4, 3, .invokespecial 9, 0, 0, 0, []), (7, 1, .astore_n 1, 1, 0, 0, []), (8, 3, .new 10, 8, 0, 0, []), (11, 1, .dup, 0, 0, 0, []), (12, 3, .invokespecial 12, 1, 0, 0, []), (15, 1, .astore_n 2, 2, 0, 0, []), (16, 1, .iconst 0, 0, 0, 0, []), (17, 1, .istore_n 3, 3, 0, 0, []), (18, 1, .iload_n 3, 3, 0, 0, []), (19, 1, .aload_n 0, 0, 0, 0, []), (20, 1, .arraylength, 0, 0, 0, []), (21, 2, .bipush 6, 6, 0, 0, []), (23, 1, .isub, 0, 0, 0, []), (24, 3, .if_icmp .gt 1347, 1371, 0, 0, []), (27, 1, .aload_n 0, 0, 0, 0, []), (28, 1, .iload_n 3, 3, 0, 0, []), (29, 1, .iaload, 0, 0, 0, []), (30, 2, .bipush 63, 63, 0, 0, []), (32, 1, .iand, 0, 0, 0, []), (33, 183, .tableswitch 1332 0 41 #[183, 216, 259, 292, 315, 378, 401, 434, 477, 500, 523, 556, 589, 622, 635, 668, 701, 724, 747, 770, 803, 826, 859, 872, 885, 918, 941, 984, 997, 1030, 1063, 1096, 1129, 1162, 1185, 1218, 1231, 1245, 1259, 1282, 1295, 1318], 1365, 0, 0, [(0, 216), (1, 249), (2, 292), (3, 325), (4, 348), (5, 411), (6, 434), (7, 467), (8, 510), (9, 533), (10, 556), (11, 589), (12, 622), (13, 655), (14, 668), (15, 701), (16, 734), (17, 757), (18, 780), (19, 803), (20, 836), (21, 859), (22, 892), (23, 905), (24, 918), (25, 951), (26, 974), (27, 1017), (28, 1030), (29, 1063), (30, 1096), (31, 1129), (32, 1162), (33, 1195), (34, 1218), (35, 1251), (36, 1264), (37, 1278), (38, 1292), (39, 1315), (40, 1328), (41, 1351)]), (216, 1, .aload_n 1, 1, 0, 0, []), (217, 1, .aload_n 0, 0, 0, 0, []), (218, 1, .iload_n 3, 3, 0, 0, []), (219, 1, .iconst 1, 1, 0, 0, []), (220, 1, .iadd, 0, 0, 0, []), (221, 1, .iaload, 0, 0, 0, []), (222, 1, .aload_n 0, 0, 0, 0, []), (223, 1, .iload_n 3, 3, 0, 0, []), (224, 1, .iconst 2, 2, 0, 0, []), (225, 1, .iadd, 0, 0, 0, []), (226, 1, .iaload, 0, 0, 0, []), (227, 3, .invokevirtual 13, 2, 0, 0, []), (230, 1, .aload_n 2, 2, 0, 0, []), (231, 1, .aload_n 0, 0, 0, 0, []), (232, 1, .iload_n 3, 3, 0, 0, []), (233, 1, .iconst 1, 1, 0, 0, []), (234, 1, .iadd, 0, 0, 0, []), (235, 1, .iaload, 0, 0, 0, [])]
def pL_law_1 : List xE := [(236, 1, .aload_n 0, 0, 0, 0, []), (237, 1, .iload_n 3, 3, 0, 0, []), (238, 1, .iconst 2, 2, 0, 0, []), (239, 1, .iadd, 0, 0, 0, []), (240, 1, .iaload, 0, 0, 0, []), (241, 3, .invokevirtual 17, 3, 0, 0, []), (244, 3, .if_icmp .eq 1121, 1365, 0, 0, []), (247, 1, .iconst 0, 0, 0, 0, []), (248, 1, .ireturn, 0, 0, 0, []), (249, 1, .aload_n 1, 1, 0, 0, []), (250, 1, .aload_n 0, 0, 0, 0, []), (251, 1, .iload_n 3, 3, 0, 0, []), (252, 1, .iconst 1, 1, 0, 0, []), (253, 1, .iadd, 0, 0, 0, []), (254, 1, .iaload, 0, 0, 0, []), (255, 1, .aload_n 0, 0, 0, 0, []), (256, 1, .iload_n 3, 3, 0, 0, []), (257, 1, .iconst 2, 2, 0, 0, []), (258, 1, .iadd, 0, 0, 0, []), (259, 1, .iaload, 0, 0, 0, []), (260, 1, .aload_n 0, 0, 0, 0, []), (261, 1, .iload_n 3, 3, 0, 0, []), (262, 1, .iconst 3, 3, 0, 0, []), (263, 1, .iadd, 0, 0, 0, []), (264, 1, .iaload, 0, 0, 0, []), (265, 3, .invokevirtual 18, 4, 0, 0, []), (268, 1, .aload_n 2, 2, 0, 0, []), (269, 1, .aload_n 0, 0, 0, 0, []), (270, 1, .iload_n 3, 3, 0, 0, []), (271, 1, .iconst 1, 1, 0, 0, []), (272, 1, .iadd, 0, 0, 0, []), (273, 1, .iaload, 0, 0, 0, []), (274, 1, .aload_n 0, 0, 0, 0, []), (275, 1, .iload_n 3, 3, 0, 0, []), (276, 1, .iconst 2, 2, 0, 0, []), (277, 1, .iadd, 0, 0, 0, []), (278, 1, .iaload, 0, 0, 0, []), (279, 1, .aload_n 0, 0, 0, 0, []), (280, 1, .iload_n 3, 3, 0, 0, []), (281, 1, .iconst 3, 3, 0, 0, [])]
def pL_law_2 : List xE := [(282, 1, .iadd, 0, 0, 0, []), (283, 1, .iaload, 0, 0, 0, []), (284, 3, .invokevirtual 22, 5, 0, 0, []), (287, 3, .if_icmp .eq 1078, 1365, 0, 0, []), (290, 1, .iconst 0, 0, 0, 0, []), (291, 1, .ireturn, 0, 0, 0, []), (292, 1, .aload_n 1, 1, 0, 0, []), (293, 1, .aload_n 0, 0, 0, 0, []), (294, 1, .iload_n 3, 3, 0, 0, []), (295, 1, .iconst 1, 1, 0, 0, []), (296, 1, .iadd, 0, 0, 0, []), (297, 1, .iaload, 0, 0, 0, []), (298, 1, .aload_n 0, 0, 0, 0, []), (299, 1, .iload_n 3, 3, 0, 0, []), (300, 1, .iconst 2, 2, 0, 0, []), (301, 1, .iadd, 0, 0, 0, []), (302, 1, .iaload, 0, 0, 0, []), (303, 3, .invokevirtual 23, 6, 0, 0, []), (306, 1, .aload_n 2, 2, 0, 0, []), (307, 1, .aload_n 0, 0, 0, 0, []), (308, 1, .iload_n 3, 3, 0, 0, []), (309, 1, .iconst 1, 1, 0, 0, []), (310, 1, .iadd, 0, 0, 0, []), (311, 1, .iaload, 0, 0, 0, []), (312, 1, .aload_n 0, 0, 0, 0, []), (313, 1, .iload_n 3, 3, 0, 0, []), (314, 1, .iconst 2, 2, 0, 0, []), (315, 1, .iadd, 0, 0, 0, []), (316, 1, .iaload, 0, 0, 0, []), (317, 3, .invokevirtual 26, 7, 0, 0, []), (320, 3, .if_icmp .eq 1045, 1365, 0, 0, []), (323, 1, .iconst 0, 0, 0, 0, []), (324, 1, .ireturn, 0, 0, 0, []), (325, 1, .aload_n 1, 1, 0, 0, []), (326, 1, .aload_n 0, 0, 0, 0, []), (327, 1, .iload_n 3, 3, 0, 0, []), (328, 1, .iconst 1, 1, 0, 0, []), (329, 1, .iadd, 0, 0, 0, []), (330, 1, .iaload, 0, 0, 0, []), (331, 3, .invokevirtual 27, 8, 0, 0, [])]
def pL_law_3 : List xE := [(334, 1, .aload_n 2, 2, 0, 0, []), (335, 1, .aload_n 0, 0, 0, 0, []), (336, 1, .iload_n 3, 3, 0, 0, []), (337, 1, .iconst 1, 1, 0, 0, []), (338, 1, .iadd, 0, 0, 0, []), (339, 1, .iaload, 0, 0, 0, []), (340, 3, .invokevirtual 31, 9, 0, 0, []), (343, 3, .if_icmp .eq 1022, 1365, 0, 0, []), (346, 1, .iconst 0, 0, 0, 0, []), (347, 1, .ireturn, 0, 0, 0, []), (348, 1, .aload_n 1, 1, 0, 0, []), (349, 1, .aload_n 0, 0, 0, 0, []), (350, 1, .iload_n 3, 3, 0, 0, []), (351, 1, .iconst 1, 1, 0, 0, []), (352, 1, .iadd, 0, 0, 0, []), (353, 1, .iaload, 0, 0, 0, []), (354, 1, .aload_n 0, 0, 0, 0, []), (355, 1, .iload_n 3, 3, 0, 0, []), (356, 1, .iconst 2, 2, 0, 0, []), (357, 1, .iadd, 0, 0, 0, []), (358, 1, .iaload, 0, 0, 0, []), (359, 1, .aload_n 0, 0, 0, 0, []), (360, 1, .iload_n 3, 3, 0, 0, []), (361, 1, .iconst 3, 3, 0, 0, []), (362, 1, .iadd, 0, 0, 0, []), (363, 1, .iaload, 0, 0, 0, []), (364, 1, .aload_n 0, 0, 0, 0, []), (365, 1, .iload_n 3, 3, 0, 0, []), (366, 1, .iconst 4, 4, 0, 0, []), (367, 1, .iadd, 0, 0, 0, []), (368, 1, .iaload, 0, 0, 0, []), (369, 1, .aload_n 0, 0, 0, 0, []), (370, 1, .iload_n 3, 3, 0, 0, []), (371, 1, .iconst 5, 5, 0, 0, []), (372, 1, .iadd, 0, 0, 0, []), (373, 1, .iaload, 0, 0, 0, []), (374, 3, .invokevirtual 32, 10, 0, 0, []), (377, 1, .aload_n 2, 2, 0, 0, []), (378, 1, .aload_n 0, 0, 0, 0, []), (379, 1, .iload_n 3, 3, 0, 0, [])]
def pL_law_4 : List xE := [(380, 1, .iconst 1, 1, 0, 0, []), (381, 1, .iadd, 0, 0, 0, []), (382, 1, .iaload, 0, 0, 0, []), (383, 1, .aload_n 0, 0, 0, 0, []), (384, 1, .iload_n 3, 3, 0, 0, []), (385, 1, .iconst 2, 2, 0, 0, []), (386, 1, .iadd, 0, 0, 0, []), (387, 1, .iaload, 0, 0, 0, []), (388, 1, .aload_n 0, 0, 0, 0, []), (389, 1, .iload_n 3, 3, 0, 0, []), (390, 1, .iconst 3, 3, 0, 0, []), (391, 1, .iadd, 0, 0, 0, []), (392, 1, .iaload, 0, 0, 0, []), (393, 1, .aload_n 0, 0, 0, 0, []), (394, 1, .iload_n 3, 3, 0, 0, []), (395, 1, .iconst 4, 4, 0, 0, []), (396, 1, .iadd, 0, 0, 0, []), (397, 1, .iaload, 0, 0, 0, []), (398, 1, .aload_n 0, 0, 0, 0, []), (399, 1, .iload_n 3, 3, 0, 0, []), (400, 1, .iconst 5, 5, 0, 0, []), (401, 1, .iadd, 0, 0, 0, []), (402, 1, .iaload, 0, 0, 0, []), (403, 3, .invokevirtual 36, 11, 0, 0, []), (406, 3, .if_icmp .eq 959, 1365, 0, 0, []), (409, 1, .iconst 0, 0, 0, 0, []), (410, 1, .ireturn, 0, 0, 0, []), (411, 1, .aload_n 1, 1, 0, 0, []), (412, 1, .aload_n 0, 0, 0, 0, []), (413, 1, .iload_n 3, 3, 0, 0, []), (414, 1, .iconst 1, 1, 0, 0, []), (415, 1, .iadd, 0, 0, 0, []), (416, 1, .iaload, 0, 0, 0, []), (417, 3, .invokevirtual 37, 12, 0, 0, []), (420, 1, .aload_n 2, 2, 0, 0, []), (421, 1, .aload_n 0, 0, 0, 0, []), (422, 1, .iload_n 3, 3, 0, 0, []), (423, 1, .iconst 1, 1, 0, 0, []), (424, 1, .iadd, 0, 0, 0, []), (425, 1, .iaload, 0, 0, 0, [])]
def pL_law_5 : List xE := [(426, 3, .invokevirtual 40, 13, 0, 0, []), (429, 3, .if_icmp .eq 936, 1365, 0, 0, []), (432, 1, .iconst 0, 0, 0, 0, []), (433, 1, .ireturn, 0, 0, 0, []), (434, 1, .aload_n 1, 1, 0, 0, []), (435, 1, .aload_n 0, 0, 0, 0, []), (436, 1, .iload_n 3, 3, 0, 0, []), (437, 1, .iconst 1, 1, 0, 0, []), (438, 1, .iadd, 0, 0, 0, []), (439, 1, .iaload, 0, 0, 0, []), (440, 1, .aload_n 0, 0, 0, 0, []), (441, 1, .iload_n 3, 3, 0, 0, []), (442, 1, .iconst 2, 2, 0, 0, []), (443, 1, .iadd, 0, 0, 0, []), (444, 1, .iaload, 0, 0, 0, []), (445, 3, .invokevirtual 41, 14, 0, 0, []), (448, 1, .aload_n 2, 2, 0, 0, []), (449, 1, .aload_n 0, 0, 0, 0, []), (450, 1, .iload_n 3, 3, 0, 0, []), (451, 1, .iconst 1, 1, 0, 0, []), (452, 1, .iadd, 0, 0, 0, []), (453, 1, .iaload, 0, 0, 0, []), (454, 1, .aload_n 0, 0, 0, 0, []), (455, 1, .iload_n 3, 3, 0, 0, []), (456, 1, .iconst 2, 2, 0, 0, []), (457, 1, .iadd, 0, 0, 0, []), (458, 1, .iaload, 0, 0, 0, []), (459, 3, .invokevirtual 44, 15, 0, 0, []), (462, 3, .if_icmp .eq 903, 1365, 0, 0, []), (465, 1, .iconst 0, 0, 0, 0, []), (466, 1, .ireturn, 0, 0, 0, []), (467, 1, .aload_n 1, 1, 0, 0, []), (468, 1, .aload_n 0, 0, 0, 0, []), (469, 1, .iload_n 3, 3, 0, 0, []), (470, 1, .iconst 1, 1, 0, 0, []), (471, 1, .iadd, 0, 0, 0, []), (472, 1, .iaload, 0, 0, 0, []), (473, 1, .aload_n 0, 0, 0, 0, []), (474, 1, .iload_n 3, 3, 0, 0, []), (475, 1, .iconst 2, 2, 0, 0, [])]
def pL_law_6 : List xE := [(476, 1, .iadd, 0, 0, 0, []), (477, 1, .iaload, 0, 0, 0, []), (478, 1, .aload_n 0, 0, 0, 0, []), (479, 1, .iload_n 3, 3, 0, 0, []), (480, 1, .iconst 3, 3, 0, 0, []), (481, 1, .iadd, 0, 0, 0, []), (482, 1, .iaload, 0, 0, 0, []), (483, 3, .invokevirtual 45, 16, 0, 0, []), (486, 1, .aload_n 2, 2, 0, 0, []), (487, 1, .aload_n 0, 0, 0, 0, []), (488, 1, .iload_n 3, 3, 0, 0, []), (489, 1, .iconst 1, 1, 0, 0, []), (490, 1, .iadd, 0, 0, 0, []), (491, 1, .iaload, 0, 0, 0, []), (492, 1, .aload_n 0, 0, 0, 0, []), (493, 1, .iload_n 3, 3, 0, 0, []), (494, 1, .iconst 2, 2, 0, 0, []), (495, 1, .iadd, 0, 0, 0, []), (496, 1, .iaload, 0, 0, 0, []), (497, 1, .aload_n 0, 0, 0, 0, []), (498, 1, .iload_n 3, 3, 0, 0, []), (499, 1, .iconst 3, 3, 0, 0, []), (500, 1, .iadd, 0, 0, 0, []), (501, 1, .iaload, 0, 0, 0, []), (502, 3, .invokevirtual 48, 17, 0, 0, []), (505, 3, .if_icmp .eq 860, 1365, 0, 0, []), (508, 1, .iconst 0, 0, 0, 0, []), (509, 1, .ireturn, 0, 0, 0, []), (510, 1, .aload_n 1, 1, 0, 0, []), (511, 1, .aload_n 0, 0, 0, 0, []), (512, 1, .iload_n 3, 3, 0, 0, []), (513, 1, .iconst 1, 1, 0, 0, []), (514, 1, .iadd, 0, 0, 0, []), (515, 1, .iaload, 0, 0, 0, []), (516, 3, .invokevirtual 49, 18, 0, 0, []), (519, 1, .aload_n 2, 2, 0, 0, []), (520, 1, .aload_n 0, 0, 0, 0, []), (521, 1, .iload_n 3, 3, 0, 0, []), (522, 1, .iconst 1, 1, 0, 0, []), (523, 1, .iadd, 0, 0, 0, [])]
def pL_law_7 : List xE := [(524, 1, .iaload, 0, 0, 0, []), (525, 3, .invokevirtual 52, 19, 0, 0, []), (528, 3, .if_icmp .eq 837, 1365, 0, 0, []), (531, 1, .iconst 0, 0, 0, 0, []), (532, 1, .ireturn, 0, 0, 0, []), (533, 1, .aload_n 1, 1, 0, 0, []), (534, 1, .aload_n 0, 0, 0, 0, []), (535, 1, .iload_n 3, 3, 0, 0, []), (536, 1, .iconst 1, 1, 0, 0, []), (537, 1, .iadd, 0, 0, 0, []), (538, 1, .iaload, 0, 0, 0, []), (539, 3, .invokevirtual 53, 20, 0, 0, []), (542, 1, .aload_n 2, 2, 0, 0, []), (543, 1, .aload_n 0, 0, 0, 0, []), (544, 1, .iload_n 3, 3, 0, 0, []), (545, 1, .iconst 1, 1, 0, 0, []), (546, 1, .iadd, 0, 0, 0, []), (547, 1, .iaload, 0, 0, 0, []), (548, 3, .invokevirtual 56, 21, 0, 0, []), (551, 3, .if_icmp .eq 814, 1365, 0, 0, []), (554, 1, .iconst 0, 0, 0, 0, []), (555, 1, .ireturn, 0, 0, 0, []), (556, 1, .aload_n 1, 1, 0, 0, []), (557, 1, .aload_n 0, 0, 0, 0, []), (558, 1, .iload_n 3, 3, 0, 0, []), (559, 1, .iconst 1, 1, 0, 0, []), (560, 1, .iadd, 0, 0, 0, []), (561, 1, .iaload, 0, 0, 0, []), (562, 1, .aload_n 0, 0, 0, 0, []), (563, 1, .iload_n 3, 3, 0, 0, []), (564, 1, .iconst 2, 2, 0, 0, []), (565, 1, .iadd, 0, 0, 0, []), (566, 1, .iaload, 0, 0, 0, []), (567, 3, .invokevirtual 57, 22, 0, 0, []), (570, 1, .aload_n 2, 2, 0, 0, []), (571, 1, .aload_n 0, 0, 0, 0, []), (572, 1, .iload_n 3, 3, 0, 0, []), (573, 1, .iconst 1, 1, 0, 0, []), (574, 1, .iadd, 0, 0, 0, []), (575, 1, .iaload, 0, 0, 0, [])]
def pL_law_8 : List xE := [(576, 1, .aload_n 0, 0, 0, 0, []), (577, 1, .iload_n 3, 3, 0, 0, []), (578, 1, .iconst 2, 2, 0, 0, []), (579, 1, .iadd, 0, 0, 0, []), (580, 1, .iaload, 0, 0, 0, []), (581, 3, .invokevirtual 60, 23, 0, 0, []), (584, 3, .if_icmp .eq 781, 1365, 0, 0, []), (587, 1, .iconst 0, 0, 0, 0, []), (588, 1, .ireturn, 0, 0, 0, []), (589, 1, .aload_n 1, 1, 0, 0, []), (590, 1, .aload_n 0, 0, 0, 0, []), (591, 1, .iload_n 3, 3, 0, 0, []), (592, 1, .iconst 1, 1, 0, 0, []), (593, 1, .iadd, 0, 0, 0, []), (594, 1, .iaload, 0, 0, 0, []), (595, 1, .aload_n 0, 0, 0, 0, []), (596, 1, .iload_n 3, 3, 0, 0, []), (597, 1, .iconst 2, 2, 0, 0, []), (598, 1, .iadd, 0, 0, 0, []), (599, 1, .iaload, 0, 0, 0, []), (600, 3, .invokevirtual 61, 24, 0, 0, []), (603, 1, .aload_n 2, 2, 0, 0, []), (604, 1, .aload_n 0, 0, 0, 0, []), (605, 1, .iload_n 3, 3, 0, 0, []), (606, 1, .iconst 1, 1, 0, 0, []), (607, 1, .iadd, 0, 0, 0, []), (608, 1, .iaload, 0, 0, 0, []), (609, 1, .aload_n 0, 0, 0, 0, []), (610, 1, .iload_n 3, 3, 0, 0, []), (611, 1, .iconst 2, 2, 0, 0, []), (612, 1, .iadd, 0, 0, 0, []), (613, 1, .iaload, 0, 0, 0, []), (614, 3, .invokevirtual 64, 25, 0, 0, []), (617, 3, .if_icmp .eq 748, 1365, 0, 0, []), (620, 1, .iconst 0, 0, 0, 0, []), (621, 1, .ireturn, 0, 0, 0, []), (622, 1, .aload_n 1, 1, 0, 0, []), (623, 1, .aload_n 0, 0, 0, 0, []), (624, 1, .iload_n 3, 3, 0, 0, []), (625, 1, .iconst 1, 1, 0, 0, [])]
def pL_law_9 : List xE := [(626, 1, .iadd, 0, 0, 0, []), (627, 1, .iaload, 0, 0, 0, []), (628, 1, .aload_n 0, 0, 0, 0, []), (629, 1, .iload_n 3, 3, 0, 0, []), (630, 1, .iconst 2, 2, 0, 0, []), (631, 1, .iadd, 0, 0, 0, []), (632, 1, .iaload, 0, 0, 0, []), (633, 3, .invokevirtual 65, 26, 0, 0, []), (636, 1, .aload_n 2, 2, 0, 0, []), (637, 1, .aload_n 0, 0, 0, 0, []), (638, 1, .iload_n 3, 3, 0, 0, []), (639, 1, .iconst 1, 1, 0, 0, []), (640, 1, .iadd, 0, 0, 0, []), (641, 1, .iaload, 0, 0, 0, []), (642, 1, .aload_n 0, 0, 0, 0, []), (643, 1, .iload_n 3, 3, 0, 0, []), (644, 1, .iconst 2, 2, 0, 0, []), (645, 1, .iadd, 0, 0, 0, []), (646, 1, .iaload, 0, 0, 0, []), (647, 3, .invokevirtual 68, 27, 0, 0, []), (650, 3, .if_icmp .eq 715, 1365, 0, 0, []), (653, 1, .iconst 0, 0, 0, 0, []), (654, 1, .ireturn, 0, 0, 0, []), (655, 1, .aload_n 1, 1, 0, 0, []), (656, 3, .invokevirtual 69, 28, 0, 0, []), (659, 1, .aload_n 2, 2, 0, 0, []), (660, 3, .invokevirtual 73, 29, 0, 0, []), (663, 3, .if_icmp .eq 702, 1365, 0, 0, []), (666, 1, .iconst 0, 0, 0, 0, []), (667, 1, .ireturn, 0, 0, 0, []), (668, 1, .aload_n 1, 1, 0, 0, []), (669, 1, .aload_n 0, 0, 0, 0, []), (670, 1, .iload_n 3, 3, 0, 0, []), (671, 1, .iconst 1, 1, 0, 0, []), (672, 1, .iadd, 0, 0, 0, []), (673, 1, .iaload, 0, 0, 0, []), (674, 1, .aload_n 0, 0, 0, 0, []), (675, 1, .iload_n 3, 3, 0, 0, []), (676, 1, .iconst 2, 2, 0, 0, []), (677, 1, .iadd, 0, 0, 0, [])]
def pL_law_10 : List xE := [(678, 1, .iaload, 0, 0, 0, []), (679, 3, .invokevirtual 74, 30, 0, 0, []), (682, 1, .aload_n 2, 2, 0, 0, []), (683, 1, .aload_n 0, 0, 0, 0, []), (684, 1, .iload_n 3, 3, 0, 0, []), (685, 1, .iconst 1, 1, 0, 0, []), (686, 1, .iadd, 0, 0, 0, []), (687, 1, .iaload, 0, 0, 0, []), (688, 1, .aload_n 0, 0, 0, 0, []), (689, 1, .iload_n 3, 3, 0, 0, []), (690, 1, .iconst 2, 2, 0, 0, []), (691, 1, .iadd, 0, 0, 0, []), (692, 1, .iaload, 0, 0, 0, []), (693, 3, .invokevirtual 77, 31, 0, 0, []), (696, 3, .if_icmp .eq 669, 1365, 0, 0, []), (699, 1, .iconst 0, 0, 0, 0, []), (700, 1, .ireturn, 0, 0, 0, []), (701, 1, .aload_n 1, 1, 0, 0, []), (702, 1, .aload_n 0, 0, 0, 0, []), (703, 1, .iload_n 3, 3, 0, 0, []), (704, 1, .iconst 1, 1, 0, 0, []), (705, 1, .iadd, 0, 0, 0, []), (706, 1, .iaload, 0, 0, 0, []), (707, 1, .aload_n 0, 0, 0, 0, []), (708, 1, .iload_n 3, 3, 0, 0, []), (709, 1, .iconst 2, 2, 0, 0, []), (710, 1, .iadd, 0, 0, 0, []), (711, 1, .iaload, 0, 0, 0, []), (712, 3, .invokevirtual 78, 32, 0, 0, []), (715, 1, .aload_n 2, 2, 0, 0, []), (716, 1, .aload_n 0, 0, 0, 0, []), (717, 1, .iload_n 3, 3, 0, 0, []), (718, 1, .iconst 1, 1, 0, 0, []), (719, 1, .iadd, 0, 0, 0, []), (720, 1, .iaload, 0, 0, 0, []), (721, 1, .aload_n 0, 0, 0, 0, []), (722, 1, .iload_n 3, 3, 0, 0, []), (723, 1, .iconst 2, 2, 0, 0, []), (724, 1, .iadd, 0, 0, 0, []), (725, 1, .iaload, 0, 0, 0, [])]
def pL_law_11 : List xE := [(726, 3, .invokevirtual 81, 33, 0, 0, []), (729, 3, .if_icmp .eq 636, 1365, 0, 0, []), (732, 1, .iconst 0, 0, 0, 0, []), (733, 1, .ireturn, 0, 0, 0, []), (734, 1, .aload_n 1, 1, 0, 0, []), (735, 1, .aload_n 0, 0, 0, 0, []), (736, 1, .iload_n 3, 3, 0, 0, []), (737, 1, .iconst 1, 1, 0, 0, []), (738, 1, .iadd, 0, 0, 0, []), (739, 1, .iaload, 0, 0, 0, []), (740, 3, .invokevirtual 82, 34, 0, 0, []), (743, 1, .aload_n 2, 2, 0, 0, []), (744, 1, .aload_n 0, 0, 0, 0, []), (745, 1, .iload_n 3, 3, 0, 0, []), (746, 1, .iconst 1, 1, 0, 0, []), (747, 1, .iadd, 0, 0, 0, []), (748, 1, .iaload, 0, 0, 0, []), (749, 3, .invokevirtual 85, 35, 0, 0, []), (752, 3, .if_icmp .eq 613, 1365, 0, 0, []), (755, 1, .iconst 0, 0, 0, 0, []), (756, 1, .ireturn, 0, 0, 0, []), (757, 1, .aload_n 1, 1, 0, 0, []), (758, 1, .aload_n 0, 0, 0, 0, []), (759, 1, .iload_n 3, 3, 0, 0, []), (760, 1, .iconst 1, 1, 0, 0, []), (761, 1, .iadd, 0, 0, 0, []), (762, 1, .iaload, 0, 0, 0, []), (763, 3, .invokevirtual 86, 36, 0, 0, []), (766, 1, .aload_n 2, 2, 0, 0, []), (767, 1, .aload_n 0, 0, 0, 0, []), (768, 1, .iload_n 3, 3, 0, 0, []), (769, 1, .iconst 1, 1, 0, 0, []), (770, 1, .iadd, 0, 0, 0, []), (771, 1, .iaload, 0, 0, 0, []), (772, 3, .invokevirtual 89, 37, 0, 0, []), (775, 3, .if_icmp .eq 590, 1365, 0, 0, []), (778, 1, .iconst 0, 0, 0, 0, []), (779, 1, .ireturn, 0, 0, 0, []), (780, 1, .aload_n 1, 1, 0, 0, []), (781, 1, .aload_n 0, 0, 0, 0, [])]
def pL_law_12 : List xE := [(782, 1, .iload_n 3, 3, 0, 0, []), (783, 1, .iconst 1, 1, 0, 0, []), (784, 1, .iadd, 0, 0, 0, []), (785, 1, .iaload, 0, 0, 0, []), (786, 3, .invokevirtual 90, 38, 0, 0, []), (789, 1, .aload_n 2, 2, 0, 0, []), (790, 1, .aload_n 0, 0, 0, 0, []), (791, 1, .iload_n 3, 3, 0, 0, []), (792, 1, .iconst 1, 1, 0, 0, []), (793, 1, .iadd, 0, 0, 0, []), (794, 1, .iaload, 0, 0, 0, []), (795, 3, .invokevirtual 93, 39, 0, 0, []), (798, 3, .if_icmp .eq 567, 1365, 0, 0, []), (801, 1, .iconst 0, 0, 0, 0, []), (802, 1, .ireturn, 0, 0, 0, []), (803, 1, .aload_n 1, 1, 0, 0, []), (804, 1, .aload_n 0, 0, 0, 0, []), (805, 1, .iload_n 3, 3, 0, 0, []), (806, 1, .iconst 1, 1, 0, 0, []), (807, 1, .iadd, 0, 0, 0, []), (808, 1, .iaload, 0, 0, 0, []), (809, 1, .aload_n 0, 0, 0, 0, []), (810, 1, .iload_n 3, 3, 0, 0, []), (811, 1, .iconst 2, 2, 0, 0, []), (812, 1, .iadd, 0, 0, 0, []), (813, 1, .iaload, 0, 0, 0, []), (814, 3, .invokevirtual 94, 40, 0, 0, []), (817, 1, .aload_n 2, 2, 0, 0, []), (818, 1, .aload_n 0, 0, 0, 0, []), (819, 1, .iload_n 3, 3, 0, 0, []), (820, 1, .iconst 1, 1, 0, 0, []), (821, 1, .iadd, 0, 0, 0, []), (822, 1, .iaload, 0, 0, 0, []), (823, 1, .aload_n 0, 0, 0, 0, []), (824, 1, .iload_n 3, 3, 0, 0, []), (825, 1, .iconst 2, 2, 0, 0, []), (826, 1, .iadd, 0, 0, 0, []), (827, 1, .iaload, 0, 0, 0, []), (828, 3, .invokevirtual 97, 41, 0, 0, []), (831, 3, .if_icmp .eq 534, 1365, 0, 0, [])]
def pL_law_13 : List xE := [(834, 1, .iconst 0, 0, 0, 0, []), (835, 1, .ireturn, 0, 0, 0, []), (836, 1, .aload_n 1, 1, 0, 0, []), (837, 1, .aload_n 0, 0, 0, 0, []), (838, 1, .iload_n 3, 3, 0, 0, []), (839, 1, .iconst 1, 1, 0, 0, []), (840, 1, .iadd, 0, 0, 0, []), (841, 1, .iaload, 0, 0, 0, []), (842, 3, .invokevirtual 98, 42, 0, 0, []), (845, 1, .aload_n 2, 2, 0, 0, []), (846, 1, .aload_n 0, 0, 0, 0, []), (847, 1, .iload_n 3, 3, 0, 0, []), (848, 1, .iconst 1, 1, 0, 0, []), (849, 1, .iadd, 0, 0, 0, []), (850, 1, .iaload, 0, 0, 0, []), (851, 3, .invokevirtual 101, 43, 0, 0, []), (854, 3, .if_icmp .eq 511, 1365, 0, 0, []), (857, 1, .iconst 0, 0, 0, 0, []), (858, 1, .ireturn, 0, 0, 0, []), (859, 1, .aload_n 1, 1, 0, 0, []), (860, 1, .aload_n 0, 0, 0, 0, []), (861, 1, .iload_n 3, 3, 0, 0, []), (862, 1, .iconst 1, 1, 0, 0, []), (863, 1, .iadd, 0, 0, 0, []), (864, 1, .iaload, 0, 0, 0, []), (865, 1, .aload_n 0, 0, 0, 0, []), (866, 1, .iload_n 3, 3, 0, 0, []), (867, 1, .iconst 2, 2, 0, 0, []), (868, 1, .iadd, 0, 0, 0, []), (869, 1, .iaload, 0, 0, 0, []), (870, 3, .invokevirtual 102, 44, 0, 0, []), (873, 1, .aload_n 2, 2, 0, 0, []), (874, 1, .aload_n 0, 0, 0, 0, []), (875, 1, .iload_n 3, 3, 0, 0, []), (876, 1, .iconst 1, 1, 0, 0, []), (877, 1, .iadd, 0, 0, 0, []), (878, 1, .iaload, 0, 0, 0, []), (879, 1, .aload_n 0, 0, 0, 0, []), (880, 1, .iload_n 3, 3, 0, 0, []), (881, 1, .iconst 2, 2, 0, 0, [])]
def pL_law_14 : List xE := [(882, 1, .iadd, 0, 0, 0, []), (883, 1, .iaload, 0, 0, 0, []), (884, 3, .invokevirtual 105, 45, 0, 0, []), (887, 3, .if_icmp .eq 478, 1365, 0, 0, []), (890, 1, .iconst 0, 0, 0, 0, []), (891, 1, .ireturn, 0, 0, 0, []), (892, 1, .aload_n 1, 1, 0, 0, []), (893, 3, .invokevirtual 106, 46, 0, 0, []), (896, 1, .aload_n 2, 2, 0, 0, []), (897, 3, .invokevirtual 109, 47, 0, 0, []), (900, 3, .if_icmp .eq 465, 1365, 0, 0, []), (903, 1, .iconst 0, 0, 0, 0, []), (904, 1, .ireturn, 0, 0, 0, []), (905, 1, .aload_n 1, 1, 0, 0, []), (906, 3, .invokevirtual 110, 48, 0, 0, []), (909, 1, .aload_n 2, 2, 0, 0, []), (910, 3, .invokevirtual 113, 49, 0, 0, []), (913, 3, .if_icmp .eq 452, 1365, 0, 0, []), (916, 1, .iconst 0, 0, 0, 0, []), (917, 1, .ireturn, 0, 0, 0, []), (918, 1, .aload_n 1, 1, 0, 0, []), (919, 1, .aload_n 0, 0, 0, 0, []), (920, 1, .iload_n 3, 3, 0, 0, []), (921, 1, .iconst 1, 1, 0, 0, []), (922, 1, .iadd, 0, 0, 0, []), (923, 1, .iaload, 0, 0, 0, []), (924, 1, .aload_n 0, 0, 0, 0, []), (925, 1, .iload_n 3, 3, 0, 0, []), (926, 1, .iconst 2, 2, 0, 0, []), (927, 1, .iadd, 0, 0, 0, []), (928, 1, .iaload, 0, 0, 0, []), (929, 3, .invokevirtual 114, 50, 0, 0, []), (932, 1, .aload_n 2, 2, 0, 0, []), (933, 1, .aload_n 0, 0, 0, 0, []), (934, 1, .iload_n 3, 3, 0, 0, []), (935, 1, .iconst 1, 1, 0, 0, []), (936, 1, .iadd, 0, 0, 0, []), (937, 1, .iaload, 0, 0, 0, []), (938, 1, .aload_n 0, 0, 0, 0, []), (939, 1, .iload_n 3, 3, 0, 0, [])]
def pL_law_15 : List xE := [(940, 1, .iconst 2, 2, 0, 0, []), (941, 1, .iadd, 0, 0, 0, []), (942, 1, .iaload, 0, 0, 0, []), (943, 3, .invokevirtual 117, 51, 0, 0, []), (946, 3, .if_icmp .eq 419, 1365, 0, 0, []), (949, 1, .iconst 0, 0, 0, 0, []), (950, 1, .ireturn, 0, 0, 0, []), (951, 1, .aload_n 1, 1, 0, 0, []), (952, 1, .aload_n 0, 0, 0, 0, []), (953, 1, .iload_n 3, 3, 0, 0, []), (954, 1, .iconst 1, 1, 0, 0, []), (955, 1, .iadd, 0, 0, 0, []), (956, 1, .iaload, 0, 0, 0, []), (957, 3, .invokevirtual 118, 52, 0, 0, []), (960, 1, .aload_n 2, 2, 0, 0, []), (961, 1, .aload_n 0, 0, 0, 0, []), (962, 1, .iload_n 3, 3, 0, 0, []), (963, 1, .iconst 1, 1, 0, 0, []), (964, 1, .iadd, 0, 0, 0, []), (965, 1, .iaload, 0, 0, 0, []), (966, 3, .invokevirtual 121, 53, 0, 0, []), (969, 3, .if_icmp .eq 396, 1365, 0, 0, []), (972, 1, .iconst 0, 0, 0, 0, []), (973, 1, .ireturn, 0, 0, 0, []), (974, 1, .aload_n 1, 1, 0, 0, []), (975, 1, .aload_n 0, 0, 0, 0, []), (976, 1, .iload_n 3, 3, 0, 0, []), (977, 1, .iconst 1, 1, 0, 0, []), (978, 1, .iadd, 0, 0, 0, []), (979, 1, .iaload, 0, 0, 0, []), (980, 1, .aload_n 0, 0, 0, 0, []), (981, 1, .iload_n 3, 3, 0, 0, []), (982, 1, .iconst 2, 2, 0, 0, []), (983, 1, .iadd, 0, 0, 0, []), (984, 1, .iaload, 0, 0, 0, []), (985, 1, .aload_n 0, 0, 0, 0, []), (986, 1, .iload_n 3, 3, 0, 0, []), (987, 1, .iconst 3, 3, 0, 0, []), (988, 1, .iadd, 0, 0, 0, []), (989, 1, .iaload, 0, 0, 0, [])]
def pL_law_16 : List xE := [(990, 3, .invokevirtual 122, 54, 0, 0, []), (993, 1, .aload_n 2, 2, 0, 0, []), (994, 1, .aload_n 0, 0, 0, 0, []), (995, 1, .iload_n 3, 3, 0, 0, []), (996, 1, .iconst 1, 1, 0, 0, []), (997, 1, .iadd, 0, 0, 0, []), (998, 1, .iaload, 0, 0, 0, []), (999, 1, .aload_n 0, 0, 0, 0, []), (1000, 1, .iload_n 3, 3, 0, 0, []), (1001, 1, .iconst 2, 2, 0, 0, []), (1002, 1, .iadd, 0, 0, 0, []), (1003, 1, .iaload, 0, 0, 0, []), (1004, 1, .aload_n 0, 0, 0, 0, []), (1005, 1, .iload_n 3, 3, 0, 0, []), (1006, 1, .iconst 3, 3, 0, 0, []), (1007, 1, .iadd, 0, 0, 0, []), (1008, 1, .iaload, 0, 0, 0, []), (1009, 3, .invokevirtual 125, 55, 0, 0, []), (1012, 3, .if_icmp .eq 353, 1365, 0, 0, []), (1015, 1, .iconst 0, 0, 0, 0, []), (1016, 1, .ireturn, 0, 0, 0, []), (1017, 1, .aload_n 1, 1, 0, 0, []), (1018, 3, .invokevirtual 126, 56, 0, 0, []), (1021, 1, .aload_n 2, 2, 0, 0, []), (1022, 3, .invokevirtual 129, 57, 0, 0, []), (1025, 3, .if_icmp .eq 340, 1365, 0, 0, []), (1028, 1, .iconst 0, 0, 0, 0, []), (1029, 1, .ireturn, 0, 0, 0, []), (1030, 1, .aload_n 1, 1, 0, 0, []), (1031, 1, .aload_n 0, 0, 0, 0, []), (1032, 1, .iload_n 3, 3, 0, 0, []), (1033, 1, .iconst 1, 1, 0, 0, []), (1034, 1, .iadd, 0, 0, 0, []), (1035, 1, .iaload, 0, 0, 0, []), (1036, 1, .aload_n 0, 0, 0, 0, []), (1037, 1, .iload_n 3, 3, 0, 0, []), (1038, 1, .iconst 2, 2, 0, 0, []), (1039, 1, .iadd, 0, 0, 0, []), (1040, 1, .iaload, 0, 0, 0, []), (1041, 3, .invokevirtual 130, 58, 0, 0, [])]
def pL_law_17 : List xE := [(1044, 1, .aload_n 2, 2, 0, 0, []), (1045, 1, .aload_n 0, 0, 0, 0, []), (1046, 1, .iload_n 3, 3, 0, 0, []), (1047, 1, .iconst 1, 1, 0, 0, []), (1048, 1, .iadd, 0, 0, 0, []), (1049, 1, .iaload, 0, 0, 0, []), (1050, 1, .aload_n 0, 0, 0, 0, []), (1051, 1, .iload_n 3, 3, 0, 0, []), (1052, 1, .iconst 2, 2, 0, 0, []), (1053, 1, .iadd, 0, 0, 0, []), (1054, 1, .iaload, 0, 0, 0, []), (1055, 3, .invokevirtual 133, 59, 0, 0, []), (1058, 3, .if_icmp .eq 307, 1365, 0, 0, []), (1061, 1, .iconst 0, 0, 0, 0, []), (1062, 1, .ireturn, 0, 0, 0, []), (1063, 1, .aload_n 1, 1, 0, 0, []), (1064, 1, .aload_n 0, 0, 0, 0, []), (1065, 1, .iload_n 3, 3, 0, 0, []), (1066, 1, .iconst 1, 1, 0, 0, []), (1067, 1, .iadd, 0, 0, 0, []), (1068, 1, .iaload, 0, 0, 0, []), (1069, 1, .aload_n 0, 0, 0, 0, []), (1070, 1, .iload_n 3, 3, 0, 0, []), (1071, 1, .iconst 2, 2, 0, 0, []), (1072, 1, .iadd, 0, 0, 0, []), (1073, 1, .iaload, 0, 0, 0, []), (1074, 3, .invokevirtual 134, 60, 0, 0, []), (1077, 1, .aload_n 2, 2, 0, 0, []), (1078, 1, .aload_n 0, 0, 0, 0, []), (1079, 1, .iload_n 3, 3, 0, 0, []), (1080, 1, .iconst 1, 1, 0, 0, []), (1081, 1, .iadd, 0, 0, 0, []), (1082, 1, .iaload, 0, 0, 0, []), (1083, 1, .aload_n 0, 0, 0, 0, []), (1084, 1, .iload_n 3, 3, 0, 0, []), (1085, 1, .iconst 2, 2, 0, 0, []), (1086, 1, .iadd, 0, 0, 0, []), (1087, 1, .iaload, 0, 0, 0, []), (1088, 3, .invokevirtual 137, 61, 0, 0, []), (1091, 3, .if_icmp .eq 274, 1365, 0, 0, [])]
def pL_law_18 : List xE := [(1094, 1, .iconst 0, 0, 0, 0, []), (1095, 1, .ireturn, 0, 0, 0, []), (1096, 1, .aload_n 1, 1, 0, 0, []), (1097, 1, .aload_n 0, 0, 0, 0, []), (1098, 1, .iload_n 3, 3, 0, 0, []), (1099, 1, .iconst 1, 1, 0, 0, []), (1100, 1, .iadd, 0, 0, 0, []), (1101, 1, .iaload, 0, 0, 0, []), (1102, 1, .aload_n 0, 0, 0, 0, []), (1103, 1, .iload_n 3, 3, 0, 0, []), (1104, 1, .iconst 2, 2, 0, 0, []), (1105, 1, .iadd, 0, 0, 0, []), (1106, 1, .iaload, 0, 0, 0, []), (1107, 3, .invokevirtual 138, 62, 0, 0, []), (1110, 1, .aload_n 2, 2, 0, 0, []), (1111, 1, .aload_n 0, 0, 0, 0, []), (1112, 1, .iload_n 3, 3, 0, 0, []), (1113, 1, .iconst 1, 1, 0, 0, []), (1114, 1, .iadd, 0, 0, 0, []), (1115, 1, .iaload, 0, 0, 0, []), (1116, 1, .aload_n 0, 0, 0, 0, []), (1117, 1, .iload_n 3, 3, 0, 0, []), (1118, 1, .iconst 2, 2, 0, 0, []), (1119, 1, .iadd, 0, 0, 0, []), (1120, 1, .iaload, 0, 0, 0, []), (1121, 3, .invokevirtual 141, 63, 0, 0, []), (1124, 3, .if_icmp .eq 241, 1365, 0, 0, []), (1127, 1, .iconst 0, 0, 0, 0, []), (1128, 1, .ireturn, 0, 0, 0, []), (1129, 1, .aload_n 1, 1, 0, 0, []), (1130, 1, .aload_n 0, 0, 0, 0, []), (1131, 1, .iload_n 3, 3, 0, 0, []), (1132, 1, .iconst 1, 1, 0, 0, []), (1133, 1, .iadd, 0, 0, 0, []), (1134, 1, .iaload, 0, 0, 0, []), (1135, 1, .aload_n 0, 0, 0, 0, []), (1136, 1, .iload_n 3, 3, 0, 0, []), (1137, 1, .iconst 2, 2, 0, 0, []), (1138, 1, .iadd, 0, 0, 0, []), (1139, 1, .iaload, 0, 0, 0, [])]
def pL_law_19 : List xE := [(1140, 3, .invokevirtual 142, 64, 0, 0, []), (1143, 1, .aload_n 2, 2, 0, 0, []), (1144, 1, .aload_n 0, 0, 0, 0, []), (1145, 1, .iload_n 3, 3, 0, 0, []), (1146, 1, .iconst 1, 1, 0, 0, []), (1147, 1, .iadd, 0, 0, 0, []), (1148, 1, .iaload, 0, 0, 0, []), (1149, 1, .aload_n 0, 0, 0, 0, []), (1150, 1, .iload_n 3, 3, 0, 0, []), (1151, 1, .iconst 2, 2, 0, 0, []), (1152, 1, .iadd, 0, 0, 0, []), (1153, 1, .iaload, 0, 0, 0, []), (1154, 3, .invokevirtual 145, 65, 0, 0, []), (1157, 3, .if_icmp .eq 208, 1365, 0, 0, []), (1160, 1, .iconst 0, 0, 0, 0, []), (1161, 1, .ireturn, 0, 0, 0, []), (1162, 1, .aload_n 1, 1, 0, 0, []), (1163, 1, .aload_n 0, 0, 0, 0, []), (1164, 1, .iload_n 3, 3, 0, 0, []), (1165, 1, .iconst 1, 1, 0, 0, []), (1166, 1, .iadd, 0, 0, 0, []), (1167, 1, .iaload, 0, 0, 0, []), (1168, 1, .aload_n 0, 0, 0, 0, []), (1169, 1, .iload_n 3, 3, 0, 0, []), (1170, 1, .iconst 2, 2, 0, 0, []), (1171, 1, .iadd, 0, 0, 0, []), (1172, 1, .iaload, 0, 0, 0, []), (1173, 3, .invokevirtual 146, 66, 0, 0, []), (1176, 1, .aload_n 2, 2, 0, 0, []), (1177, 1, .aload_n 0, 0, 0, 0, []), (1178, 1, .iload_n 3, 3, 0, 0, []), (1179, 1, .iconst 1, 1, 0, 0, []), (1180, 1, .iadd, 0, 0, 0, []), (1181, 1, .iaload, 0, 0, 0, []), (1182, 1, .aload_n 0, 0, 0, 0, []), (1183, 1, .iload_n 3, 3, 0, 0, []), (1184, 1, .iconst 2, 2, 0, 0, []), (1185, 1, .iadd, 0, 0, 0, []), (1186, 1, .iaload, 0, 0, 0, []), (1187, 3, .invokevirtual 149, 67, 0, 0, [])]
def pL_law_20 : List xE := [(1190, 3, .if_icmp .eq 175, 1365, 0, 0, []), (1193, 1, .iconst 0, 0, 0, 0, []), (1194, 1, .ireturn, 0, 0, 0, []), (1195, 1, .aload_n 1, 1, 0, 0, []), (1196, 1, .aload_n 0, 0, 0, 0, []), (1197, 1, .iload_n 3, 3, 0, 0, []), (1198, 1, .iconst 1, 1, 0, 0, []), (1199, 1, .iadd, 0, 0, 0, []), (1200, 1, .iaload, 0, 0, 0, []), (1201, 3, .invokevirtual 150, 68, 0, 0, []), (1204, 1, .aload_n 2, 2, 0, 0, []), (1205, 1, .aload_n 0, 0, 0, 0, []), (1206, 1, .iload_n 3, 3, 0, 0, []), (1207, 1, .iconst 1, 1, 0, 0, []), (1208, 1, .iadd, 0, 0, 0, []), (1209, 1, .iaload, 0, 0, 0, []), (1210, 3, .invokevirtual 153, 69, 0, 0, []), (1213, 3, .if_icmp .eq 152, 1365, 0, 0, []), (1216, 1, .iconst 0, 0, 0, 0, []), (1217, 1, .ireturn, 0, 0, 0, []), (1218, 1, .aload_n 1, 1, 0, 0, []), (1219, 1, .aload_n 0, 0, 0, 0, []), (1220, 1, .iload_n 3, 3, 0, 0, []), (1221, 1, .iconst 1, 1, 0, 0, []), (1222, 1, .iadd, 0, 0, 0, []), (1223, 1, .iaload, 0, 0, 0, []), (1224, 1, .aload_n 0, 0, 0, 0, []), (1225, 1, .iload_n 3, 3, 0, 0, []), (1226, 1, .iconst 2, 2, 0, 0, []), (1227, 1, .iadd, 0, 0, 0, []), (1228, 1, .iaload, 0, 0, 0, []), (1229, 3, .invokevirtual 154, 70, 0, 0, []), (1232, 1, .aload_n 2, 2, 0, 0, []), (1233, 1, .aload_n 0, 0, 0, 0, []), (1234, 1, .iload_n 3, 3, 0, 0, []), (1235, 1, .iconst 1, 1, 0, 0, []), (1236, 1, .iadd, 0, 0, 0, []), (1237, 1, .iaload, 0, 0, 0, []), (1238, 1, .aload_n 0, 0, 0, 0, []), (1239, 1, .iload_n 3, 3, 0, 0, [])]
def pL_law_21 : List xE := [(1240, 1, .iconst 2, 2, 0, 0, []), (1241, 1, .iadd, 0, 0, 0, []), (1242, 1, .iaload, 0, 0, 0, []), (1243, 3, .invokevirtual 157, 71, 0, 0, []), (1246, 3, .if_icmp .eq 119, 1365, 0, 0, []), (1249, 1, .iconst 0, 0, 0, 0, []), (1250, 1, .ireturn, 0, 0, 0, []), (1251, 1, .aload_n 1, 1, 0, 0, []), (1252, 3, .invokevirtual 158, 72, 0, 0, []), (1255, 1, .aload_n 2, 2, 0, 0, []), (1256, 3, .invokevirtual 161, 73, 0, 0, []), (1259, 3, .if_icmp .eq 106, 1365, 0, 0, []), (1262, 1, .iconst 0, 0, 0, 0, []), (1263, 1, .ireturn, 0, 0, 0, []), (1264, 1, .aload_n 1, 1, 0, 0, []), (1265, 3, .invokevirtual 162, 74, 0, 0, []), (1268, 1, .aload_n 2, 2, 0, 0, []), (1269, 3, .invokevirtual 166, 75, 0, 0, []), (1272, 1, .lcmp, 0, 0, 0, []), (1273, 3, .ifCond .eq 92, 1365, 0, 0, []), (1276, 1, .iconst 0, 0, 0, 0, []), (1277, 1, .ireturn, 0, 0, 0, []), (1278, 1, .aload_n 1, 1, 0, 0, []), (1279, 3, .invokevirtual 167, 76, 0, 0, []), (1282, 1, .aload_n 2, 2, 0, 0, []), (1283, 3, .invokevirtual 170, 77, 0, 0, []), (1286, 1, .lcmp, 0, 0, 0, []), (1287, 3, .ifCond .eq 78, 1365, 0, 0, []), (1290, 1, .iconst 0, 0, 0, 0, []), (1291, 1, .ireturn, 0, 0, 0, []), (1292, 1, .aload_n 1, 1, 0, 0, []), (1293, 1, .aload_n 0, 0, 0, 0, []), (1294, 1, .iload_n 3, 3, 0, 0, []), (1295, 1, .iconst 1, 1, 0, 0, []), (1296, 1, .iadd, 0, 0, 0, []), (1297, 1, .iaload, 0, 0, 0, []), (1298, 3, .invokevirtual 171, 78, 0, 0, []), (1301, 1, .aload_n 2, 2, 0, 0, []), (1302, 1, .aload_n 0, 0, 0, 0, []), (1303, 1, .iload_n 3, 3, 0, 0, [])]
def pL_law_22 : List xE := [(1304, 1, .iconst 1, 1, 0, 0, []), (1305, 1, .iadd, 0, 0, 0, []), (1306, 1, .iaload, 0, 0, 0, []), (1307, 3, .invokevirtual 174, 79, 0, 0, []), (1310, 3, .if_icmp .eq 55, 1365, 0, 0, []), (1313, 1, .iconst 0, 0, 0, 0, []), (1314, 1, .ireturn, 0, 0, 0, []), (1315, 1, .aload_n 1, 1, 0, 0, []), (1316, 3, .invokevirtual 175, 80, 0, 0, []), (1319, 1, .aload_n 2, 2, 0, 0, []), (1320, 3, .invokevirtual 178, 81, 0, 0, []), (1323, 3, .if_icmp .eq 42, 1365, 0, 0, []), (1326, 1, .iconst 0, 0, 0, 0, []), (1327, 1, .ireturn, 0, 0, 0, []), (1328, 1, .aload_n 1, 1, 0, 0, []), (1329, 1, .aload_n 0, 0, 0, 0, []), (1330, 1, .iload_n 3, 3, 0, 0, []), (1331, 1, .iconst 1, 1, 0, 0, []), (1332, 1, .iadd, 0, 0, 0, []), (1333, 1, .iaload, 0, 0, 0, []), (1334, 3, .invokevirtual 179, 82, 0, 0, []), (1337, 1, .aload_n 2, 2, 0, 0, []), (1338, 1, .aload_n 0, 0, 0, 0, []), (1339, 1, .iload_n 3, 3, 0, 0, []), (1340, 1, .iconst 1, 1, 0, 0, []), (1341, 1, .iadd, 0, 0, 0, []), (1342, 1, .iaload, 0, 0, 0, []), (1343, 3, .invokevirtual 182, 83, 0, 0, []), (1346, 3, .if_icmp .eq 19, 1365, 0, 0, []), (1349, 1, .iconst 0, 0, 0, 0, []), (1350, 1, .ireturn, 0, 0, 0, []), (1351, 1, .aload_n 1, 1, 0, 0, []), (1352, 3, .invokevirtual 183, 84, 0, 0, []), (1355, 1, .aload_n 2, 2, 0, 0, []), (1356, 3, .invokevirtual 186, 85, 0, 0, []), (1359, 1, .lcmp, 0, 0, 0, []), (1360, 3, .ifCond .eq 5, 1365, 0, 0, []), (1363, 1, .iconst 0, 0, 0, 0, []), (1364, 1, .ireturn, 0, 0, 0, []), (1365, 3, .iinc 3 6, 3, 6, 0, [])]
def pL_law_23 : List xE := [(1368, 3, .goto (-1350), 18, 0, 0, []), (1371, 1, .iconst 1, 1, 0, 0, []), (1372, 1, .ireturn, 0, 0, 0, [])]
def pL_law : List xE := pL_law_0 ++ (pL_law_1 ++ (pL_law_2 ++ (pL_law_3 ++ (pL_law_4 ++ (pL_law_5 ++ (pL_law_6 ++ (pL_law_7 ++ (pL_law_8 ++ (pL_law_9 ++ (pL_law_10 ++ (pL_law_11 ++ (pL_law_12 ++ (pL_law_13 ++ (pL_law_14 ++ (pL_law_15 ++ (pL_law_16 ++ (pL_law_17 ++ (pL_law_18 ++ (pL_law_19 ++ (pL_law_20 ++ (pL_law_21 ++ (pL_law_22 ++ (pL_law_23)))))))))))))))))))))))
def mL_law : xM := (yL_law, cL_law, 4, some .boolean, 9, 1, 0, 9, 211, 48, pL_law)
theorem dL_law_0 : xDec cL_law pL_law_0 = true := by decide +kernel
theorem dL_law_1 : xDec cL_law pL_law_1 = true := by decide +kernel
theorem dL_law_2 : xDec cL_law pL_law_2 = true := by decide +kernel
theorem dL_law_3 : xDec cL_law pL_law_3 = true := by decide +kernel
theorem dL_law_4 : xDec cL_law pL_law_4 = true := by decide +kernel
theorem dL_law_5 : xDec cL_law pL_law_5 = true := by decide +kernel
theorem dL_law_6 : xDec cL_law pL_law_6 = true := by decide +kernel
theorem dL_law_7 : xDec cL_law pL_law_7 = true := by decide +kernel
theorem dL_law_8 : xDec cL_law pL_law_8 = true := by decide +kernel
theorem dL_law_9 : xDec cL_law pL_law_9 = true := by decide +kernel
theorem dL_law_10 : xDec cL_law pL_law_10 = true := by decide +kernel
theorem dL_law_11 : xDec cL_law pL_law_11 = true := by decide +kernel
theorem dL_law_12 : xDec cL_law pL_law_12 = true := by decide +kernel
theorem dL_law_13 : xDec cL_law pL_law_13 = true := by decide +kernel
theorem dL_law_14 : xDec cL_law pL_law_14 = true := by decide +kernel
theorem dL_law_15 : xDec cL_law pL_law_15 = true := by decide +kernel
theorem dL_law_16 : xDec cL_law pL_law_16 = true := by decide +kernel
theorem dL_law_17 : xDec cL_law pL_law_17 = true := by decide +kernel
theorem dL_law_18 : xDec cL_law pL_law_18 = true := by decide +kernel
theorem dL_law_19 : xDec cL_law pL_law_19 = true := by decide +kernel
theorem dL_law_20 : xDec cL_law pL_law_20 = true := by decide +kernel
theorem dL_law_21 : xDec cL_law pL_law_21 = true := by decide +kernel
theorem dL_law_22 : xDec cL_law pL_law_22 = true := by decide +kernel
theorem dL_law_23 : xDec cL_law pL_law_23 = true := by decide +kernel
theorem xDec_app {cc : ByteArray} {a b : List xE} (ha : xDec cc a = true) (hb : xDec cc b = true) : xDec cc (a ++ b) = true := by
  unfold xDec at *
  rw [List.all_append, ha, hb]
  rfl
theorem dL_law : xDec cL_law pL_law = true := xDec_app dL_law_0 (xDec_app dL_law_1 (xDec_app dL_law_2 (xDec_app dL_law_3 (xDec_app dL_law_4 (xDec_app dL_law_5 (xDec_app dL_law_6 (xDec_app dL_law_7 (xDec_app dL_law_8 (xDec_app dL_law_9 (xDec_app dL_law_10 (xDec_app dL_law_11 (xDec_app dL_law_12 (xDec_app dL_law_13 (xDec_app dL_law_14 (xDec_app dL_law_15 (xDec_app dL_law_16 (xDec_app dL_law_17 (xDec_app dL_law_18 (xDec_app dL_law_19 (xDec_app dL_law_20 (xDec_app dL_law_21 (xDec_app dL_law_22 (dL_law_23)))))))))))))))))))))))
end
