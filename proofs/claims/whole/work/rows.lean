section
-- ===== PART A: goes FIRST, ahead of the names: the tables' words, and 'selects' of the private methods out of them =====
/-- a private method of a class that the tables say can be made, by its rows of tables_1 -/
def lw_okq (q : MethodName × Nat) : Prop := (q.1.cls ≠ "java/lang/invoke/MethodHandle" ∧ q.1.cls ≠ "java/lang/invoke/VarHandle") ∧ Cond.instantiable q.1.cls q.2 ∈ tables_1 ∧ Cond.privateMethod q.1 ∈ tables_1 ∧ Cond.instanceMethod q.1 ∈ tables_1
theorem lw_p0 : lw_okq (⟨"SmellBurdens", "refuse", "(I)I"⟩, 12) := ⟨⟨by decide +kernel, by decide +kernel⟩, List.mem_of_getElem? (i := 18) (by decide +kernel), List.mem_of_getElem? (i := 209) (by decide +kernel), List.mem_of_getElem? (i := 210) (by decide +kernel)⟩
theorem lw_p1 : lw_okq (⟨"SmellBurdens", "tell", "(I)I"⟩, 12) := ⟨⟨by decide +kernel, by decide +kernel⟩, List.mem_of_getElem? (i := 18) (by decide +kernel), List.mem_of_getElem? (i := 246) (by decide +kernel), List.mem_of_getElem? (i := 247) (by decide +kernel)⟩
theorem lw_p2 : lw_okq (⟨"SmellBurdens$Reader", "readRoads", "()Z"⟩, 5) := ⟨⟨by decide +kernel, by decide +kernel⟩, List.mem_of_getElem? (i := 46) (by decide +kernel), List.mem_of_getElem? (i := 307) (by decide +kernel), List.mem_of_getElem? (i := 308) (by decide +kernel)⟩
theorem lw_p3 : lw_okq (⟨"SmellBurdens$Reader", "skipBlanks", "()V"⟩, 5) := ⟨⟨by decide +kernel, by decide +kernel⟩, List.mem_of_getElem? (i := 46) (by decide +kernel), List.mem_of_getElem? (i := 311) (by decide +kernel), List.mem_of_getElem? (i := 312) (by decide +kernel)⟩
theorem lw_p4 : lw_okq (⟨"SmellBurdens$Reader", "sign", "()I"⟩, 5) := ⟨⟨by decide +kernel, by decide +kernel⟩, List.mem_of_getElem? (i := 46) (by decide +kernel), List.mem_of_getElem? (i := 315) (by decide +kernel), List.mem_of_getElem? (i := 316) (by decide +kernel)⟩
theorem lw_p5 : lw_okq (⟨"SmellBurdens$Reader", "readFigure", "(I)I"⟩, 5) := ⟨⟨by decide +kernel, by decide +kernel⟩, List.mem_of_getElem? (i := 46) (by decide +kernel), List.mem_of_getElem? (i := 319) (by decide +kernel), List.mem_of_getElem? (i := 320) (by decide +kernel)⟩
theorem lw_p6 : lw_okq (⟨"SmellBurdens$Reader", "readItems", "()Z"⟩, 5) := ⟨⟨by decide +kernel, by decide +kernel⟩, List.mem_of_getElem? (i := 46) (by decide +kernel), List.mem_of_getElem? (i := 327) (by decide +kernel), List.mem_of_getElem? (i := 328) (by decide +kernel)⟩
theorem lw_p7 : lw_okq (⟨"SmellBurdens$Reader", "readLoad", "()Z"⟩, 5) := ⟨⟨by decide +kernel, by decide +kernel⟩, List.mem_of_getElem? (i := 46) (by decide +kernel), List.mem_of_getElem? (i := 331) (by decide +kernel), List.mem_of_getElem? (i := 332) (by decide +kernel)⟩
theorem lw_p8 : lw_okq (⟨"SmellBurdens$Reader", "readSet", "()I"⟩, 5) := ⟨⟨by decide +kernel, by decide +kernel⟩, List.mem_of_getElem? (i := 46) (by decide +kernel), List.mem_of_getElem? (i := 335) (by decide +kernel), List.mem_of_getElem? (i := 336) (by decide +kernel)⟩
theorem lw_p9 : lw_okq (⟨"SmellBurdens$Reader", "readAss", "()Z"⟩, 5) := ⟨⟨by decide +kernel, by decide +kernel⟩, List.mem_of_getElem? (i := 46) (by decide +kernel), List.mem_of_getElem? (i := 353) (by decide +kernel), List.mem_of_getElem? (i := 354) (by decide +kernel)⟩
theorem lw_p10 : lw_okq (⟨"SmellBurdens", "keptAt", "(I)LSmellBurdens$Deeds;"⟩, 12) := ⟨⟨by decide +kernel, by decide +kernel⟩, List.mem_of_getElem? (i := 18) (by decide +kernel), List.mem_of_getElem? (i := 378) (by decide +kernel), List.mem_of_getElem? (i := 379) (by decide +kernel)⟩
theorem lw_p11 : lw_okq (⟨"SmellBurdens", "ofAss", "(II)I"⟩, 12) := ⟨⟨by decide +kernel, by decide +kernel⟩, List.mem_of_getElem? (i := 18) (by decide +kernel), List.mem_of_getElem? (i := 394) (by decide +kernel), List.mem_of_getElem? (i := 395) (by decide +kernel)⟩
theorem lw_p12 : lw_okq (⟨"SmellBurdens$Plain", "choiceOf", "(JII)I"⟩, 5) := ⟨⟨by decide +kernel, by decide +kernel⟩, List.mem_of_getElem? (i := 52) (by decide +kernel), List.mem_of_getElem? (i := 418) (by decide +kernel), List.mem_of_getElem? (i := 419) (by decide +kernel)⟩
theorem lw_p13 : lw_okq (⟨"SmellBurdens", "ofLoad", "(II)I"⟩, 12) := ⟨⟨by decide +kernel, by decide +kernel⟩, List.mem_of_getElem? (i := 18) (by decide +kernel), List.mem_of_getElem? (i := 462) (by decide +kernel), List.mem_of_getElem? (i := 463) (by decide +kernel)⟩
theorem lw_p14 : lw_okq (⟨"SmellBurdens", "doDay", "()I"⟩, 12) := ⟨⟨by decide +kernel, by decide +kernel⟩, List.mem_of_getElem? (i := 18) (by decide +kernel), List.mem_of_getElem? (i := 520) (by decide +kernel), List.mem_of_getElem? (i := 521) (by decide +kernel)⟩
theorem lw_p15 : lw_okq (⟨"SmellBurdens", "doSmear", "(II)V"⟩, 12) := ⟨⟨by decide +kernel, by decide +kernel⟩, List.mem_of_getElem? (i := 18) (by decide +kernel), List.mem_of_getElem? (i := 546) (by decide +kernel), List.mem_of_getElem? (i := 547) (by decide +kernel)⟩
def lw_privs_1 : List (MethodName × Nat) := [(⟨"SmellBurdens", "refuse", "(I)I"⟩, 12), (⟨"SmellBurdens", "tell", "(I)I"⟩, 12), (⟨"SmellBurdens$Reader", "readRoads", "()Z"⟩, 5), (⟨"SmellBurdens$Reader", "skipBlanks", "()V"⟩, 5), (⟨"SmellBurdens$Reader", "sign", "()I"⟩, 5), (⟨"SmellBurdens$Reader", "readFigure", "(I)I"⟩, 5), (⟨"SmellBurdens$Reader", "readItems", "()Z"⟩, 5), (⟨"SmellBurdens$Reader", "readLoad", "()Z"⟩, 5), (⟨"SmellBurdens$Reader", "readSet", "()I"⟩, 5), (⟨"SmellBurdens$Reader", "readAss", "()Z"⟩, 5), (⟨"SmellBurdens", "keptAt", "(I)LSmellBurdens$Deeds;"⟩, 12), (⟨"SmellBurdens", "ofAss", "(II)I"⟩, 12), (⟨"SmellBurdens$Plain", "choiceOf", "(JII)I"⟩, 5), (⟨"SmellBurdens", "ofLoad", "(II)I"⟩, 12), (⟨"SmellBurdens", "doDay", "()I"⟩, 12), (⟨"SmellBurdens", "doSmear", "(II)V"⟩, 12)]
theorem lw_r1 : ∀ q ∈ lw_privs_1, lw_okq q := List.forall_mem_cons.mpr ⟨lw_p0, List.forall_mem_cons.mpr ⟨lw_p1, List.forall_mem_cons.mpr ⟨lw_p2, List.forall_mem_cons.mpr ⟨lw_p3, List.forall_mem_cons.mpr ⟨lw_p4, List.forall_mem_cons.mpr ⟨lw_p5, List.forall_mem_cons.mpr ⟨lw_p6, List.forall_mem_cons.mpr ⟨lw_p7, List.forall_mem_cons.mpr ⟨lw_p8, List.forall_mem_cons.mpr ⟨lw_p9, List.forall_mem_cons.mpr ⟨lw_p10, List.forall_mem_cons.mpr ⟨lw_p11, List.forall_mem_cons.mpr ⟨lw_p12, List.forall_mem_cons.mpr ⟨lw_p13, List.forall_mem_cons.mpr ⟨lw_p14, List.forall_mem_cons.mpr ⟨lw_p15, fun _ h => absurd h List.not_mem_nil⟩⟩⟩⟩⟩⟩⟩⟩⟩⟩⟩⟩⟩⟩⟩⟩
theorem lw_p16 : lw_okq (⟨"SmellBurdens", "doLead", "(II)V"⟩, 12) := ⟨⟨by decide +kernel, by decide +kernel⟩, List.mem_of_getElem? (i := 18) (by decide +kernel), List.mem_of_getElem? (i := 555) (by decide +kernel), List.mem_of_getElem? (i := 556) (by decide +kernel)⟩
theorem lw_p17 : lw_okq (⟨"SmellBurdens$Wall", "setBest", "(III)V"⟩, 1) := ⟨⟨by decide +kernel, by decide +kernel⟩, List.mem_of_getElem? (i := 135) (by decide +kernel), List.mem_of_getElem? (i := 658) (by decide +kernel), List.mem_of_getElem? (i := 659) (by decide +kernel)⟩
theorem lw_p18 : lw_okq (⟨"SmellBurdens$Wall", "mostOf", "(LSmellBurdens$Plain;JII)I"⟩, 1) := ⟨⟨by decide +kernel, by decide +kernel⟩, List.mem_of_getElem? (i := 135) (by decide +kernel), List.mem_of_getElem? (i := 662) (by decide +kernel), List.mem_of_getElem? (i := 663) (by decide +kernel)⟩
theorem lw_p19 : lw_okq (⟨"SmellBurdens$Wall", "bestFrom", "(II)I"⟩, 1) := ⟨⟨by decide +kernel, by decide +kernel⟩, List.mem_of_getElem? (i := 135) (by decide +kernel), List.mem_of_getElem? (i := 666) (by decide +kernel), List.mem_of_getElem? (i := 667) (by decide +kernel)⟩
theorem lw_p20 : lw_okq (⟨"SmellBurdens$Wall", "mostWith", "(LSmellBurdens$Plain;JIII)I"⟩, 1) := ⟨⟨by decide +kernel, by decide +kernel⟩, List.mem_of_getElem? (i := 135) (by decide +kernel), List.mem_of_getElem? (i := 670) (by decide +kernel), List.mem_of_getElem? (i := 671) (by decide +kernel)⟩
theorem lw_p21 : lw_okq (⟨"SmellBurdens$Wall", "firstWith", "(LSmellBurdens$Plain;JII)I"⟩, 1) := ⟨⟨by decide +kernel, by decide +kernel⟩, List.mem_of_getElem? (i := 135) (by decide +kernel), List.mem_of_getElem? (i := 680) (by decide +kernel), List.mem_of_getElem? (i := 681) (by decide +kernel)⟩
theorem lw_p22 : lw_okq (⟨"SmellBurdens$Chances", "keepLowest", "(JJ)V"⟩, 2) := ⟨⟨by decide +kernel, by decide +kernel⟩, List.mem_of_getElem? (i := 145) (by decide +kernel), List.mem_of_getElem? (i := 799) (by decide +kernel), List.mem_of_getElem? (i := 800) (by decide +kernel)⟩
theorem lw_p23 : lw_okq (⟨"SmellBurdens", "doByLot", "(J)V"⟩, 12) := ⟨⟨by decide +kernel, by decide +kernel⟩, List.mem_of_getElem? (i := 18) (by decide +kernel), List.mem_of_getElem? (i := 822) (by decide +kernel), List.mem_of_getElem? (i := 823) (by decide +kernel)⟩
theorem lw_p24 : lw_okq (⟨"SmellBurdens", "howManyKept", "()I"⟩, 12) := ⟨⟨by decide +kernel, by decide +kernel⟩, List.mem_of_getElem? (i := 18) (by decide +kernel), List.mem_of_getElem? (i := 870) (by decide +kernel), List.mem_of_getElem? (i := 871) (by decide +kernel)⟩
theorem lw_p25 : lw_okq (⟨"SmellBurdens", "keptSize", "(I)I"⟩, 12) := ⟨⟨by decide +kernel, by decide +kernel⟩, List.mem_of_getElem? (i := 18) (by decide +kernel), List.mem_of_getElem? (i := 874) (by decide +kernel), List.mem_of_getElem? (i := 875) (by decide +kernel)⟩
theorem lw_p26 : lw_okq (⟨"SmellBurdensModel", "finds", "(I)I"⟩, 32) := ⟨⟨by decide +kernel, by decide +kernel⟩, List.mem_of_getElem? (i := 898) (by decide +kernel), List.mem_of_getElem? (i := 1032) (by decide +kernel), List.mem_of_getElem? (i := 1033) (by decide +kernel)⟩
theorem lw_p27 : lw_okq (⟨"SmellBurdensModel", "fresh", "(II)V"⟩, 32) := ⟨⟨by decide +kernel, by decide +kernel⟩, List.mem_of_getElem? (i := 898) (by decide +kernel), List.mem_of_getElem? (i := 1036) (by decide +kernel), List.mem_of_getElem? (i := 1037) (by decide +kernel)⟩
theorem lw_p28 : lw_okq (⟨"SmellBurdensModel", "whyPlace", "(II)I"⟩, 32) := ⟨⟨by decide +kernel, by decide +kernel⟩, List.mem_of_getElem? (i := 898) (by decide +kernel), List.mem_of_getElem? (i := 1044) (by decide +kernel), List.mem_of_getElem? (i := 1045) (by decide +kernel)⟩
theorem lw_p29 : lw_okq (⟨"SmellBurdensModel", "tells", "(I)I"⟩, 32) := ⟨⟨by decide +kernel, by decide +kernel⟩, List.mem_of_getElem? (i := 898) (by decide +kernel), List.mem_of_getElem? (i := 1048) (by decide +kernel), List.mem_of_getElem? (i := 1049) (by decide +kernel)⟩
theorem lw_p30 : lw_okq (⟨"SmellBurdensModel", "reads", "(I)I"⟩, 32) := ⟨⟨by decide +kernel, by decide +kernel⟩, List.mem_of_getElem? (i := 898) (by decide +kernel), List.mem_of_getElem? (i := 1084) (by decide +kernel), List.mem_of_getElem? (i := 1085) (by decide +kernel)⟩
theorem lw_p31 : lw_okq (⟨"SmellBurdensModel", "skips", "()V"⟩, 32) := ⟨⟨by decide +kernel, by decide +kernel⟩, List.mem_of_getElem? (i := 898) (by decide +kernel), List.mem_of_getElem? (i := 1088) (by decide +kernel), List.mem_of_getElem? (i := 1089) (by decide +kernel)⟩
def lw_privs_2 : List (MethodName × Nat) := [(⟨"SmellBurdens", "doLead", "(II)V"⟩, 12), (⟨"SmellBurdens$Wall", "setBest", "(III)V"⟩, 1), (⟨"SmellBurdens$Wall", "mostOf", "(LSmellBurdens$Plain;JII)I"⟩, 1), (⟨"SmellBurdens$Wall", "bestFrom", "(II)I"⟩, 1), (⟨"SmellBurdens$Wall", "mostWith", "(LSmellBurdens$Plain;JIII)I"⟩, 1), (⟨"SmellBurdens$Wall", "firstWith", "(LSmellBurdens$Plain;JII)I"⟩, 1), (⟨"SmellBurdens$Chances", "keepLowest", "(JJ)V"⟩, 2), (⟨"SmellBurdens", "doByLot", "(J)V"⟩, 12), (⟨"SmellBurdens", "howManyKept", "()I"⟩, 12), (⟨"SmellBurdens", "keptSize", "(I)I"⟩, 12), (⟨"SmellBurdensModel", "finds", "(I)I"⟩, 32), (⟨"SmellBurdensModel", "fresh", "(II)V"⟩, 32), (⟨"SmellBurdensModel", "whyPlace", "(II)I"⟩, 32), (⟨"SmellBurdensModel", "tells", "(I)I"⟩, 32), (⟨"SmellBurdensModel", "reads", "(I)I"⟩, 32), (⟨"SmellBurdensModel", "skips", "()V"⟩, 32)]
theorem lw_r2 : ∀ q ∈ lw_privs_2, lw_okq q := List.forall_mem_cons.mpr ⟨lw_p16, List.forall_mem_cons.mpr ⟨lw_p17, List.forall_mem_cons.mpr ⟨lw_p18, List.forall_mem_cons.mpr ⟨lw_p19, List.forall_mem_cons.mpr ⟨lw_p20, List.forall_mem_cons.mpr ⟨lw_p21, List.forall_mem_cons.mpr ⟨lw_p22, List.forall_mem_cons.mpr ⟨lw_p23, List.forall_mem_cons.mpr ⟨lw_p24, List.forall_mem_cons.mpr ⟨lw_p25, List.forall_mem_cons.mpr ⟨lw_p26, List.forall_mem_cons.mpr ⟨lw_p27, List.forall_mem_cons.mpr ⟨lw_p28, List.forall_mem_cons.mpr ⟨lw_p29, List.forall_mem_cons.mpr ⟨lw_p30, List.forall_mem_cons.mpr ⟨lw_p31, fun _ h => absurd h List.not_mem_nil⟩⟩⟩⟩⟩⟩⟩⟩⟩⟩⟩⟩⟩⟩⟩⟩
theorem lw_p32 : lw_okq (⟨"SmellBurdensModel", "byteAt", "(I)I"⟩, 32) := ⟨⟨by decide +kernel, by decide +kernel⟩, List.mem_of_getElem? (i := 898) (by decide +kernel), List.mem_of_getElem? (i := 1092) (by decide +kernel), List.mem_of_getElem? (i := 1093) (by decide +kernel)⟩
theorem lw_p33 : lw_okq (⟨"SmellBurdensModel", "faults", "(I)V"⟩, 32) := ⟨⟨by decide +kernel, by decide +kernel⟩, List.mem_of_getElem? (i := 898) (by decide +kernel), List.mem_of_getElem? (i := 1096) (by decide +kernel), List.mem_of_getElem? (i := 1097) (by decide +kernel)⟩
theorem lw_p34 : lw_okq (⟨"SmellBurdensModel", "figure", "(I)I"⟩, 32) := ⟨⟨by decide +kernel, by decide +kernel⟩, List.mem_of_getElem? (i := 898) (by decide +kernel), List.mem_of_getElem? (i := 1100) (by decide +kernel), List.mem_of_getElem? (i := 1101) (by decide +kernel)⟩
theorem lw_p35 : lw_okq (⟨"SmellBurdensModel", "readItem", "()V"⟩, 32) := ⟨⟨by decide +kernel, by decide +kernel⟩, List.mem_of_getElem? (i := 898) (by decide +kernel), List.mem_of_getElem? (i := 1104) (by decide +kernel), List.mem_of_getElem? (i := 1105) (by decide +kernel)⟩
theorem lw_p36 : lw_okq (⟨"SmellBurdensModel", "readAss", "(I)V"⟩, 32) := ⟨⟨by decide +kernel, by decide +kernel⟩, List.mem_of_getElem? (i := 898) (by decide +kernel), List.mem_of_getElem? (i := 1111) (by decide +kernel), List.mem_of_getElem? (i := 1112) (by decide +kernel)⟩
theorem lw_p37 : lw_okq (⟨"SmellBurdensModel", "twoFigures", "()I"⟩, 32) := ⟨⟨by decide +kernel, by decide +kernel⟩, List.mem_of_getElem? (i := 898) (by decide +kernel), List.mem_of_getElem? (i := 1115) (by decide +kernel), List.mem_of_getElem? (i := 1116) (by decide +kernel)⟩
theorem lw_p38 : lw_okq (⟨"SmellBurdensModel", "readLoad", "()V"⟩, 32) := ⟨⟨by decide +kernel, by decide +kernel⟩, List.mem_of_getElem? (i := 898) (by decide +kernel), List.mem_of_getElem? (i := 1119) (by decide +kernel), List.mem_of_getElem? (i := 1120) (by decide +kernel)⟩
theorem lw_p39 : lw_okq (⟨"SmellBurdensModel", "isAss", "(I)Z"⟩, 32) := ⟨⟨by decide +kernel, by decide +kernel⟩, List.mem_of_getElem? (i := 898) (by decide +kernel), List.mem_of_getElem? (i := 1131) (by decide +kernel), List.mem_of_getElem? (i := 1132) (by decide +kernel)⟩
theorem lw_p40 : lw_okq (⟨"SmellBurdensModel", "ofAss", "(II)I"⟩, 32) := ⟨⟨by decide +kernel, by decide +kernel⟩, List.mem_of_getElem? (i := 898) (by decide +kernel), List.mem_of_getElem? (i := 1135) (by decide +kernel), List.mem_of_getElem? (i := 1136) (by decide +kernel)⟩
theorem lw_p41 : lw_okq (⟨"SmellBurdensModel", "takesAll", "(I)I"⟩, 32) := ⟨⟨by decide +kernel, by decide +kernel⟩, List.mem_of_getElem? (i := 898) (by decide +kernel), List.mem_of_getElem? (i := 1139) (by decide +kernel), List.mem_of_getElem? (i := 1140) (by decide +kernel)⟩
theorem lw_p42 : lw_okq (⟨"SmellBurdensModel", "takesOne", "(II)I"⟩, 32) := ⟨⟨by decide +kernel, by decide +kernel⟩, List.mem_of_getElem? (i := 898) (by decide +kernel), List.mem_of_getElem? (i := 1143) (by decide +kernel), List.mem_of_getElem? (i := 1144) (by decide +kernel)⟩
theorem lw_p43 : lw_okq (⟨"SmellBurdensModel", "isHome", "(I)Z"⟩, 32) := ⟨⟨by decide +kernel, by decide +kernel⟩, List.mem_of_getElem? (i := 898) (by decide +kernel), List.mem_of_getElem? (i := 1147) (by decide +kernel), List.mem_of_getElem? (i := 1148) (by decide +kernel)⟩
theorem lw_p44 : lw_okq (⟨"SmellBurdensModel", "likeTo", "(II)I"⟩, 32) := ⟨⟨by decide +kernel, by decide +kernel⟩, List.mem_of_getElem? (i := 898) (by decide +kernel), List.mem_of_getElem? (i := 1151) (by decide +kernel), List.mem_of_getElem? (i := 1152) (by decide +kernel)⟩
theorem lw_p45 : lw_okq (⟨"SmellBurdensModel", "refuses", "(II)Z"⟩, 32) := ⟨⟨by decide +kernel, by decide +kernel⟩, List.mem_of_getElem? (i := 898) (by decide +kernel), List.mem_of_getElem? (i := 1161) (by decide +kernel), List.mem_of_getElem? (i := 1162) (by decide +kernel)⟩
theorem lw_p46 : lw_okq (⟨"SmellBurdensModel", "isLoad", "(I)Z"⟩, 32) := ⟨⟨by decide +kernel, by decide +kernel⟩, List.mem_of_getElem? (i := 898) (by decide +kernel), List.mem_of_getElem? (i := 1172) (by decide +kernel), List.mem_of_getElem? (i := 1173) (by decide +kernel)⟩
theorem lw_p47 : lw_okq (⟨"SmellBurdensModel", "ofLoad", "(II)I"⟩, 32) := ⟨⟨by decide +kernel, by decide +kernel⟩, List.mem_of_getElem? (i := 898) (by decide +kernel), List.mem_of_getElem? (i := 1177) (by decide +kernel), List.mem_of_getElem? (i := 1178) (by decide +kernel)⟩
def lw_privs_3 : List (MethodName × Nat) := [(⟨"SmellBurdensModel", "byteAt", "(I)I"⟩, 32), (⟨"SmellBurdensModel", "faults", "(I)V"⟩, 32), (⟨"SmellBurdensModel", "figure", "(I)I"⟩, 32), (⟨"SmellBurdensModel", "readItem", "()V"⟩, 32), (⟨"SmellBurdensModel", "readAss", "(I)V"⟩, 32), (⟨"SmellBurdensModel", "twoFigures", "()I"⟩, 32), (⟨"SmellBurdensModel", "readLoad", "()V"⟩, 32), (⟨"SmellBurdensModel", "isAss", "(I)Z"⟩, 32), (⟨"SmellBurdensModel", "ofAss", "(II)I"⟩, 32), (⟨"SmellBurdensModel", "takesAll", "(I)I"⟩, 32), (⟨"SmellBurdensModel", "takesOne", "(II)I"⟩, 32), (⟨"SmellBurdensModel", "isHome", "(I)Z"⟩, 32), (⟨"SmellBurdensModel", "likeTo", "(II)I"⟩, 32), (⟨"SmellBurdensModel", "refuses", "(II)Z"⟩, 32), (⟨"SmellBurdensModel", "isLoad", "(I)Z"⟩, 32), (⟨"SmellBurdensModel", "ofLoad", "(II)I"⟩, 32)]
theorem lw_r3 : ∀ q ∈ lw_privs_3, lw_okq q := List.forall_mem_cons.mpr ⟨lw_p32, List.forall_mem_cons.mpr ⟨lw_p33, List.forall_mem_cons.mpr ⟨lw_p34, List.forall_mem_cons.mpr ⟨lw_p35, List.forall_mem_cons.mpr ⟨lw_p36, List.forall_mem_cons.mpr ⟨lw_p37, List.forall_mem_cons.mpr ⟨lw_p38, List.forall_mem_cons.mpr ⟨lw_p39, List.forall_mem_cons.mpr ⟨lw_p40, List.forall_mem_cons.mpr ⟨lw_p41, List.forall_mem_cons.mpr ⟨lw_p42, List.forall_mem_cons.mpr ⟨lw_p43, List.forall_mem_cons.mpr ⟨lw_p44, List.forall_mem_cons.mpr ⟨lw_p45, List.forall_mem_cons.mpr ⟨lw_p46, List.forall_mem_cons.mpr ⟨lw_p47, fun _ h => absurd h List.not_mem_nil⟩⟩⟩⟩⟩⟩⟩⟩⟩⟩⟩⟩⟩⟩⟩⟩
theorem lw_p48 : lw_okq (⟨"SmellBurdensModel", "takerOf", "(I)I"⟩, 32) := ⟨⟨by decide +kernel, by decide +kernel⟩, List.mem_of_getElem? (i := 898) (by decide +kernel), List.mem_of_getElem? (i := 1181) (by decide +kernel), List.mem_of_getElem? (i := 1182) (by decide +kernel)⟩
theorem lw_p49 : lw_okq (⟨"SmellBurdensModel", "marksOf", "(II)I"⟩, 32) := ⟨⟨by decide +kernel, by decide +kernel⟩, List.mem_of_getElem? (i := 898) (by decide +kernel), List.mem_of_getElem? (i := 1192) (by decide +kernel), List.mem_of_getElem? (i := 1193) (by decide +kernel)⟩
theorem lw_p50 : lw_okq (⟨"SmellBurdensModel", "notes", "()V"⟩, 32) := ⟨⟨by decide +kernel, by decide +kernel⟩, List.mem_of_getElem? (i := 898) (by decide +kernel), List.mem_of_getElem? (i := 1200) (by decide +kernel), List.mem_of_getElem? (i := 1201) (by decide +kernel)⟩
theorem lw_p51 : lw_okq (⟨"SmellBurdensModel", "goesBy", "()I"⟩, 32) := ⟨⟨by decide +kernel, by decide +kernel⟩, List.mem_of_getElem? (i := 898) (by decide +kernel), List.mem_of_getElem? (i := 1204) (by decide +kernel), List.mem_of_getElem? (i := 1205) (by decide +kernel)⟩
theorem lw_p52 : lw_okq (⟨"SmellBurdensModel", "allGo", "()V"⟩, 32) := ⟨⟨by decide +kernel, by decide +kernel⟩, List.mem_of_getElem? (i := 898) (by decide +kernel), List.mem_of_getElem? (i := 1208) (by decide +kernel), List.mem_of_getElem? (i := 1209) (by decide +kernel)⟩
theorem lw_p53 : lw_okq (⟨"SmellBurdensModel", "takers", "(I)I"⟩, 32) := ⟨⟨by decide +kernel, by decide +kernel⟩, List.mem_of_getElem? (i := 898) (by decide +kernel), List.mem_of_getElem? (i := 1245) (by decide +kernel), List.mem_of_getElem? (i := 1246) (by decide +kernel)⟩
theorem lw_p54 : lw_okq (⟨"SmellBurdensModel", "asides", "()V"⟩, 32) := ⟨⟨by decide +kernel, by decide +kernel⟩, List.mem_of_getElem? (i := 898) (by decide +kernel), List.mem_of_getElem? (i := 1257) (by decide +kernel), List.mem_of_getElem? (i := 1258) (by decide +kernel)⟩
theorem lw_p55 : lw_okq (⟨"SmellBurdensModel", "backs", "()V"⟩, 32) := ⟨⟨by decide +kernel, by decide +kernel⟩, List.mem_of_getElem? (i := 898) (by decide +kernel), List.mem_of_getElem? (i := 1261) (by decide +kernel), List.mem_of_getElem? (i := 1262) (by decide +kernel)⟩
theorem lw_p56 : lw_okq (⟨"SmellBurdensModel", "atHome", "()I"⟩, 32) := ⟨⟨by decide +kernel, by decide +kernel⟩, List.mem_of_getElem? (i := 898) (by decide +kernel), List.mem_of_getElem? (i := 1269) (by decide +kernel), List.mem_of_getElem? (i := 1270) (by decide +kernel)⟩
theorem lw_p57 : lw_okq (⟨"SmellBurdensModel", "state", "()J"⟩, 32) := ⟨⟨by decide +kernel, by decide +kernel⟩, List.mem_of_getElem? (i := 898) (by decide +kernel), List.mem_of_getElem? (i := 1277) (by decide +kernel), List.mem_of_getElem? (i := 1278) (by decide +kernel)⟩
theorem lw_p58 : lw_okq (⟨"SmellBurdensModel", "comesHome", "(II)Z"⟩, 32) := ⟨⟨by decide +kernel, by decide +kernel⟩, List.mem_of_getElem? (i := 898) (by decide +kernel), List.mem_of_getElem? (i := 1286) (by decide +kernel), List.mem_of_getElem? (i := 1287) (by decide +kernel)⟩
theorem lw_p59 : lw_okq (⟨"SmellBurdensModel", "worth", "(I)I"⟩, 32) := ⟨⟨by decide +kernel, by decide +kernel⟩, List.mem_of_getElem? (i := 898) (by decide +kernel), List.mem_of_getElem? (i := 1294) (by decide +kernel), List.mem_of_getElem? (i := 1295) (by decide +kernel)⟩
theorem lw_p60 : lw_okq (⟨"SmellBurdensModel", "isOrder", "(I)Z"⟩, 32) := ⟨⟨by decide +kernel, by decide +kernel⟩, List.mem_of_getElem? (i := 898) (by decide +kernel), List.mem_of_getElem? (i := 1302) (by decide +kernel), List.mem_of_getElem? (i := 1303) (by decide +kernel)⟩
theorem lw_p61 : lw_okq (⟨"SmellBurdensModel", "whyPairs", "(I)I"⟩, 32) := ⟨⟨by decide +kernel, by decide +kernel⟩, List.mem_of_getElem? (i := 898) (by decide +kernel), List.mem_of_getElem? (i := 1314) (by decide +kernel), List.mem_of_getElem? (i := 1315) (by decide +kernel)⟩
theorem lw_p62 : lw_okq (⟨"SmellBurdensModel", "memoriesBy", "(II)I"⟩, 32) := ⟨⟨by decide +kernel, by decide +kernel⟩, List.mem_of_getElem? (i := 898) (by decide +kernel), List.mem_of_getElem? (i := 1318) (by decide +kernel), List.mem_of_getElem? (i := 1319) (by decide +kernel)⟩
theorem lw_p63 : lw_okq (⟨"SmellBurdensModel", "isSo", "(III)Z"⟩, 32) := ⟨⟨by decide +kernel, by decide +kernel⟩, List.mem_of_getElem? (i := 898) (by decide +kernel), List.mem_of_getElem? (i := 1322) (by decide +kernel), List.mem_of_getElem? (i := 1323) (by decide +kernel)⟩
def lw_privs_4 : List (MethodName × Nat) := [(⟨"SmellBurdensModel", "takerOf", "(I)I"⟩, 32), (⟨"SmellBurdensModel", "marksOf", "(II)I"⟩, 32), (⟨"SmellBurdensModel", "notes", "()V"⟩, 32), (⟨"SmellBurdensModel", "goesBy", "()I"⟩, 32), (⟨"SmellBurdensModel", "allGo", "()V"⟩, 32), (⟨"SmellBurdensModel", "takers", "(I)I"⟩, 32), (⟨"SmellBurdensModel", "asides", "()V"⟩, 32), (⟨"SmellBurdensModel", "backs", "()V"⟩, 32), (⟨"SmellBurdensModel", "atHome", "()I"⟩, 32), (⟨"SmellBurdensModel", "state", "()J"⟩, 32), (⟨"SmellBurdensModel", "comesHome", "(II)Z"⟩, 32), (⟨"SmellBurdensModel", "worth", "(I)I"⟩, 32), (⟨"SmellBurdensModel", "isOrder", "(I)Z"⟩, 32), (⟨"SmellBurdensModel", "whyPairs", "(I)I"⟩, 32), (⟨"SmellBurdensModel", "memoriesBy", "(II)I"⟩, 32), (⟨"SmellBurdensModel", "isSo", "(III)Z"⟩, 32)]
theorem lw_r4 : ∀ q ∈ lw_privs_4, lw_okq q := List.forall_mem_cons.mpr ⟨lw_p48, List.forall_mem_cons.mpr ⟨lw_p49, List.forall_mem_cons.mpr ⟨lw_p50, List.forall_mem_cons.mpr ⟨lw_p51, List.forall_mem_cons.mpr ⟨lw_p52, List.forall_mem_cons.mpr ⟨lw_p53, List.forall_mem_cons.mpr ⟨lw_p54, List.forall_mem_cons.mpr ⟨lw_p55, List.forall_mem_cons.mpr ⟨lw_p56, List.forall_mem_cons.mpr ⟨lw_p57, List.forall_mem_cons.mpr ⟨lw_p58, List.forall_mem_cons.mpr ⟨lw_p59, List.forall_mem_cons.mpr ⟨lw_p60, List.forall_mem_cons.mpr ⟨lw_p61, List.forall_mem_cons.mpr ⟨lw_p62, List.forall_mem_cons.mpr ⟨lw_p63, fun _ h => absurd h List.not_mem_nil⟩⟩⟩⟩⟩⟩⟩⟩⟩⟩⟩⟩⟩⟩⟩⟩
theorem lw_p64 : lw_okq (⟨"SmellBurdensModel", "turns", "(Z)V"⟩, 32) := ⟨⟨by decide +kernel, by decide +kernel⟩, List.mem_of_getElem? (i := 898) (by decide +kernel), List.mem_of_getElem? (i := 1338) (by decide +kernel), List.mem_of_getElem? (i := 1339) (by decide +kernel)⟩
theorem lw_p65 : lw_okq (⟨"SmellBurdensModel", "part", "(II)J"⟩, 32) := ⟨⟨by decide +kernel, by decide +kernel⟩, List.mem_of_getElem? (i := 898) (by decide +kernel), List.mem_of_getElem? (i := 1347) (by decide +kernel), List.mem_of_getElem? (i := 1348) (by decide +kernel)⟩
theorem lw_p66 : lw_okq (⟨"SmellBurdensModel", "allParts", "()J"⟩, 32) := ⟨⟨by decide +kernel, by decide +kernel⟩, List.mem_of_getElem? (i := 898) (by decide +kernel), List.mem_of_getElem? (i := 1351) (by decide +kernel), List.mem_of_getElem? (i := 1352) (by decide +kernel)⟩
theorem lw_p67 : lw_okq (⟨"SmellBurdensModel", "fraction", "(JJ)V"⟩, 32) := ⟨⟨by decide +kernel, by decide +kernel⟩, List.mem_of_getElem? (i := 898) (by decide +kernel), List.mem_of_getElem? (i := 1355) (by decide +kernel), List.mem_of_getElem? (i := 1356) (by decide +kernel)⟩
theorem lw_p68 : lw_okq (⟨"SmellBurdensModel", "roadsNow", "()I"⟩, 32) := ⟨⟨by decide +kernel, by decide +kernel⟩, List.mem_of_getElem? (i := 898) (by decide +kernel), List.mem_of_getElem? (i := 1376) (by decide +kernel), List.mem_of_getElem? (i := 1377) (by decide +kernel)⟩
theorem lw_p69 : lw_okq (⟨"SmellBurdensModel", "sortsLike", "(I)I"⟩, 32) := ⟨⟨by decide +kernel, by decide +kernel⟩, List.mem_of_getElem? (i := 898) (by decide +kernel), List.mem_of_getElem? (i := 1380) (by decide +kernel), List.mem_of_getElem? (i := 1381) (by decide +kernel)⟩
theorem lw_p70 : lw_okq (⟨"SmellBurdensModel", "there", "(I)I"⟩, 32) := ⟨⟨by decide +kernel, by decide +kernel⟩, List.mem_of_getElem? (i := 898) (by decide +kernel), List.mem_of_getElem? (i := 1384) (by decide +kernel), List.mem_of_getElem? (i := 1385) (by decide +kernel)⟩
def lw_privs_5 : List (MethodName × Nat) := [(⟨"SmellBurdensModel", "turns", "(Z)V"⟩, 32), (⟨"SmellBurdensModel", "part", "(II)J"⟩, 32), (⟨"SmellBurdensModel", "allParts", "()J"⟩, 32), (⟨"SmellBurdensModel", "fraction", "(JJ)V"⟩, 32), (⟨"SmellBurdensModel", "roadsNow", "()I"⟩, 32), (⟨"SmellBurdensModel", "sortsLike", "(I)I"⟩, 32), (⟨"SmellBurdensModel", "there", "(I)I"⟩, 32)]
theorem lw_r5 : ∀ q ∈ lw_privs_5, lw_okq q := List.forall_mem_cons.mpr ⟨lw_p64, List.forall_mem_cons.mpr ⟨lw_p65, List.forall_mem_cons.mpr ⟨lw_p66, List.forall_mem_cons.mpr ⟨lw_p67, List.forall_mem_cons.mpr ⟨lw_p68, List.forall_mem_cons.mpr ⟨lw_p69, List.forall_mem_cons.mpr ⟨lw_p70, fun _ h => absurd h List.not_mem_nil⟩⟩⟩⟩⟩⟩⟩
def lw_privs : List (MethodName × Nat) := lw_privs_1 ++ (lw_privs_2 ++ (lw_privs_3 ++ (lw_privs_4 ++ (lw_privs_5))))
def lw_tbl : List Cond := k2_sels lw_privs ++ tables_1
theorem lw_privs_ok : ∀ q ∈ lw_privs, lw_okq q := by
  show ∀ q ∈ lw_privs_1 ++ (lw_privs_2 ++ (lw_privs_3 ++ (lw_privs_4 ++ (lw_privs_5)))), lw_okq q
  exact List.forall_mem_append.mpr ⟨lw_r1, List.forall_mem_append.mpr ⟨lw_r2, List.forall_mem_append.mpr ⟨lw_r3, List.forall_mem_append.mpr ⟨lw_r4, lw_r5⟩⟩⟩⟩
end
section
def RX0 : String := "SmellBurdens$Chances"
def TX0 : u_T := fun k => match k with
  | 0 => ("SmellBurdens$Chances", "over", "J", false)
  | _ => ("SmellBurdens$Chances", "under", "J", false)
def tyX0 : Nat → FieldType := fun k => match k with
  | 0 => .long
  | _ => .long
theorem nmX0 : ∀ a, a < 2 → ∀ b, b < 2 → a ≠ b → (TX0 a).2.1 ≠ (TX0 b).2.1 := by decide +kernel
theorem tyX0_ok : ∀ k, k < 2 → parseFieldDescriptor (TX0 k).2.2.1 = some (tyX0 k) := by decide +kernel
abbrev cX0_init : ByteArray := prog_2_method_1_code
def yX0_init : MethodName := ⟨RX0, "<init>", "()V"⟩
abbrev cX0_ofTaking : ByteArray := prog_2_method_2_code
def yX0_ofTaking : MethodName := ⟨RX0, "ofTaking", "(LSmellBurdens$Plain;JII)V"⟩
abbrev cX0_ofHomes : ByteArray := prog_2_method_3_code
def yX0_ofHomes : MethodName := ⟨RX0, "ofHomes", "(LSmellBurdens$Plain;JI)V"⟩
abbrev cX0_weight : ByteArray := prog_2_method_4_code
def yX0_weight : MethodName := ⟨RX0, "weight", "(LSmellBurdens$Plain;II)J"⟩
abbrev cX0_power : ByteArray := prog_2_method_5_code
def yX0_power : MethodName := ⟨RX0, "power", "(II)J"⟩
abbrev cX0_keepLowest : ByteArray := prog_2_method_6_code
def yX0_keepLowest : MethodName := ⟨RX0, "keepLowest", "(JJ)V"⟩
abbrev cX0_commonDivisor : ByteArray := prog_2_method_7_code
def yX0_commonDivisor : MethodName := ⟨RX0, "commonDivisor", "(JJ)J"⟩
def RX1 : String := "SmellBurdens$Deeds"
def TX1 : u_T := fun k => match k with
  | 0 => ("SmellBurdens$Deeds", "before", "[J", true)
  | 1 => ("SmellBurdens$Deeds", "now", "J", false)
  | 2 => ("SmellBurdens$Deeds", "dayBits", "J", false)
  | _ => ("SmellBurdens$Deeds", "size", "I", false)
def tyX1 : Nat → FieldType := fun k => match k with
  | 0 => .array .long
  | 1 => .long
  | 2 => .long
  | _ => .int
theorem nmX1 : ∀ a, a < 4 → ∀ b, b < 4 → a ≠ b → (TX1 a).2.1 ≠ (TX1 b).2.1 := by decide +kernel
theorem tyX1_ok : ∀ k, k < 4 → parseFieldDescriptor (TX1 k).2.2.1 = some (tyX1 k) := by decide +kernel
abbrev cX1_init : ByteArray := prog_3_method_1_code
def yX1_init : MethodName := ⟨RX1, "<init>", "()V"⟩
abbrev cX1_begin : ByteArray := prog_3_method_2_code
def yX1_begin : MethodName := ⟨RX1, "begin", "(J)V"⟩
abbrev cX1_drop : ByteArray := prog_3_method_3_code
def yX1_drop : MethodName := ⟨RX1, "drop", "()V"⟩
abbrev cX1_isMissing : ByteArray := prog_3_method_4_code
def yX1_isMissing : MethodName := ⟨RX1, "isMissing", "()Z"⟩
abbrev cX1_hasRoomFor : ByteArray := prog_3_method_5_code
def yX1_hasRoomFor : MethodName := ⟨RX1, "hasRoomFor", "(I)Z"⟩
abbrev cX1_add : ByteArray := prog_3_method_6_code
def yX1_add : MethodName := ⟨RX1, "add", "(JZ)V"⟩
abbrev cX1_takeBack : ByteArray := prog_3_method_7_code
def yX1_takeBack : MethodName := ⟨RX1, "takeBack", "(I)I"⟩
abbrev cX1_howManyDays : ByteArray := prog_3_method_8_code
def yX1_howManyDays : MethodName := ⟨RX1, "howManyDays", "()I"⟩
abbrev cX1_become : ByteArray := prog_3_method_9_code
def yX1_become : MethodName := ⟨RX1, "become", "(LSmellBurdens$Deeds;)V"⟩
def RX2 : String := "SmellBurdens$Foresight"
def TX2 : u_T := fun k => match k with
  | _ => ("SmellBurdens$Foresight", "seen", "[J", true)
def tyX2 : Nat → FieldType := fun k => match k with
  | _ => .array .long
theorem nmX2 : ∀ a, a < 1 → ∀ b, b < 1 → a ≠ b → (TX2 a).2.1 ≠ (TX2 b).2.1 := by decide +kernel
theorem tyX2_ok : ∀ k, k < 1 → parseFieldDescriptor (TX2 k).2.2.1 = some (tyX2 k) := by decide +kernel
abbrev cX2_init : ByteArray := prog_4_method_1_code
def yX2_init : MethodName := ⟨RX2, "<init>", "()V"⟩
abbrev cX2_behindDays : ByteArray := prog_4_method_2_code
def yX2_behindDays : MethodName := ⟨RX2, "behindDays", "(LSmellBurdens$Plain;JI)J"⟩
abbrev cX2_allHome : ByteArray := prog_4_method_3_code
def yX2_allHome : MethodName := ⟨RX2, "allHome", "(LSmellBurdens$Plain;J)Z"⟩
abbrev cX2_daysToHomes : ByteArray := prog_4_method_4_code
def yX2_daysToHomes : MethodName := ⟨RX2, "daysToHomes", "(LSmellBurdens$Plain;J)I"⟩
abbrev cX2_firstAgain : ByteArray := prog_4_method_5_code
def yX2_firstAgain : MethodName := ⟨RX2, "firstAgain", "(LSmellBurdens$Plain;J)I"⟩
abbrev cX2_daysSince : ByteArray := prog_4_method_6_code
def yX2_daysSince : MethodName := ⟨RX2, "daysSince", "(I)I"⟩
abbrev cX2_marksToHome : ByteArray := prog_4_method_7_code
def yX2_marksToHome : MethodName := ⟨RX2, "marksToHome", "(LSmellBurdens$Plain;JII)I"⟩
def RX3 : String := "SmellBurdens$Guess"
def TX3 : u_T := fun k => match k with
  | _ => ("", "", "", false)
def tyX3 : Nat → FieldType := fun k => match k with
  | _ => .int
theorem nmX3 : ∀ a, a < 0 → ∀ b, b < 0 → a ≠ b → (TX3 a).2.1 ≠ (TX3 b).2.1 := by decide +kernel
theorem tyX3_ok : ∀ k, k < 0 → parseFieldDescriptor (TX3 k).2.2.1 = some (tyX3 k) := by decide +kernel
abbrev cX3_wrongPairs : ByteArray := prog_5_method_2_code
def yX3_wrongPairs : MethodName := ⟨RX3, "wrongPairs", "(LSmellBurdens$Shelf;I)I"⟩
abbrev cX3_fits : ByteArray := prog_5_method_3_code
def yX3_fits : MethodName := ⟨RX3, "fits", "(LSmellBurdens$Shelf;III)Z"⟩
abbrev cX3_memoriesBy : ByteArray := prog_5_method_4_code
def yX3_memoriesBy : MethodName := ⟨RX3, "memoriesBy", "(LSmellBurdens$Shelf;II)I"⟩
abbrev cX3_kindsBy : ByteArray := prog_5_method_5_code
def yX3_kindsBy : MethodName := ⟨RX3, "kindsBy", "(LSmellBurdens$Shelf;II)I"⟩
abbrev cX3_tellingMarks : ByteArray := prog_5_method_6_code
def yX3_tellingMarks : MethodName := ⟨RX3, "tellingMarks", "(II)I"⟩
abbrev cX3_greaterPart : ByteArray := prog_5_method_7_code
def yX3_greaterPart : MethodName := ⟨RX3, "greaterPart", "(III)I"⟩
def RX4 : String := "SmellBurdens$Kind"
def TX4 : u_T := fun k => match k with
  | _ => ("", "", "", false)
def tyX4 : Nat → FieldType := fun k => match k with
  | _ => .int
theorem nmX4 : ∀ a, a < 0 → ∀ b, b < 0 → a ≠ b → (TX4 a).2.1 ≠ (TX4 b).2.1 := by decide +kernel
theorem tyX4_ok : ∀ k, k < 0 → parseFieldDescriptor (TX4 k).2.2.1 = some (tyX4 k) := by decide +kernel
abbrev cX4_byLetter : ByteArray := prog_6_method_2_code
def yX4_byLetter : MethodName := ⟨RX4, "byLetter", "(I)I"⟩
abbrev cX4_isA : ByteArray := prog_6_method_3_code
def yX4_isA : MethodName := ⟨RX4, "isA", "(II)Z"⟩
abbrev cX4_likeness : ByteArray := prog_6_method_4_code
def yX4_likeness : MethodName := ⟨RX4, "likeness", "(III)I"⟩
abbrev cX4_leastLike : ByteArray := prog_6_method_5_code
def yX4_leastLike : MethodName := ⟨RX4, "leastLike", "(I)I"⟩
abbrev cX4_wouldTake : ByteArray := prog_6_method_6_code
def yX4_wouldTake : MethodName := ⟨RX4, "wouldTake", "(III)Z"⟩
def RX5 : String := "SmellBurdens$Plain"
def TX5 : u_T := fun k => match k with
  | 0 => ("SmellBurdens$Plain", "asses", "I", false)
  | 1 => ("SmellBurdens$Plain", "loads", "I", false)
  | 2 => ("SmellBurdens$Plain", "kinds", "I", false)
  | 3 => ("SmellBurdens$Plain", "roads", "I", false)
  | _ => ("SmellBurdens$Plain", "homes", "I", false)
def tyX5 : Nat → FieldType := fun k => match k with
  | 0 => .int
  | 1 => .int
  | 2 => .int
  | 3 => .int
  | _ => .int
theorem nmX5 : ∀ a, a < 5 → ∀ b, b < 5 → a ≠ b → (TX5 a).2.1 ≠ (TX5 b).2.1 := by decide +kernel
theorem tyX5_ok : ∀ k, k < 5 → parseFieldDescriptor (TX5 k).2.2.1 = some (tyX5 k) := by decide +kernel
abbrev cX5_init : ByteArray := prog_7_method_1_code
def yX5_init : MethodName := ⟨RX5, "<init>", "()V"⟩
abbrev cX5_clear : ByteArray := prog_7_method_2_code
def yX5_clear : MethodName := ⟨RX5, "clear", "()V"⟩
abbrev cX5_become : ByteArray := prog_7_method_3_code
def yX5_become : MethodName := ⟨RX5, "become", "(LSmellBurdens$Plain;)V"⟩
abbrev cX5_addRoad : ByteArray := prog_7_method_4_code
def yX5_addRoad : MethodName := ⟨RX5, "addRoad", "(II)V"⟩
abbrev cX5_addAss : ByteArray := prog_7_method_5_code
def yX5_addAss : MethodName := ⟨RX5, "addAss", "(I)V"⟩
abbrev cX5_addLoad : ByteArray := prog_7_method_6_code
def yX5_addLoad : MethodName := ⟨RX5, "addLoad", "(I)V"⟩
abbrev cX5_isAss : ByteArray := prog_7_method_7_code
def yX5_isAss : MethodName := ⟨RX5, "isAss", "(I)Z"⟩
abbrev cX5_isLoad : ByteArray := prog_7_method_8_code
def yX5_isLoad : MethodName := ⟨RX5, "isLoad", "(I)Z"⟩
abbrev cX5_kindOf : ByteArray := prog_7_method_9_code
def yX5_kindOf : MethodName := ⟨RX5, "kindOf", "(I)I"⟩
abbrev cX5_homeOf : ByteArray := prog_7_method_10_code
def yX5_homeOf : MethodName := ⟨RX5, "homeOf", "(I)I"⟩
abbrev cX5_roadFrom : ByteArray := prog_7_method_11_code
def yX5_roadFrom : MethodName := ⟨RX5, "roadFrom", "(I)I"⟩
abbrev cX5_roadsAsNumber : ByteArray := prog_7_method_12_code
def yX5_roadsAsNumber : MethodName := ⟨RX5, "roadsAsNumber", "()I"⟩
abbrev cX5_howManyAre : ByteArray := prog_7_method_13_code
def yX5_howManyAre : MethodName := ⟨RX5, "howManyAre", "(I)I"⟩
abbrev cX5_isHome : ByteArray := prog_7_method_14_code
def yX5_isHome : MethodName := ⟨RX5, "isHome", "(JI)Z"⟩
abbrev cX5_atHomes : ByteArray := prog_7_method_15_code
def yX5_atHomes : MethodName := ⟨RX5, "atHomes", "(J)I"⟩
abbrev cX5_likeness : ByteArray := prog_7_method_16_code
def yX5_likeness : MethodName := ⟨RX5, "likeness", "(JII)I"⟩
abbrev cX5_wouldTake : ByteArray := prog_7_method_17_code
def yX5_wouldTake : MethodName := ⟨RX5, "wouldTake", "(JII)Z"⟩
abbrev cX5_takersOf : ByteArray := prog_7_method_18_code
def yX5_takersOf : MethodName := ⟨RX5, "takersOf", "(JI)I"⟩
abbrev cX5_loadsLikeMemory : ByteArray := prog_7_method_19_code
def yX5_loadsLikeMemory : MethodName := ⟨RX5, "loadsLikeMemory", "(JI)I"⟩
abbrev cX5_loadsRefused : ByteArray := prog_7_method_20_code
def yX5_loadsRefused : MethodName := ⟨RX5, "loadsRefused", "(JI)I"⟩
abbrev cX5_mostLikeness : ByteArray := prog_7_method_21_code
def yX5_mostLikeness : MethodName := ⟨RX5, "mostLikeness", "(JI)I"⟩
abbrev cX5_pull : ByteArray := prog_7_method_22_code
def yX5_pull : MethodName := ⟨RX5, "pull", "(JII)I"⟩
abbrev cX5_takesOf : ByteArray := prog_7_method_23_code
def yX5_takesOf : MethodName := ⟨RX5, "takesOf", "(JII)I"⟩
abbrev cX5_choiceOf : ByteArray := prog_7_method_24_code
def yX5_choiceOf : MethodName := ⟨RX5, "choiceOf", "(JII)I"⟩
abbrev cX5_gone : ByteArray := prog_7_method_25_code
def yX5_gone : MethodName := ⟨RX5, "gone", "(JI)J"⟩
abbrev cX5_assInLine : ByteArray := prog_7_method_26_code
def yX5_assInLine : MethodName := ⟨RX5, "assInLine", "(II)I"⟩
abbrev cX5_loadTaken : ByteArray := prog_7_method_27_code
def yX5_loadTaken : MethodName := ⟨RX5, "loadTaken", "(II)I"⟩
abbrev cX5_takerOf : ByteArray := prog_7_method_28_code
def yX5_takerOf : MethodName := ⟨RX5, "takerOf", "(II)I"⟩
abbrev cX5_howManyTaken : ByteArray := prog_7_method_29_code
def yX5_howManyTaken : MethodName := ⟨RX5, "howManyTaken", "(I)I"⟩
def RX6 : String := "SmellBurdens$Reader"
def TX6 : u_T := fun k => match k with
  | 0 => ("SmellBurdens$Reader", "signs", "[I", true)
  | 1 => ("SmellBurdens$Reader", "draft", "LSmellBurdens$Plain;", true)
  | 2 => ("SmellBurdens$Reader", "state", "J", false)
  | 3 => ("SmellBurdens$Reader", "size", "I", false)
  | _ => ("SmellBurdens$Reader", "spot", "I", false)
def tyX6 : Nat → FieldType := fun k => match k with
  | 0 => .array .int
  | 1 => .object "SmellBurdens$Plain"
  | 2 => .long
  | 3 => .int
  | _ => .int
theorem nmX6 : ∀ a, a < 5 → ∀ b, b < 5 → a ≠ b → (TX6 a).2.1 ≠ (TX6 b).2.1 := by decide +kernel
theorem tyX6_ok : ∀ k, k < 5 → parseFieldDescriptor (TX6 k).2.2.1 = some (tyX6 k) := by decide +kernel
abbrev cX6_init : ByteArray := prog_8_method_1_code
def yX6_init : MethodName := ⟨RX6, "<init>", "()V"⟩
abbrev cX6_read : ByteArray := prog_8_method_2_code
def yX6_read : MethodName := ⟨RX6, "read", "(LSmellBurdens$Shelf;I)I"⟩
abbrev cX6_sign : ByteArray := prog_8_method_3_code
def yX6_sign : MethodName := ⟨RX6, "sign", "()I"⟩
abbrev cX6_skipBlanks : ByteArray := prog_8_method_4_code
def yX6_skipBlanks : MethodName := ⟨RX6, "skipBlanks", "()V"⟩
abbrev cX6_readRoads : ByteArray := prog_8_method_5_code
def yX6_readRoads : MethodName := ⟨RX6, "readRoads", "()Z"⟩
abbrev cX6_readItems : ByteArray := prog_8_method_6_code
def yX6_readItems : MethodName := ⟨RX6, "readItems", "()Z"⟩
abbrev cX6_readAss : ByteArray := prog_8_method_7_code
def yX6_readAss : MethodName := ⟨RX6, "readAss", "()Z"⟩
abbrev cX6_readLoad : ByteArray := prog_8_method_8_code
def yX6_readLoad : MethodName := ⟨RX6, "readLoad", "()Z"⟩
abbrev cX6_readFigure : ByteArray := prog_8_method_9_code
def yX6_readFigure : MethodName := ⟨RX6, "readFigure", "(I)I"⟩
abbrev cX6_readSet : ByteArray := prog_8_method_10_code
def yX6_readSet : MethodName := ⟨RX6, "readSet", "()I"⟩
def RX7 : String := "SmellBurdens$Scene"
def TX7 : u_T := fun k => match k with
  | _ => ("", "", "", false)
def tyX7 : Nat → FieldType := fun k => match k with
  | _ => .int
theorem nmX7 : ∀ a, a < 0 → ∀ b, b < 0 → a ≠ b → (TX7 a).2.1 ≠ (TX7 b).2.1 := by decide +kernel
theorem tyX7_ok : ∀ k, k < 0 → parseFieldDescriptor (TX7 k).2.2.1 = some (tyX7 k) := by decide +kernel
abbrev cX7_memoryOf : ByteArray := prog_9_method_2_code
def yX7_memoryOf : MethodName := ⟨RX7, "memoryOf", "(JI)I"⟩
abbrev cX7_innOf : ByteArray := prog_9_method_3_code
def yX7_innOf : MethodName := ⟨RX7, "innOf", "(JI)I"⟩
abbrev cX7_marksOf : ByteArray := prog_9_method_4_code
def yX7_marksOf : MethodName := ⟨RX7, "marksOf", "(JI)I"⟩
abbrev cX7_placeOf : ByteArray := prog_9_method_5_code
def yX7_placeOf : MethodName := ⟨RX7, "placeOf", "(JI)I"⟩
abbrev cX7_withMemory : ByteArray := prog_9_method_6_code
def yX7_withMemory : MethodName := ⟨RX7, "withMemory", "(JII)J"⟩
abbrev cX7_withInn : ByteArray := prog_9_method_7_code
def yX7_withInn : MethodName := ⟨RX7, "withInn", "(JII)J"⟩
abbrev cX7_withMarks : ByteArray := prog_9_method_8_code
def yX7_withMarks : MethodName := ⟨RX7, "withMarks", "(JII)J"⟩
abbrev cX7_withPlace : ByteArray := prog_9_method_9_code
def yX7_withPlace : MethodName := ⟨RX7, "withPlace", "(JII)J"⟩
abbrev cX7_part : ByteArray := prog_9_method_10_code
def yX7_part : MethodName := ⟨RX7, "part", "(JII)I"⟩
abbrev cX7_withPart : ByteArray := prog_9_method_11_code
def yX7_withPart : MethodName := ⟨RX7, "withPart", "(JIII)J"⟩
def RX8 : String := "SmellBurdens$Shelf"
def TX8 : u_T := fun k => match k with
  | 0 => ("SmellBurdens$Shelf", "most", "I", true)
  | 1 => ("SmellBurdens$Shelf", "sizes", "[I", true)
  | _ => ("SmellBurdens$Shelf", "cells", "[I", true)
def tyX8 : Nat → FieldType := fun k => match k with
  | 0 => .int
  | 1 => .array .int
  | _ => .array .int
theorem nmX8 : ∀ a, a < 3 → ∀ b, b < 3 → a ≠ b → (TX8 a).2.1 ≠ (TX8 b).2.1 := by decide +kernel
theorem tyX8_ok : ∀ k, k < 3 → parseFieldDescriptor (TX8 k).2.2.1 = some (tyX8 k) := by decide +kernel
abbrev cX8_init : ByteArray := prog_10_method_1_code
def yX8_init : MethodName := ⟨RX8, "<init>", "(II)V"⟩
abbrev cX8_isNumber : ByteArray := prog_10_method_2_code
def yX8_isNumber : MethodName := ⟨RX8, "isNumber", "(I)Z"⟩
abbrev cX8_sizeOf : ByteArray := prog_10_method_3_code
def yX8_sizeOf : MethodName := ⟨RX8, "sizeOf", "(I)I"⟩
abbrev cX8_isThere : ByteArray := prog_10_method_4_code
def yX8_isThere : MethodName := ⟨RX8, "isThere", "(I)Z"⟩
abbrev cX8_holds : ByteArray := prog_10_method_5_code
def yX8_holds : MethodName := ⟨RX8, "holds", "(III)Z"⟩
abbrev cX8_wrongPlace : ByteArray := prog_10_method_6_code
def yX8_wrongPlace : MethodName := ⟨RX8, "wrongPlace", "(II)I"⟩
abbrev cX8_renew : ByteArray := prog_10_method_7_code
def yX8_renew : MethodName := ⟨RX8, "renew", "(III)V"⟩
abbrev cX8_drop : ByteArray := prog_10_method_8_code
def yX8_drop : MethodName := ⟨RX8, "drop", "(I)V"⟩
abbrev cX8_get : ByteArray := prog_10_method_9_code
def yX8_get : MethodName := ⟨RX8, "get", "(II)I"⟩
abbrev cX8_swap : ByteArray := prog_10_method_10_code
def yX8_swap : MethodName := ⟨RX8, "swap", "(III)I"⟩
abbrev cX8_move : ByteArray := prog_10_method_11_code
def yX8_move : MethodName := ⟨RX8, "move", "(IIIII)V"⟩
abbrev cX8_sumOf : ByteArray := prog_10_method_12_code
def yX8_sumOf : MethodName := ⟨RX8, "sumOf", "(I)J"⟩
abbrev cX8_howManyThere : ByteArray := prog_10_method_13_code
def yX8_howManyThere : MethodName := ⟨RX8, "howManyThere", "()I"⟩
abbrev cX8_mixedInto : ByteArray := prog_10_method_14_code
def yX8_mixedInto : MethodName := ⟨RX8, "mixedInto", "(J)J"⟩
def RX9 : String := "SmellBurdens$Wall"
def TX9 : u_T := fun k => match k with
  | _ => ("SmellBurdens$Wall", "best", "[I", true)
def tyX9 : Nat → FieldType := fun k => match k with
  | _ => .array .int
theorem nmX9 : ∀ a, a < 1 → ∀ b, b < 1 → a ≠ b → (TX9 a).2.1 ≠ (TX9 b).2.1 := by decide +kernel
theorem tyX9_ok : ∀ k, k < 1 → parseFieldDescriptor (TX9 k).2.2.1 = some (tyX9 k) := by decide +kernel
abbrev cX9_init : ByteArray := prog_11_method_1_code
def yX9_init : MethodName := ⟨RX9, "<init>", "()V"⟩
abbrev cX9_bestFrom : ByteArray := prog_11_method_2_code
def yX9_bestFrom : MethodName := ⟨RX9, "bestFrom", "(II)I"⟩
abbrev cX9_setBest : ByteArray := prog_11_method_3_code
def yX9_setBest : MethodName := ⟨RX9, "setBest", "(III)V"⟩
abbrev cX9_most : ByteArray := prog_11_method_4_code
def yX9_most : MethodName := ⟨RX9, "most", "()I"⟩
abbrev cX9_weigh : ByteArray := prog_11_method_5_code
def yX9_weigh : MethodName := ⟨RX9, "weigh", "(LSmellBurdens$Plain;J)V"⟩
abbrev cX9_mostOf : ByteArray := prog_11_method_6_code
def yX9_mostOf : MethodName := ⟨RX9, "mostOf", "(LSmellBurdens$Plain;JII)I"⟩
abbrev cX9_mostWith : ByteArray := prog_11_method_7_code
def yX9_mostWith : MethodName := ⟨RX9, "mostWith", "(LSmellBurdens$Plain;JIII)I"⟩
abbrev cX9_giveOut : ByteArray := prog_11_method_8_code
def yX9_giveOut : MethodName := ⟨RX9, "giveOut", "(LSmellBurdens$Plain;JLSmellBurdens$Shelf;I)V"⟩
abbrev cX9_firstWith : ByteArray := prog_11_method_9_code
def yX9_firstWith : MethodName := ⟨RX9, "firstWith", "(LSmellBurdens$Plain;JII)I"⟩
abbrev cX9_firstOrder : ByteArray := prog_11_method_10_code
def yX9_firstOrder : MethodName := ⟨RX9, "firstOrder", "(LSmellBurdens$Plain;JII)I"⟩
abbrev cX9_howManyOrders : ByteArray := prog_11_method_11_code
def yX9_howManyOrders : MethodName := ⟨RX9, "howManyOrders", "(LSmellBurdens$Plain;JII)I"⟩
abbrev cX9_codes : ByteArray := prog_11_method_12_code
def yX9_codes : MethodName := ⟨RX9, "codes", "(LSmellBurdens$Plain;)I"⟩
abbrev cX9_orderOf : ByteArray := prog_11_method_13_code
def yX9_orderOf : MethodName := ⟨RX9, "orderOf", "(LSmellBurdens$Plain;I)I"⟩
abbrev cX9_takesBy : ByteArray := prog_11_method_14_code
def yX9_takesBy : MethodName := ⟨RX9, "takesBy", "(LSmellBurdens$Plain;JIII)Z"⟩
abbrev cX9_isOrder : ByteArray := prog_11_method_15_code
def yX9_isOrder : MethodName := ⟨RX9, "isOrder", "(LSmellBurdens$Plain;I)Z"⟩
abbrev cX9_fewestForAll : ByteArray := prog_11_method_16_code
def yX9_fewestForAll : MethodName := ⟨RX9, "fewestForAll", "(LSmellBurdens$Plain;J)I"⟩
abbrev cX9_takeAll : ByteArray := prog_11_method_17_code
def yX9_takeAll : MethodName := ⟨RX9, "takeAll", "(LSmellBurdens$Plain;JI)Z"⟩
abbrev cX9_takersByTurns : ByteArray := prog_11_method_18_code
def yX9_takersByTurns : MethodName := ⟨RX9, "takersByTurns", "(LSmellBurdens$Plain;JII)I"⟩
abbrev cX9_valueOf : ByteArray := prog_11_method_19_code
def yX9_valueOf : MethodName := ⟨RX9, "valueOf", "(JI)I"⟩
abbrev cX9_aheadOfTurn : ByteArray := prog_11_method_20_code
def yX9_aheadOfTurn : MethodName := ⟨RX9, "aheadOfTurn", "(JZ)J"⟩
def RX10 : String := "SmellBurdens"
def TX10 : u_T := fun k => match k with
  | 0 => ("SmellBurdens", "rows", "LSmellBurdens$Shelf;", true)
  | 1 => ("SmellBurdens", "texts", "LSmellBurdens$Shelf;", true)
  | 2 => ("SmellBurdens", "reader", "LSmellBurdens$Reader;", true)
  | 3 => ("SmellBurdens", "plain", "LSmellBurdens$Plain;", true)
  | 4 => ("SmellBurdens", "deeds", "LSmellBurdens$Deeds;", true)
  | 5 => ("SmellBurdens", "kept", "[LSmellBurdens$Deeds;", true)
  | 6 => ("SmellBurdens", "foresight", "LSmellBurdens$Foresight;", true)
  | 7 => ("SmellBurdens", "wall", "LSmellBurdens$Wall;", true)
  | 8 => ("SmellBurdens", "chances", "LSmellBurdens$Chances;", true)
  | 9 => ("SmellBurdens", "findingCounts", "[I", true)
  | 10 => ("SmellBurdens", "latestFinding", "I", false)
  | _ => ("SmellBurdens", "told", "I", false)
def tyX10 : Nat → FieldType := fun k => match k with
  | 0 => .object "SmellBurdens$Shelf"
  | 1 => .object "SmellBurdens$Shelf"
  | 2 => .object "SmellBurdens$Reader"
  | 3 => .object "SmellBurdens$Plain"
  | 4 => .object "SmellBurdens$Deeds"
  | 5 => .array (.object "SmellBurdens$Deeds")
  | 6 => .object "SmellBurdens$Foresight"
  | 7 => .object "SmellBurdens$Wall"
  | 8 => .object "SmellBurdens$Chances"
  | 9 => .array .int
  | 10 => .int
  | _ => .int
theorem nmX10 : ∀ a, a < 12 → ∀ b, b < 12 → a ≠ b → (TX10 a).2.1 ≠ (TX10 b).2.1 := by decide +kernel
theorem tyX10_ok : ∀ k, k < 12 → parseFieldDescriptor (TX10 k).2.2.1 = some (tyX10 k) := by decide +kernel
abbrev cX10_init : ByteArray := prog_1_method_1_code
def yX10_init : MethodName := ⟨RX10, "<init>", "()V"⟩
abbrev cX10_row : ByteArray := prog_1_method_2_code
def yX10_row : MethodName := ⟨RX10, "row", "(II)I"⟩
abbrev cX10_lay : ByteArray := prog_1_method_3_code
def yX10_lay : MethodName := ⟨RX10, "lay", "(III)I"⟩
abbrev cX10_at : ByteArray := prog_1_method_4_code
def yX10_at : MethodName := ⟨RX10, "at", "(II)I"⟩
abbrev cX10_tear : ByteArray := prog_1_method_5_code
def yX10_tear : MethodName := ⟨RX10, "tear", "(I)I"⟩
abbrev cX10_copy : ByteArray := prog_1_method_6_code
def yX10_copy : MethodName := ⟨RX10, "copy", "(IIIII)I"⟩
abbrev cX10_mean : ByteArray := prog_1_method_7_code
def yX10_mean : MethodName := ⟨RX10, "mean", "(I)I"⟩
abbrev cX10_text : ByteArray := prog_1_method_8_code
def yX10_text : MethodName := ⟨RX10, "text", "(II)I"⟩
abbrev cX10_put : ByteArray := prog_1_method_9_code
def yX10_put : MethodName := ⟨RX10, "put", "(III)I"⟩
abbrev cX10_fault : ByteArray := prog_1_method_10_code
def yX10_fault : MethodName := ⟨RX10, "fault", "(I)I"⟩
abbrev cX10_plain : ByteArray := prog_1_method_11_code
def yX10_plain : MethodName := ⟨RX10, "plain", "(I)I"⟩
abbrev cX10_ass : ByteArray := prog_1_method_12_code
def yX10_ass : MethodName := ⟨RX10, "ass", "(II)I"⟩
abbrev cX10_load : ByteArray := prog_1_method_13_code
def yX10_load : MethodName := ⟨RX10, "load", "(II)I"⟩
abbrev cX10_mark : ByteArray := prog_1_method_14_code
def yX10_mark : MethodName := ⟨RX10, "mark", "(II)I"⟩
abbrev cX10_day : ByteArray := prog_1_method_15_code
def yX10_day : MethodName := ⟨RX10, "day", "()I"⟩
abbrev cX10_smear : ByteArray := prog_1_method_16_code
def yX10_smear : MethodName := ⟨RX10, "smear", "(II)I"⟩
abbrev cX10_lead : ByteArray := prog_1_method_17_code
def yX10_lead : MethodName := ⟨RX10, "lead", "(II)I"⟩
abbrev cX10_undo : ByteArray := prog_1_method_18_code
def yX10_undo : MethodName := ⟨RX10, "undo", "(I)I"⟩
abbrev cX10_keep : ByteArray := prog_1_method_19_code
def yX10_keep : MethodName := ⟨RX10, "keep", "(I)I"⟩
abbrev cX10_on : ByteArray := prog_1_method_20_code
def yX10_on : MethodName := ⟨RX10, "on", "(I)I"⟩
abbrev cX10_like : ByteArray := prog_1_method_21_code
def yX10_like : MethodName := ⟨RX10, "like", "(II)I"⟩
abbrev cX10_who : ByteArray := prog_1_method_22_code
def yX10_who : MethodName := ⟨RX10, "who", "(I)I"⟩
abbrev cX10_where : ByteArray := prog_1_method_23_code
def yX10_where : MethodName := ⟨RX10, "where", "(II)I"⟩
abbrev cX10_home : ByteArray := prog_1_method_24_code
def yX10_home : MethodName := ⟨RX10, "home", "()I"⟩
abbrev cX10_round : ByteArray := prog_1_method_25_code
def yX10_round : MethodName := ⟨RX10, "round", "()I"⟩
abbrev cX10_marks : ByteArray := prog_1_method_26_code
def yX10_marks : MethodName := ⟨RX10, "marks", "(II)I"⟩
abbrev cX10_match : ByteArray := prog_1_method_27_code
def yX10_match : MethodName := ⟨RX10, "match", "(I)I"⟩
abbrev cX10_line : ByteArray := prog_1_method_28_code
def yX10_line : MethodName := ⟨RX10, "line", "(III)I"⟩
abbrev cX10_cover : ByteArray := prog_1_method_29_code
def yX10_cover : MethodName := ⟨RX10, "cover", "()I"⟩
abbrev cX10_memories : ByteArray := prog_1_method_30_code
def yX10_memories : MethodName := ⟨RX10, "memories", "(II)I"⟩
abbrev cX10_kinds : ByteArray := prog_1_method_31_code
def yX10_kinds : MethodName := ⟨RX10, "kinds", "(II)I"⟩
abbrev cX10_next : ByteArray := prog_1_method_32_code
def yX10_next : MethodName := ⟨RX10, "next", "(II)I"⟩
abbrev cX10_duel : ByteArray := prog_1_method_33_code
def yX10_duel : MethodName := ⟨RX10, "duel", "(II)I"⟩
abbrev cX10_odds : ByteArray := prog_1_method_34_code
def yX10_odds : MethodName := ⟨RX10, "odds", "(II)I"⟩
abbrev cX10_mid : ByteArray := prog_1_method_35_code
def yX10_mid : MethodName := ⟨RX10, "mid", "(I)I"⟩
abbrev cX10_lots : ByteArray := prog_1_method_36_code
def yX10_lots : MethodName := ⟨RX10, "lots", "(II)I"⟩
abbrev cX10_asked : ByteArray := prog_1_method_37_code
def yX10_asked : MethodName := ⟨RX10, "asked", "()I"⟩
abbrev cX10_upper : ByteArray := prog_1_method_38_code
def yX10_upper : MethodName := ⟨RX10, "upper", "()J"⟩
abbrev cX10_lower : ByteArray := prog_1_method_39_code
def yX10_lower : MethodName := ⟨RX10, "lower", "()J"⟩
abbrev cX10_count : ByteArray := prog_1_method_40_code
def yX10_count : MethodName := ⟨RX10, "count", "(I)I"⟩
abbrev cX10_finding : ByteArray := prog_1_method_41_code
def yX10_finding : MethodName := ⟨RX10, "finding", "()I"⟩
abbrev cX10_findings : ByteArray := prog_1_method_42_code
def yX10_findings : MethodName := ⟨RX10, "findings", "(I)I"⟩
abbrev cX10_digest : ByteArray := prog_1_method_43_code
def yX10_digest : MethodName := ⟨RX10, "digest", "()J"⟩
abbrev cX10_refuse : ByteArray := prog_1_method_44_code
def yX10_refuse : MethodName := ⟨RX10, "refuse", "(I)I"⟩
abbrev cX10_tell : ByteArray := prog_1_method_45_code
def yX10_tell : MethodName := ⟨RX10, "tell", "(I)I"⟩
abbrev cX10_isSet : ByteArray := prog_1_method_46_code
def yX10_isSet : MethodName := ⟨RX10, "isSet", "(I)Z"⟩
abbrev cX10_keptAt : ByteArray := prog_1_method_47_code
def yX10_keptAt : MethodName := ⟨RX10, "keptAt", "(I)LSmellBurdens$Deeds;"⟩
abbrev cX10_keptSize : ByteArray := prog_1_method_48_code
def yX10_keptSize : MethodName := ⟨RX10, "keptSize", "(I)I"⟩
abbrev cX10_howManyKept : ByteArray := prog_1_method_49_code
def yX10_howManyKept : MethodName := ⟨RX10, "howManyKept", "()I"⟩
abbrev cX10_ofAss : ByteArray := prog_1_method_50_code
def yX10_ofAss : MethodName := ⟨RX10, "ofAss", "(II)I"⟩
abbrev cX10_ofLoad : ByteArray := prog_1_method_51_code
def yX10_ofLoad : MethodName := ⟨RX10, "ofLoad", "(II)I"⟩
abbrev cX10_doDay : ByteArray := prog_1_method_52_code
def yX10_doDay : MethodName := ⟨RX10, "doDay", "()I"⟩
abbrev cX10_doSmear : ByteArray := prog_1_method_53_code
def yX10_doSmear : MethodName := ⟨RX10, "doSmear", "(II)V"⟩
abbrev cX10_doLead : ByteArray := prog_1_method_54_code
def yX10_doLead : MethodName := ⟨RX10, "doLead", "(II)V"⟩
abbrev cX10_doByLot : ByteArray := prog_1_method_55_code
def yX10_doByLot : MethodName := ⟨RX10, "doByLot", "(J)V"⟩
def RX11 : String := "SmellBurdensModel"
def TX11 : u_T := fun k => match k with
  | 0 => ("SmellBurdensModel", "told", "I", false)
  | 1 => ("SmellBurdensModel", "over", "J", false)
  | 2 => ("SmellBurdensModel", "under", "J", false)
  | 3 => ("SmellBurdensModel", "latest", "I", false)
  | 4 => ("SmellBurdensModel", "found", "[I", true)
  | 5 => ("SmellBurdensModel", "rowSizes", "[I", true)
  | 6 => ("SmellBurdensModel", "rows", "[I", true)
  | 7 => ("SmellBurdensModel", "textSizes", "[I", true)
  | 8 => ("SmellBurdensModel", "texts", "[I", true)
  | 9 => ("SmellBurdensModel", "moved", "[I", true)
  | 10 => ("SmellBurdensModel", "asses", "I", false)
  | 11 => ("SmellBurdensModel", "loads", "I", false)
  | 12 => ("SmellBurdensModel", "roads", "[I", true)
  | 13 => ("SmellBurdensModel", "sorts", "[I", true)
  | 14 => ("SmellBurdensModel", "homes", "[I", true)
  | 15 => ("SmellBurdensModel", "now", "[I", true)
  | 16 => ("SmellBurdensModel", "takes", "[I", true)
  | 17 => ("SmellBurdensModel", "size", "I", false)
  | 18 => ("SmellBurdensModel", "from", "I", false)
  | 19 => ("SmellBurdensModel", "place", "I", false)
  | 20 => ("SmellBurdensModel", "wrong", "I", false)
  | 21 => ("SmellBurdensModel", "read", "[I", true)
  | 22 => ("SmellBurdensModel", "deeds", "I", false)
  | 23 => ("SmellBurdensModel", "history", "[I", true)
  | 24 => ("SmellBurdensModel", "keptDeeds", "[I", true)
  | 25 => ("SmellBurdensModel", "kept", "[I", true)
  | 26 => ("SmellBurdensModel", "aside", "[I", true)
  | 27 => ("SmellBurdensModel", "met", "[J", true)
  | 28 => ("SmellBurdensModel", "given", "[I", true)
  | 29 => ("SmellBurdensModel", "order", "[I", true)
  | 30 => ("SmellBurdensModel", "worths", "[I", true)
  | _ => ("SmellBurdensModel", "then", "[I", true)
def tyX11 : Nat → FieldType := fun k => match k with
  | 0 => .int
  | 1 => .long
  | 2 => .long
  | 3 => .int
  | 4 => .array .int
  | 5 => .array .int
  | 6 => .array .int
  | 7 => .array .int
  | 8 => .array .int
  | 9 => .array .int
  | 10 => .int
  | 11 => .int
  | 12 => .array .int
  | 13 => .array .int
  | 14 => .array .int
  | 15 => .array .int
  | 16 => .array .int
  | 17 => .int
  | 18 => .int
  | 19 => .int
  | 20 => .int
  | 21 => .array .int
  | 22 => .int
  | 23 => .array .int
  | 24 => .array .int
  | 25 => .array .int
  | 26 => .array .int
  | 27 => .array .long
  | 28 => .array .int
  | 29 => .array .int
  | 30 => .array .int
  | _ => .array .int
theorem nmX11 : ∀ a, a < 32 → ∀ b, b < 32 → a ≠ b → (TX11 a).2.1 ≠ (TX11 b).2.1 := by decide +kernel
theorem tyX11_ok : ∀ k, k < 32 → parseFieldDescriptor (TX11 k).2.2.1 = some (tyX11 k) := by decide +kernel
abbrev cX11_in : ByteArray := prog_13_method_2_code
def yX11_in : MethodName := ⟨RX11, "in", "(JJJ)Z"⟩
abbrev cX11_init : ByteArray := prog_13_method_3_code
def yX11_init : MethodName := ⟨RX11, "<init>", "()V"⟩
abbrev cX11_finds : ByteArray := prog_13_method_4_code
def yX11_finds : MethodName := ⟨RX11, "finds", "(I)I"⟩
abbrev cX11_tells : ByteArray := prog_13_method_5_code
def yX11_tells : MethodName := ⟨RX11, "tells", "(I)I"⟩
abbrev cX11_asked : ByteArray := prog_13_method_6_code
def yX11_asked : MethodName := ⟨RX11, "asked", "()I"⟩
abbrev cX11_upper : ByteArray := prog_13_method_7_code
def yX11_upper : MethodName := ⟨RX11, "upper", "()J"⟩
abbrev cX11_lower : ByteArray := prog_13_method_8_code
def yX11_lower : MethodName := ⟨RX11, "lower", "()J"⟩
abbrev cX11_finding : ByteArray := prog_13_method_9_code
def yX11_finding : MethodName := ⟨RX11, "finding", "()I"⟩
abbrev cX11_findings : ByteArray := prog_13_method_10_code
def yX11_findings : MethodName := ⟨RX11, "findings", "(I)I"⟩
abbrev cX11_isRow : ByteArray := prog_13_method_11_code
def yX11_isRow : MethodName := ⟨RX11, "isRow", "(I)Z"⟩
abbrev cX11_isText : ByteArray := prog_13_method_12_code
def yX11_isText : MethodName := ⟨RX11, "isText", "(I)Z"⟩
abbrev cX11_fresh : ByteArray := prog_13_method_13_code
def yX11_fresh : MethodName := ⟨RX11, "fresh", "(II)V"⟩
abbrev cX11_row : ByteArray := prog_13_method_14_code
def yX11_row : MethodName := ⟨RX11, "row", "(II)I"⟩
abbrev cX11_whyPlace : ByteArray := prog_13_method_15_code
def yX11_whyPlace : MethodName := ⟨RX11, "whyPlace", "(II)I"⟩
abbrev cX11_lay : ByteArray := prog_13_method_16_code
def yX11_lay : MethodName := ⟨RX11, "lay", "(III)I"⟩
abbrev cX11_at : ByteArray := prog_13_method_17_code
def yX11_at : MethodName := ⟨RX11, "at", "(II)I"⟩
abbrev cX11_tear : ByteArray := prog_13_method_18_code
def yX11_tear : MethodName := ⟨RX11, "tear", "(I)I"⟩
abbrev cX11_copy : ByteArray := prog_13_method_19_code
def yX11_copy : MethodName := ⟨RX11, "copy", "(IIIII)I"⟩
abbrev cX11_mean : ByteArray := prog_13_method_20_code
def yX11_mean : MethodName := ⟨RX11, "mean", "(I)I"⟩
abbrev cX11_text : ByteArray := prog_13_method_21_code
def yX11_text : MethodName := ⟨RX11, "text", "(II)I"⟩
abbrev cX11_put : ByteArray := prog_13_method_22_code
def yX11_put : MethodName := ⟨RX11, "put", "(III)I"⟩
abbrev cX11_isAss : ByteArray := prog_13_method_23_code
def yX11_isAss : MethodName := ⟨RX11, "isAss", "(I)Z"⟩
abbrev cX11_isLoad : ByteArray := prog_13_method_24_code
def yX11_isLoad : MethodName := ⟨RX11, "isLoad", "(I)Z"⟩
abbrev cX11_isMarks : ByteArray := prog_13_method_25_code
def yX11_isMarks : MethodName := ⟨RX11, "isMarks", "(I)Z"⟩
abbrev cX11_many : ByteArray := prog_13_method_26_code
def yX11_many : MethodName := ⟨RX11, "many", "(I)I"⟩
abbrev cX11_likeBy : ByteArray := prog_13_method_27_code
def yX11_likeBy : MethodName := ⟨RX11, "likeBy", "(III)I"⟩
abbrev cX11_least : ByteArray := prog_13_method_28_code
def yX11_least : MethodName := ⟨RX11, "least", "(I)I"⟩
abbrev cX11_isTaken : ByteArray := prog_13_method_29_code
def yX11_isTaken : MethodName := ⟨RX11, "isTaken", "(III)Z"⟩
abbrev cX11_likeTo : ByteArray := prog_13_method_30_code
def yX11_likeTo : MethodName := ⟨RX11, "likeTo", "(II)I"⟩
abbrev cX11_refuses : ByteArray := prog_13_method_31_code
def yX11_refuses : MethodName := ⟨RX11, "refuses", "(II)Z"⟩
abbrev cX11_isHome : ByteArray := prog_13_method_32_code
def yX11_isHome : MethodName := ⟨RX11, "isHome", "(I)Z"⟩
abbrev cX11_atHome : ByteArray := prog_13_method_33_code
def yX11_atHome : MethodName := ⟨RX11, "atHome", "()I"⟩
abbrev cX11_takesOne : ByteArray := prog_13_method_34_code
def yX11_takesOne : MethodName := ⟨RX11, "takesOne", "(II)I"⟩
abbrev cX11_takesAll : ByteArray := prog_13_method_35_code
def yX11_takesAll : MethodName := ⟨RX11, "takesAll", "(I)I"⟩
abbrev cX11_allGo : ByteArray := prog_13_method_36_code
def yX11_allGo : MethodName := ⟨RX11, "allGo", "()V"⟩
abbrev cX11_goesBy : ByteArray := prog_13_method_37_code
def yX11_goesBy : MethodName := ⟨RX11, "goesBy", "()I"⟩
abbrev cX11_byteAt : ByteArray := prog_13_method_38_code
def yX11_byteAt : MethodName := ⟨RX11, "byteAt", "(I)I"⟩
abbrev cX11_skips : ByteArray := prog_13_method_39_code
def yX11_skips : MethodName := ⟨RX11, "skips", "()V"⟩
abbrev cX11_faults : ByteArray := prog_13_method_40_code
def yX11_faults : MethodName := ⟨RX11, "faults", "(I)V"⟩
abbrev cX11_figure : ByteArray := prog_13_method_41_code
def yX11_figure : MethodName := ⟨RX11, "figure", "(I)I"⟩
abbrev cX11_twoFigures : ByteArray := prog_13_method_42_code
def yX11_twoFigures : MethodName := ⟨RX11, "twoFigures", "()I"⟩
abbrev cX11_sortOf : ByteArray := prog_13_method_43_code
def yX11_sortOf : MethodName := ⟨RX11, "sortOf", "(I)I"⟩
abbrev cX11_readAss : ByteArray := prog_13_method_44_code
def yX11_readAss : MethodName := ⟨RX11, "readAss", "(I)V"⟩
abbrev cX11_readLoad : ByteArray := prog_13_method_45_code
def yX11_readLoad : MethodName := ⟨RX11, "readLoad", "()V"⟩
abbrev cX11_readItem : ByteArray := prog_13_method_46_code
def yX11_readItem : MethodName := ⟨RX11, "readItem", "()V"⟩
abbrev cX11_reads : ByteArray := prog_13_method_47_code
def yX11_reads : MethodName := ⟨RX11, "reads", "(I)I"⟩
abbrev cX11_fault : ByteArray := prog_13_method_48_code
def yX11_fault : MethodName := ⟨RX11, "fault", "(I)I"⟩
abbrev cX11_plain : ByteArray := prog_13_method_49_code
def yX11_plain : MethodName := ⟨RX11, "plain", "(I)I"⟩
abbrev cX11_ofAss : ByteArray := prog_13_method_50_code
def yX11_ofAss : MethodName := ⟨RX11, "ofAss", "(II)I"⟩
abbrev cX11_takerOf : ByteArray := prog_13_method_51_code
def yX11_takerOf : MethodName := ⟨RX11, "takerOf", "(I)I"⟩
abbrev cX11_ofLoad : ByteArray := prog_13_method_52_code
def yX11_ofLoad : MethodName := ⟨RX11, "ofLoad", "(II)I"⟩
abbrev cX11_ass : ByteArray := prog_13_method_53_code
def yX11_ass : MethodName := ⟨RX11, "ass", "(II)I"⟩
abbrev cX11_load : ByteArray := prog_13_method_54_code
def yX11_load : MethodName := ⟨RX11, "load", "(II)I"⟩
abbrev cX11_isA : ByteArray := prog_13_method_55_code
def yX11_isA : MethodName := ⟨RX11, "isA", "(II)Z"⟩
abbrev cX11_marksOf : ByteArray := prog_13_method_56_code
def yX11_marksOf : MethodName := ⟨RX11, "marksOf", "(II)I"⟩
abbrev cX11_mark : ByteArray := prog_13_method_57_code
def yX11_mark : MethodName := ⟨RX11, "mark", "(II)I"⟩
abbrev cX11_notes : ByteArray := prog_13_method_58_code
def yX11_notes : MethodName := ⟨RX11, "notes", "()V"⟩
abbrev cX11_day : ByteArray := prog_13_method_59_code
def yX11_day : MethodName := ⟨RX11, "day", "()I"⟩
abbrev cX11_smear : ByteArray := prog_13_method_60_code
def yX11_smear : MethodName := ⟨RX11, "smear", "(II)I"⟩
abbrev cX11_lead : ByteArray := prog_13_method_61_code
def yX11_lead : MethodName := ⟨RX11, "lead", "(II)I"⟩
abbrev cX11_undo : ByteArray := prog_13_method_62_code
def yX11_undo : MethodName := ⟨RX11, "undo", "(I)I"⟩
abbrev cX11_keep : ByteArray := prog_13_method_63_code
def yX11_keep : MethodName := ⟨RX11, "keep", "(I)I"⟩
abbrev cX11_on : ByteArray := prog_13_method_64_code
def yX11_on : MethodName := ⟨RX11, "on", "(I)I"⟩
abbrev cX11_like : ByteArray := prog_13_method_65_code
def yX11_like : MethodName := ⟨RX11, "like", "(II)I"⟩
abbrev cX11_takers : ByteArray := prog_13_method_66_code
def yX11_takers : MethodName := ⟨RX11, "takers", "(I)I"⟩
abbrev cX11_who : ByteArray := prog_13_method_67_code
def yX11_who : MethodName := ⟨RX11, "who", "(I)I"⟩
abbrev cX11_asides : ByteArray := prog_13_method_68_code
def yX11_asides : MethodName := ⟨RX11, "asides", "()V"⟩
abbrev cX11_backs : ByteArray := prog_13_method_69_code
def yX11_backs : MethodName := ⟨RX11, "backs", "()V"⟩
abbrev cX11_where : ByteArray := prog_13_method_70_code
def yX11_where : MethodName := ⟨RX11, "where", "(II)I"⟩
abbrev cX11_home : ByteArray := prog_13_method_71_code
def yX11_home : MethodName := ⟨RX11, "home", "()I"⟩
abbrev cX11_state : ByteArray := prog_13_method_72_code
def yX11_state : MethodName := ⟨RX11, "state", "()J"⟩
abbrev cX11_round : ByteArray := prog_13_method_73_code
def yX11_round : MethodName := ⟨RX11, "round", "()I"⟩
abbrev cX11_comesHome : ByteArray := prog_13_method_74_code
def yX11_comesHome : MethodName := ⟨RX11, "comesHome", "(II)Z"⟩
abbrev cX11_marks : ByteArray := prog_13_method_75_code
def yX11_marks : MethodName := ⟨RX11, "marks", "(II)I"⟩
abbrev cX11_worth : ByteArray := prog_13_method_76_code
def yX11_worth : MethodName := ⟨RX11, "worth", "(I)I"⟩
abbrev cX11_match : ByteArray := prog_13_method_77_code
def yX11_match : MethodName := ⟨RX11, "match", "(I)I"⟩
abbrev cX11_isOrder : ByteArray := prog_13_method_78_code
def yX11_isOrder : MethodName := ⟨RX11, "isOrder", "(I)Z"⟩
abbrev cX11_line : ByteArray := prog_13_method_79_code
def yX11_line : MethodName := ⟨RX11, "line", "(III)I"⟩
abbrev cX11_cover : ByteArray := prog_13_method_80_code
def yX11_cover : MethodName := ⟨RX11, "cover", "()I"⟩
abbrev cX11_whyPairs : ByteArray := prog_13_method_81_code
def yX11_whyPairs : MethodName := ⟨RX11, "whyPairs", "(I)I"⟩
abbrev cX11_isSo : ByteArray := prog_13_method_82_code
def yX11_isSo : MethodName := ⟨RX11, "isSo", "(III)Z"⟩
abbrev cX11_memoriesBy : ByteArray := prog_13_method_83_code
def yX11_memoriesBy : MethodName := ⟨RX11, "memoriesBy", "(II)I"⟩
abbrev cX11_memories : ByteArray := prog_13_method_84_code
def yX11_memories : MethodName := ⟨RX11, "memories", "(II)I"⟩
abbrev cX11_kinds : ByteArray := prog_13_method_85_code
def yX11_kinds : MethodName := ⟨RX11, "kinds", "(II)I"⟩
abbrev cX11_next : ByteArray := prog_13_method_86_code
def yX11_next : MethodName := ⟨RX11, "next", "(II)I"⟩
abbrev cX11_turns : ByteArray := prog_13_method_87_code
def yX11_turns : MethodName := ⟨RX11, "turns", "(Z)V"⟩
abbrev cX11_duel : ByteArray := prog_13_method_88_code
def yX11_duel : MethodName := ⟨RX11, "duel", "(II)I"⟩
abbrev cX11_fraction : ByteArray := prog_13_method_89_code
def yX11_fraction : MethodName := ⟨RX11, "fraction", "(JJ)V"⟩
abbrev cX11_part : ByteArray := prog_13_method_90_code
def yX11_part : MethodName := ⟨RX11, "part", "(II)J"⟩
abbrev cX11_allParts : ByteArray := prog_13_method_91_code
def yX11_allParts : MethodName := ⟨RX11, "allParts", "()J"⟩
abbrev cX11_odds : ByteArray := prog_13_method_92_code
def yX11_odds : MethodName := ⟨RX11, "odds", "(II)I"⟩
abbrev cX11_mid : ByteArray := prog_13_method_93_code
def yX11_mid : MethodName := ⟨RX11, "mid", "(I)I"⟩
abbrev cX11_lots : ByteArray := prog_13_method_94_code
def yX11_lots : MethodName := ⟨RX11, "lots", "(II)I"⟩
abbrev cX11_sortsLike : ByteArray := prog_13_method_95_code
def yX11_sortsLike : MethodName := ⟨RX11, "sortsLike", "(I)I"⟩
abbrev cX11_roadsNow : ByteArray := prog_13_method_96_code
def yX11_roadsNow : MethodName := ⟨RX11, "roadsNow", "()I"⟩
abbrev cX11_there : ByteArray := prog_13_method_97_code
def yX11_there : MethodName := ⟨RX11, "there", "(I)I"⟩
abbrev cX11_count : ByteArray := prog_13_method_98_code
def yX11_count : MethodName := ⟨RX11, "count", "(I)I"⟩
abbrev cX11_digest : ByteArray := prog_13_method_99_code
def yX11_digest : MethodName := ⟨RX11, "digest", "()J"⟩
def RJ6 : String := "java/lang/Integer"
abbrev cJ6_bitCount_0f7a4 : ByteArray := prog_14_method_49_code
def yJ6_bitCount_0f7a4 : MethodName := ⟨RJ6, "bitCount", "(I)I"⟩
def RJ13 : String := "java/lang/Long"
abbrev cJ13_bitCount_95d88 : ByteArray := prog_15_method_50_code
def yJ13_bitCount_95d88 : MethodName := ⟨RJ13, "bitCount", "(J)I"⟩
def RJ9 : String := "java/lang/Math"
abbrev cJ9_max_7cf53 : ByteArray := prog_16_method_65_code
def yJ9_max_7cf53 : MethodName := ⟨RJ9, "max", "(II)I"⟩
abbrev cJ9_min_7cf53 : ByteArray := prog_16_method_69_code
def yJ9_min_7cf53 : MethodName := ⟨RJ9, "min", "(II)I"⟩
def RJ10 : String := "java/lang/System"
def RL : String := "SmellBurdensLaw"
abbrev cL_law : ByteArray := code
def yL_law : MethodName := ⟨RL, "law", "([I)Z"⟩
abbrev vwCl : List vw_C := [(RX0, TX0, 2), (RX1, TX1, 4), (RX2, TX2, 1), (RX5, TX5, 5), (RX6, TX6, 5), (RX8, TX8, 3), (RX9, TX9, 1), (RX10, TX10, 12), (RX11, TX11, 32)]
end
section
/-! which cells a run makes, in their order (0: the script): 0 an object of a class of vwCl, 1 ints, 2 longs, 3 references; how many -/
def xShL : List (Nat × Nat) := [(9, 0), (0, 7), (0, 5), (1, 6), (1, 240), (0, 5), (1, 4), (1, 240), (0, 4), (1, 60), (0, 3), (0, 3), (0, 1), (2, 40), (3, 3), (0, 2), (2, 61), (0, 6), (1, 160), (0, 0), (1, 6), (0, 1), (2, 40), (0, 1), (2, 40), (0, 1), (2, 40), (0, 8), (1, 6), (1, 6), (1, 240), (1, 4), (1, 240), (1, 40), (1, 5), (1, 4), (1, 5), (1, 19), (1, 4), (1, 34), (1, 760), (1, 3), (1, 2337), (1, 19), (2, 61), (1, 4), (1, 4), (1, 16), (1, 16)]
def xSh (k : Nat) : Nat × Nat := xShL.getD k (9, 0)
def xKdL : List (List Nat) := [[1, 1], [2, 1, 1, 0], [2], [0, 0, 0, 0, 0], [2, 2, 1, 0, 0], [0, 2, 2], [2], [2, 2, 2, 2, 2, 2, 2, 2, 2, 2, 0, 0], [0, 1, 1, 0, 2, 2, 2, 2, 2, 2, 0, 0, 2, 2, 2, 2, 2, 0, 0, 0, 0, 2, 0, 2, 2, 2, 2, 2, 2, 2, 2, 2]]
def xKd (ci j : Nat) : Nat := (xKdL.getD ci []).getD j 9
def xNf (ci : Nat) : Nat := (xKdL.getD ci []).length
def xN : Nat := 48
-- class 0: 0 over, 1 under
-- class 1: 0 before, 1 now, 2 dayBits, 3 size
-- class 2: 0 seen
-- class 3: 0 asses, 1 loads, 2 kinds, 3 roads, 4 homes
-- class 4: 0 signs, 1 draft, 2 state, 3 size, 4 spot
-- class 5: 0 most, 1 sizes, 2 cells
-- class 6: 0 best
-- class 7: 0 rows, 1 texts, 2 reader, 3 plain, 4 deeds, 5 kept, 6 foresight, 7 wall, 8 chances, 9 findingCounts, 10 latestFinding, 11 told
-- class 8: 0 told, 1 over, 2 under, 3 latest, 4 found, 5 rowSizes, 6 rows, 7 textSizes, 8 texts, 9 moved, 10 asses, 11 loads, 12 roads, 13 sorts, 14 homes, 15 now, 16 takes, 17 size, 18 from, 19 place, 20 wrong, 21 read, 22 deeds, 23 history, 24 keptDeeds, 25 kept, 26 aside, 27 met, 28 given, 29 order, 30 worths, 31 then
theorem xt1 {w : Cond} (h : w ∈ tables_1_1) : w ∈ lw_tbl := List.mem_append_right _ (show w ∈ tables_1 from List.mem_append_left _ h)
theorem xt2 {w : Cond} (h : w ∈ tables_1_2) : w ∈ lw_tbl := List.mem_append_right _ (show w ∈ tables_1 from List.mem_append_right _ (List.mem_append_left _ h))
theorem xt3 {w : Cond} (h : w ∈ tables_1_3) : w ∈ lw_tbl := List.mem_append_right _ (show w ∈ tables_1 from List.mem_append_right _ (List.mem_append_right _ (List.mem_append_left _ h)))
theorem xt4 {w : Cond} (h : w ∈ tables_1_4) : w ∈ lw_tbl := List.mem_append_right _ (show w ∈ tables_1 from List.mem_append_right _ (List.mem_append_right _ (List.mem_append_right _ (List.mem_append_left _ h))))
theorem xt5 {w : Cond} (h : w ∈ tables_1_5) : w ∈ lw_tbl := List.mem_append_right _ (show w ∈ tables_1 from List.mem_append_right _ (List.mem_append_right _ (List.mem_append_right _ (List.mem_append_right _ (List.mem_append_left _ h)))))
theorem xt6 {w : Cond} (h : w ∈ tables_1_6) : w ∈ lw_tbl := List.mem_append_right _ (show w ∈ tables_1 from List.mem_append_right _ (List.mem_append_right _ (List.mem_append_right _ (List.mem_append_right _ (List.mem_append_right _ (h))))))
theorem xsl {w : Cond} (h : w ∈ k2_sels lw_privs) : w ∈ lw_tbl := List.mem_append_left _ h
def xNest : List Cond := [(Jvm.Cond.methodLinkNest "SmellBurdens" (23 : Nat) ({ cls := "SmellBurdens$Reader", name := "<init>", desc := "()V" } : Jvm.MethodName) "SmellBurdens"), (Jvm.Cond.methodLinkNest "SmellBurdens$Reader" (17 : Nat) ({ cls := "SmellBurdens$Plain", name := "<init>", desc := "()V" } : Jvm.MethodName) "SmellBurdens"), (Jvm.Cond.fieldLinkNest "SmellBurdens$Chances" (18 : Nat) "SmellBurdens$Plain" "asses" "I" "SmellBurdens"), (Jvm.Cond.fieldLinkNest "SmellBurdens$Wall" (19 : Nat) "SmellBurdens$Plain" "asses" "I" "SmellBurdens"), (Jvm.Cond.fieldLinkNest "SmellBurdens$Reader" (81 : Nat) "SmellBurdens$Plain" "asses" "I" "SmellBurdens"), (Jvm.Cond.fieldLinkNest "SmellBurdens" (195 : Nat) "SmellBurdens$Plain" "asses" "I" "SmellBurdens"), (Jvm.Cond.fieldLinkNest "SmellBurdens$Foresight" (29 : Nat) "SmellBurdens$Plain" "loads" "I" "SmellBurdens"), (Jvm.Cond.fieldLinkNest "SmellBurdens$Wall" (33 : Nat) "SmellBurdens$Plain" "loads" "I" "SmellBurdens"), (Jvm.Cond.fieldLinkNest "SmellBurdens$Reader" (67 : Nat) "SmellBurdens$Plain" "loads" "I" "SmellBurdens"), (Jvm.Cond.fieldLinkNest "SmellBurdens" (144 : Nat) "SmellBurdens$Plain" "loads" "I" "SmellBurdens"), (Jvm.Cond.fieldLinkNest "SmellBurdens" (127 : Nat) "SmellBurdens$Reader" "draft" "LSmellBurdens$Plain;" "SmellBurdens"), (Jvm.Cond.fieldLinkNest "SmellBurdens" (134 : Nat) "SmellBurdens$Reader" "state" "J" "SmellBurdens"), (Jvm.Cond.methodLinkNest "SmellBurdens" (30 : Nat) ({ cls := "SmellBurdens$Plain", name := "<init>", desc := "()V" } : Jvm.MethodName) "SmellBurdens"), (Jvm.Cond.methodLinkNest "SmellBurdens" (37 : Nat) ({ cls := "SmellBurdens$Deeds", name := "<init>", desc := "()V" } : Jvm.MethodName) "SmellBurdens"), (Jvm.Cond.fieldLinkNest "SmellBurdens" (169 : Nat) "SmellBurdens$Deeds" "now" "J" "SmellBurdens"), (Jvm.Cond.fieldLinkNest "SmellBurdens" (217 : Nat) "SmellBurdens$Deeds" "size" "I" "SmellBurdens"), (Jvm.Cond.methodLinkNest "SmellBurdens" (48 : Nat) ({ cls := "SmellBurdens$Foresight", name := "<init>", desc := "()V" } : Jvm.MethodName) "SmellBurdens"), (Jvm.Cond.methodLinkNest "SmellBurdens" (55 : Nat) ({ cls := "SmellBurdens$Wall", name := "<init>", desc := "()V" } : Jvm.MethodName) "SmellBurdens"), (Jvm.Cond.methodLinkNest "SmellBurdens" (62 : Nat) ({ cls := "SmellBurdens$Chances", name := "<init>", desc := "()V" } : Jvm.MethodName) "SmellBurdens"), (Jvm.Cond.fieldLinkNest "SmellBurdens" (327 : Nat) "SmellBurdens$Chances" "over" "J" "SmellBurdens"), (Jvm.Cond.fieldLinkNest "SmellBurdens" (330 : Nat) "SmellBurdens$Chances" "under" "J" "SmellBurdens"), (Jvm.Cond.methodLinkNest "SmellBurdens$Guess" (23 : Nat) ({ cls := "SmellBurdens", name := "isSet", desc := "(I)Z" } : Jvm.MethodName) "SmellBurdens")]
theorem xNest_in : ∀ w ∈ xNest, w ∈ lw_tbl := List.forall_mem_cons.mpr ⟨xt1 (List.mem_of_getElem? (i := 47) (by decide +kernel)), List.forall_mem_cons.mpr ⟨xt1 (List.mem_of_getElem? (i := 53) (by decide +kernel)), List.forall_mem_cons.mpr ⟨xt1 (List.mem_of_getElem? (i := 58) (by decide +kernel)), List.forall_mem_cons.mpr ⟨xt1 (List.mem_of_getElem? (i := 59) (by decide +kernel)), List.forall_mem_cons.mpr ⟨xt1 (List.mem_of_getElem? (i := 60) (by decide +kernel)), List.forall_mem_cons.mpr ⟨xt1 (List.mem_of_getElem? (i := 61) (by decide +kernel)), List.forall_mem_cons.mpr ⟨xt1 (List.mem_of_getElem? (i := 63) (by decide +kernel)), List.forall_mem_cons.mpr ⟨xt1 (List.mem_of_getElem? (i := 64) (by decide +kernel)), List.forall_mem_cons.mpr ⟨xt1 (List.mem_of_getElem? (i := 65) (by decide +kernel)), List.forall_mem_cons.mpr ⟨xt1 (List.mem_of_getElem? (i := 66) (by decide +kernel)), List.forall_mem_cons.mpr ⟨xt1 (List.mem_of_getElem? (i := 83) (by decide +kernel)), List.forall_mem_cons.mpr ⟨xt1 (List.mem_of_getElem? (i := 85) (by decide +kernel)), List.forall_mem_cons.mpr ⟨xt1 (List.mem_of_getElem? (i := 100) (by decide +kernel)), List.forall_mem_cons.mpr ⟨xt1 (List.mem_of_getElem? (i := 103) (by decide +kernel)), List.forall_mem_cons.mpr ⟨xt1 (List.mem_of_getElem? (i := 109) (by decide +kernel)), List.forall_mem_cons.mpr ⟨xt1 (List.mem_of_getElem? (i := 112) (by decide +kernel)), List.forall_mem_cons.mpr ⟨xt1 (List.mem_of_getElem? (i := 126) (by decide +kernel)), List.forall_mem_cons.mpr ⟨xt1 (List.mem_of_getElem? (i := 136) (by decide +kernel)), List.forall_mem_cons.mpr ⟨xt1 (List.mem_of_getElem? (i := 146) (by decide +kernel)), List.forall_mem_cons.mpr ⟨xt1 (List.mem_of_getElem? (i := 151) (by decide +kernel)), List.forall_mem_cons.mpr ⟨xt1 (List.mem_of_getElem? (i := 153) (by decide +kernel)), List.forall_mem_cons.mpr ⟨xt4 (List.mem_of_getElem? (i := 17) (by decide +kernel)), fun _ h => absurd h List.not_mem_nil⟩⟩⟩⟩⟩⟩⟩⟩⟩⟩⟩⟩⟩⟩⟩⟩⟩⟩⟩⟩⟩⟩
/-- the words that every method has beside its own code -/
def xG : List Cond := lw_tbl.filter goodWord
theorem xg {w : Cond} (h : w ∈ lw_tbl) (hg : goodWord w = true) : w ∈ xG := List.mem_filter.mpr ⟨h, hg⟩
theorem xin0 : ∀ w ∈ u_ws RX0 TX0 2, w ∈ xG := by
  intro w h
  obtain ⟨k, hk, rfl⟩ := List.mem_map.mp h
  have hk := List.mem_range.mp hk
  match k, hk with
  | 0, _ => exact xg (w := (Jvm.Cond.lays "SmellBurdens$Chances" "SmellBurdens$Chances" "over" "J")) (xt1 (List.mem_of_getElem? (i := 154) (by decide +kernel))) rfl
  | 1, _ => exact xg (w := (Jvm.Cond.lays "SmellBurdens$Chances" "SmellBurdens$Chances" "under" "J")) (xt1 (List.mem_of_getElem? (i := 156) (by decide +kernel))) rfl
  | k + 2, hk => exact absurd hk (by omega)
theorem xin1 : ∀ w ∈ u_ws RX1 TX1 4, w ∈ xG := by
  intro w h
  obtain ⟨k, hk, rfl⟩ := List.mem_map.mp h
  have hk := List.mem_range.mp hk
  match k, hk with
  | 0, _ => exact xg (w := (Jvm.Cond.laysFinal "SmellBurdens$Deeds" "SmellBurdens$Deeds" "before" "[J")) (xt1 (List.mem_of_getElem? (i := 113) (by decide +kernel))) rfl
  | 1, _ => exact xg (w := (Jvm.Cond.lays "SmellBurdens$Deeds" "SmellBurdens$Deeds" "now" "J")) (xt1 (List.mem_of_getElem? (i := 115) (by decide +kernel))) rfl
  | 2, _ => exact xg (w := (Jvm.Cond.lays "SmellBurdens$Deeds" "SmellBurdens$Deeds" "dayBits" "J")) (xt1 (List.mem_of_getElem? (i := 117) (by decide +kernel))) rfl
  | 3, _ => exact xg (w := (Jvm.Cond.lays "SmellBurdens$Deeds" "SmellBurdens$Deeds" "size" "I")) (xt1 (List.mem_of_getElem? (i := 119) (by decide +kernel))) rfl
  | k + 4, hk => exact absurd hk (by omega)
theorem xin2 : ∀ w ∈ u_ws RX2 TX2 1, w ∈ xG := by
  intro w h
  obtain ⟨k, hk, rfl⟩ := List.mem_map.mp h
  have hk := List.mem_range.mp hk
  match k, hk with
  | 0, _ => exact xg (w := (Jvm.Cond.laysFinal "SmellBurdens$Foresight" "SmellBurdens$Foresight" "seen" "[J")) (xt1 (List.mem_of_getElem? (i := 131) (by decide +kernel))) rfl
  | k + 1, hk => exact absurd hk (by omega)
theorem xin3 : ∀ w ∈ u_ws RX5 TX5 5, w ∈ xG := by
  intro w h
  obtain ⟨k, hk, rfl⟩ := List.mem_map.mp h
  have hk := List.mem_range.mp hk
  match k, hk with
  | 0, _ => exact xg (w := (Jvm.Cond.lays "SmellBurdens$Plain" "SmellBurdens$Plain" "asses" "I")) (xt1 (List.mem_of_getElem? (i := 70) (by decide +kernel))) rfl
  | 1, _ => exact xg (w := (Jvm.Cond.lays "SmellBurdens$Plain" "SmellBurdens$Plain" "loads" "I")) (xt1 (List.mem_of_getElem? (i := 72) (by decide +kernel))) rfl
  | 2, _ => exact xg (w := (Jvm.Cond.lays "SmellBurdens$Plain" "SmellBurdens$Plain" "kinds" "I")) (xt1 (List.mem_of_getElem? (i := 74) (by decide +kernel))) rfl
  | 3, _ => exact xg (w := (Jvm.Cond.lays "SmellBurdens$Plain" "SmellBurdens$Plain" "roads" "I")) (xt1 (List.mem_of_getElem? (i := 76) (by decide +kernel))) rfl
  | 4, _ => exact xg (w := (Jvm.Cond.lays "SmellBurdens$Plain" "SmellBurdens$Plain" "homes" "I")) (xt1 (List.mem_of_getElem? (i := 78) (by decide +kernel))) rfl
  | k + 5, hk => exact absurd hk (by omega)
theorem xin4 : ∀ w ∈ u_ws RX6 TX6 5, w ∈ xG := by
  intro w h
  obtain ⟨k, hk, rfl⟩ := List.mem_map.mp h
  have hk := List.mem_range.mp hk
  match k, hk with
  | 0, _ => exact xg (w := (Jvm.Cond.laysFinal "SmellBurdens$Reader" "SmellBurdens$Reader" "signs" "[I")) (xt1 (List.mem_of_getElem? (i := 88) (by decide +kernel))) rfl
  | 1, _ => exact xg (w := (Jvm.Cond.laysFinal "SmellBurdens$Reader" "SmellBurdens$Reader" "draft" "LSmellBurdens$Plain;")) (xt1 (List.mem_of_getElem? (i := 90) (by decide +kernel))) rfl
  | 2, _ => exact xg (w := (Jvm.Cond.lays "SmellBurdens$Reader" "SmellBurdens$Reader" "state" "J")) (xt1 (List.mem_of_getElem? (i := 92) (by decide +kernel))) rfl
  | 3, _ => exact xg (w := (Jvm.Cond.lays "SmellBurdens$Reader" "SmellBurdens$Reader" "size" "I")) (xt1 (List.mem_of_getElem? (i := 94) (by decide +kernel))) rfl
  | 4, _ => exact xg (w := (Jvm.Cond.lays "SmellBurdens$Reader" "SmellBurdens$Reader" "spot" "I")) (xt1 (List.mem_of_getElem? (i := 96) (by decide +kernel))) rfl
  | k + 5, hk => exact absurd hk (by omega)
theorem xin5 : ∀ w ∈ u_ws RX8 TX8 3, w ∈ xG := by
  intro w h
  obtain ⟨k, hk, rfl⟩ := List.mem_map.mp h
  have hk := List.mem_range.mp hk
  match k, hk with
  | 0, _ => exact xg (w := (Jvm.Cond.laysFinal "SmellBurdens$Shelf" "SmellBurdens$Shelf" "most" "I")) (xt1 (List.mem_of_getElem? (i := 37) (by decide +kernel))) rfl
  | 1, _ => exact xg (w := (Jvm.Cond.laysFinal "SmellBurdens$Shelf" "SmellBurdens$Shelf" "sizes" "[I")) (xt1 (List.mem_of_getElem? (i := 39) (by decide +kernel))) rfl
  | 2, _ => exact xg (w := (Jvm.Cond.laysFinal "SmellBurdens$Shelf" "SmellBurdens$Shelf" "cells" "[I")) (xt1 (List.mem_of_getElem? (i := 41) (by decide +kernel))) rfl
  | k + 3, hk => exact absurd hk (by omega)
theorem xin6 : ∀ w ∈ u_ws RX9 TX9 1, w ∈ xG := by
  intro w h
  obtain ⟨k, hk, rfl⟩ := List.mem_map.mp h
  have hk := List.mem_range.mp hk
  match k, hk with
  | 0, _ => exact xg (w := (Jvm.Cond.laysFinal "SmellBurdens$Wall" "SmellBurdens$Wall" "best" "[I")) (xt1 (List.mem_of_getElem? (i := 141) (by decide +kernel))) rfl
  | k + 1, hk => exact absurd hk (by omega)
theorem xin7 : ∀ w ∈ u_ws RX10 TX10 12, w ∈ xG := by
  intro w h
  obtain ⟨k, hk, rfl⟩ := List.mem_map.mp h
  have hk := List.mem_range.mp hk
  match k, hk with
  | 0, _ => exact xg (w := (Jvm.Cond.laysFinal "SmellBurdens" "SmellBurdens" "rows" "LSmellBurdens$Shelf;")) (xt1 (List.mem_of_getElem? (i := 175) (by decide +kernel))) rfl
  | 1, _ => exact xg (w := (Jvm.Cond.laysFinal "SmellBurdens" "SmellBurdens" "texts" "LSmellBurdens$Shelf;")) (xt1 (List.mem_of_getElem? (i := 177) (by decide +kernel))) rfl
  | 2, _ => exact xg (w := (Jvm.Cond.laysFinal "SmellBurdens" "SmellBurdens" "reader" "LSmellBurdens$Reader;")) (xt1 (List.mem_of_getElem? (i := 179) (by decide +kernel))) rfl
  | 3, _ => exact xg (w := (Jvm.Cond.laysFinal "SmellBurdens" "SmellBurdens" "plain" "LSmellBurdens$Plain;")) (xt1 (List.mem_of_getElem? (i := 181) (by decide +kernel))) rfl
  | 4, _ => exact xg (w := (Jvm.Cond.laysFinal "SmellBurdens" "SmellBurdens" "deeds" "LSmellBurdens$Deeds;")) (xt1 (List.mem_of_getElem? (i := 183) (by decide +kernel))) rfl
  | 5, _ => exact xg (w := (Jvm.Cond.laysFinal "SmellBurdens" "SmellBurdens" "kept" "[LSmellBurdens$Deeds;")) (xt1 (List.mem_of_getElem? (i := 185) (by decide +kernel))) rfl
  | 6, _ => exact xg (w := (Jvm.Cond.laysFinal "SmellBurdens" "SmellBurdens" "foresight" "LSmellBurdens$Foresight;")) (xt1 (List.mem_of_getElem? (i := 187) (by decide +kernel))) rfl
  | 7, _ => exact xg (w := (Jvm.Cond.laysFinal "SmellBurdens" "SmellBurdens" "wall" "LSmellBurdens$Wall;")) (xt1 (List.mem_of_getElem? (i := 189) (by decide +kernel))) rfl
  | 8, _ => exact xg (w := (Jvm.Cond.laysFinal "SmellBurdens" "SmellBurdens" "chances" "LSmellBurdens$Chances;")) (xt1 (List.mem_of_getElem? (i := 191) (by decide +kernel))) rfl
  | 9, _ => exact xg (w := (Jvm.Cond.laysFinal "SmellBurdens" "SmellBurdens" "findingCounts" "[I")) (xt1 (List.mem_of_getElem? (i := 193) (by decide +kernel))) rfl
  | 10, _ => exact xg (w := (Jvm.Cond.lays "SmellBurdens" "SmellBurdens" "latestFinding" "I")) (xt1 (List.mem_of_getElem? (i := 195) (by decide +kernel))) rfl
  | 11, _ => exact xg (w := (Jvm.Cond.lays "SmellBurdens" "SmellBurdens" "told" "I")) (xt1 (List.mem_of_getElem? (i := 197) (by decide +kernel))) rfl
  | k + 12, hk => exact absurd hk (by omega)
theorem xin8 : ∀ w ∈ u_ws RX11 TX11 32, w ∈ xG := by
  intro w h
  obtain ⟨k, hk, rfl⟩ := List.mem_map.mp h
  have hk := List.mem_range.mp hk
  match k, hk with
  | 0, _ => exact xg (w := (Jvm.Cond.lays "SmellBurdensModel" "SmellBurdensModel" "told" "I")) (xt4 (List.mem_of_getElem? (i := 215) (by decide +kernel))) rfl
  | 1, _ => exact xg (w := (Jvm.Cond.lays "SmellBurdensModel" "SmellBurdensModel" "over" "J")) (xt4 (List.mem_of_getElem? (i := 217) (by decide +kernel))) rfl
  | 2, _ => exact xg (w := (Jvm.Cond.lays "SmellBurdensModel" "SmellBurdensModel" "under" "J")) (xt4 (List.mem_of_getElem? (i := 219) (by decide +kernel))) rfl
  | 3, _ => exact xg (w := (Jvm.Cond.lays "SmellBurdensModel" "SmellBurdensModel" "latest" "I")) (xt4 (List.mem_of_getElem? (i := 221) (by decide +kernel))) rfl
  | 4, _ => exact xg (w := (Jvm.Cond.laysFinal "SmellBurdensModel" "SmellBurdensModel" "found" "[I")) (xt4 (List.mem_of_getElem? (i := 223) (by decide +kernel))) rfl
  | 5, _ => exact xg (w := (Jvm.Cond.laysFinal "SmellBurdensModel" "SmellBurdensModel" "rowSizes" "[I")) (xt4 (List.mem_of_getElem? (i := 225) (by decide +kernel))) rfl
  | 6, _ => exact xg (w := (Jvm.Cond.laysFinal "SmellBurdensModel" "SmellBurdensModel" "rows" "[I")) (xt4 (List.mem_of_getElem? (i := 227) (by decide +kernel))) rfl
  | 7, _ => exact xg (w := (Jvm.Cond.laysFinal "SmellBurdensModel" "SmellBurdensModel" "textSizes" "[I")) (xt4 (List.mem_of_getElem? (i := 229) (by decide +kernel))) rfl
  | 8, _ => exact xg (w := (Jvm.Cond.laysFinal "SmellBurdensModel" "SmellBurdensModel" "texts" "[I")) (xt4 (List.mem_of_getElem? (i := 231) (by decide +kernel))) rfl
  | 9, _ => exact xg (w := (Jvm.Cond.laysFinal "SmellBurdensModel" "SmellBurdensModel" "moved" "[I")) (xt4 (List.mem_of_getElem? (i := 233) (by decide +kernel))) rfl
  | 10, _ => exact xg (w := (Jvm.Cond.lays "SmellBurdensModel" "SmellBurdensModel" "asses" "I")) (xt4 (List.mem_of_getElem? (i := 235) (by decide +kernel))) rfl
  | 11, _ => exact xg (w := (Jvm.Cond.lays "SmellBurdensModel" "SmellBurdensModel" "loads" "I")) (xt4 (List.mem_of_getElem? (i := 237) (by decide +kernel))) rfl
  | 12, _ => exact xg (w := (Jvm.Cond.laysFinal "SmellBurdensModel" "SmellBurdensModel" "roads" "[I")) (xt4 (List.mem_of_getElem? (i := 239) (by decide +kernel))) rfl
  | 13, _ => exact xg (w := (Jvm.Cond.laysFinal "SmellBurdensModel" "SmellBurdensModel" "sorts" "[I")) (xt5 (List.mem_of_getElem? (i := 1) (by decide +kernel))) rfl
  | 14, _ => exact xg (w := (Jvm.Cond.laysFinal "SmellBurdensModel" "SmellBurdensModel" "homes" "[I")) (xt5 (List.mem_of_getElem? (i := 3) (by decide +kernel))) rfl
  | 15, _ => exact xg (w := (Jvm.Cond.laysFinal "SmellBurdensModel" "SmellBurdensModel" "now" "[I")) (xt5 (List.mem_of_getElem? (i := 5) (by decide +kernel))) rfl
  | 16, _ => exact xg (w := (Jvm.Cond.laysFinal "SmellBurdensModel" "SmellBurdensModel" "takes" "[I")) (xt5 (List.mem_of_getElem? (i := 7) (by decide +kernel))) rfl
  | 17, _ => exact xg (w := (Jvm.Cond.lays "SmellBurdensModel" "SmellBurdensModel" "size" "I")) (xt5 (List.mem_of_getElem? (i := 9) (by decide +kernel))) rfl
  | 18, _ => exact xg (w := (Jvm.Cond.lays "SmellBurdensModel" "SmellBurdensModel" "from" "I")) (xt5 (List.mem_of_getElem? (i := 11) (by decide +kernel))) rfl
  | 19, _ => exact xg (w := (Jvm.Cond.lays "SmellBurdensModel" "SmellBurdensModel" "place" "I")) (xt5 (List.mem_of_getElem? (i := 13) (by decide +kernel))) rfl
  | 20, _ => exact xg (w := (Jvm.Cond.lays "SmellBurdensModel" "SmellBurdensModel" "wrong" "I")) (xt5 (List.mem_of_getElem? (i := 15) (by decide +kernel))) rfl
  | 21, _ => exact xg (w := (Jvm.Cond.laysFinal "SmellBurdensModel" "SmellBurdensModel" "read" "[I")) (xt5 (List.mem_of_getElem? (i := 17) (by decide +kernel))) rfl
  | 22, _ => exact xg (w := (Jvm.Cond.lays "SmellBurdensModel" "SmellBurdensModel" "deeds" "I")) (xt5 (List.mem_of_getElem? (i := 19) (by decide +kernel))) rfl
  | 23, _ => exact xg (w := (Jvm.Cond.laysFinal "SmellBurdensModel" "SmellBurdensModel" "history" "[I")) (xt5 (List.mem_of_getElem? (i := 21) (by decide +kernel))) rfl
  | 24, _ => exact xg (w := (Jvm.Cond.laysFinal "SmellBurdensModel" "SmellBurdensModel" "keptDeeds" "[I")) (xt5 (List.mem_of_getElem? (i := 23) (by decide +kernel))) rfl
  | 25, _ => exact xg (w := (Jvm.Cond.laysFinal "SmellBurdensModel" "SmellBurdensModel" "kept" "[I")) (xt5 (List.mem_of_getElem? (i := 25) (by decide +kernel))) rfl
  | 26, _ => exact xg (w := (Jvm.Cond.laysFinal "SmellBurdensModel" "SmellBurdensModel" "aside" "[I")) (xt5 (List.mem_of_getElem? (i := 27) (by decide +kernel))) rfl
  | 27, _ => exact xg (w := (Jvm.Cond.laysFinal "SmellBurdensModel" "SmellBurdensModel" "met" "[J")) (xt5 (List.mem_of_getElem? (i := 29) (by decide +kernel))) rfl
  | 28, _ => exact xg (w := (Jvm.Cond.laysFinal "SmellBurdensModel" "SmellBurdensModel" "given" "[I")) (xt5 (List.mem_of_getElem? (i := 31) (by decide +kernel))) rfl
  | 29, _ => exact xg (w := (Jvm.Cond.laysFinal "SmellBurdensModel" "SmellBurdensModel" "order" "[I")) (xt5 (List.mem_of_getElem? (i := 33) (by decide +kernel))) rfl
  | 30, _ => exact xg (w := (Jvm.Cond.laysFinal "SmellBurdensModel" "SmellBurdensModel" "worths" "[I")) (xt5 (List.mem_of_getElem? (i := 35) (by decide +kernel))) rfl
  | 31, _ => exact xg (w := (Jvm.Cond.laysFinal "SmellBurdensModel" "SmellBurdensModel" "then" "[I")) (xt5 (List.mem_of_getElem? (i := 37) (by decide +kernel))) rfl
  | k + 32, hk => exact absurd hk (by omega)
end
section
/-! A WALK BY COMPUTATION: worlds of numbered cells, what an instruction does to them (xstep), a method's walk (xwp), what a contract is (xCon) -/
abbrev xI : Type := Nat → Nat → Int32
abbrev xL : Type := Nat → Nat → Int64
abbrev xR : Type := Nat → Nat → Option Nat
abbrev xV : Type := List (Option Value)
abbrev xQ : Type := Option Value → Nat → xI → xL → xR → Prop
abbrev xSpec : Type := List Value → Nat → xI → xL → xR → xQ → Prop
/-- place, length, instruction, a, b, c, table -/
abbrev xE : Type := Nat × Nat × Instr × Nat × Nat × Nat × List (Nat × Nat)
/-- name, code, locals, return type, kind (0 virtual, 1 static, 2 <init>, 9 the law), arguments beside the receiver, receiver's class, frames, words of locals, cells made, program -/
abbrev xM : Type := MethodName × ByteArray × Nat × Option FieldType × Nat × Nat × Nat × Nat × Nat × Nat × List xE
def mY (M : xM) : MethodName := M.1
def mC (M : xM) : ByteArray := M.2.1
def mL (M : xM) : Nat := M.2.2.1
def mT (M : xM) : Option FieldType := M.2.2.2.1
def mK (M : xM) : Nat := M.2.2.2.2.1
def mA (M : xM) : Nat := M.2.2.2.2.2.1
def mO (M : xM) : Nat := M.2.2.2.2.2.2.1
def mF (M : xM) : Nat := M.2.2.2.2.2.2.2.1
def mW (M : xM) : Nat := M.2.2.2.2.2.2.2.2.1
def mN (M : xM) : Nat := M.2.2.2.2.2.2.2.2.2.1
def mP (M : xM) : List xE := M.2.2.2.2.2.2.2.2.2.2
abbrev xCs : Type := List (xM × xSpec)
def xad (b base : Nat) : Nat → Nat := fun k => match k with
  | 0 => b
  | k + 1 => base + k
def xv (b base : Nat) : Value → Value := fun v => match v with
  | .ref k => .ref (xad b base k)
  | v => v
def xrf (r : Option Nat) : Value := match r with
  | none => .null
  | some k => .ref k
def xro (b base : Nat) (r : Option Nat) : Option Nat := r.map (xad b base)
def xfv (ci k j : Nat) (I : xI) (L : xL) (P : xR) : Value := match xKd ci j with
  | 0 => .int (I k j)
  | 1 => .long (L k j)
  | _ => xrf (P k j)
def xfs (b base ci k : Nat) (I : xI) (L : xL) (P : xR) : List Value := (List.range (xNf ci)).map fun j => xv b base (xfv ci k j I L P)
def xent (b base : Nat) (cI cJ cD : ClassId) (k : Nat) (I : xI) (L : xL) (P : xR) : va_E := match (xSh k).1 with
  | 0 => .inr ((xSh k).2, xfs b base (xSh k).2 k I L P)
  | 1 => .inl (cI, (xSh k).2, .inl (I k))
  | 2 => .inl (cJ, (xSh k).2, .inr (.inl (L k)))
  | _ => .inl (cD, (xSh k).2, .inr (.inr (.inr (.inr (fun j => xro b base (P k j))))))
def xws (b base : Nat) (cI cJ cD : ClassId) (n : Nat) (I : xI) (L : xL) (P : xR) : va_W := (List.range n).map fun k => (base + k, xent b base cI cJ cD (k + 1) I L P)
def xSl (k : Nat) : Nat := match (xSh k).1 with
  | 0 => xNf (xSh k).2
  | _ => (xSh k).2
def xS : Nat → Nat
  | 0 => 0
  | n + 1 => xS n + xSl (n + 1)
def xup {α : Type} (I : Nat → Nat → α) (k j : Nat) (v : α) : Nat → Nat → α := fun k' => if k' = k then (fun j' => if j' = j then v else I k j') else I k'
def xrw {α : Type} (I : Nat → Nat → α) (k : Nat) (f : Nat → α) : Nat → Nat → α := fun k' => if k' = k then f else I k'
-- locals
def xgt : xV → Nat → (Value → Prop) → Prop
  | [], _, _ => False
  | x :: _, 0, k => match x with
    | some v => k v
    | none => False
  | _ :: r, i + 1, k => xgt r i k
def xs1 (v : Value) : xV → Nat → (xV → Prop) → Prop
  | [], _, _ => False
  | _ :: r, 0, k => k (some v :: r)
  | x :: r, 1, k => match x with
    | some (.long _) => xs1 v r 0 (fun r' => k (none :: r'))
    | some (.double _) => xs1 v r 0 (fun r' => k (none :: r'))
    | x => xs1 v r 0 (fun r' => k (x :: r'))
  | x :: r, i + 2, k => xs1 v r (i + 1) (fun r' => k (x :: r'))
def xs2 (v : Value) : xV → Nat → (xV → Prop) → Prop
  | [], _, _ => False
  | _ :: r, 0, k => match r with
    | [] => False
    | _ :: r => k (some v :: none :: r)
  | x :: r, 1, k => match x with
    | some (.long _) => xs2 v r 0 (fun r' => k (none :: r'))
    | some (.double _) => xs2 v r 0 (fun r' => k (none :: r'))
    | x => xs2 v r 0 (fun r' => k (x :: r'))
  | x :: r, i + 2, k => xs2 v r (i + 1) (fun r' => k (x :: r'))
def xmask : List Bool → xV → xV
  | true :: m, x :: r => x :: xmask m r
  | false :: m, _ :: r => none :: xmask m r
  | _, r => r.map fun _ => none
-- stacks
def xpI (st : List Value) (k : Int32 → List Value → Prop) : Prop := match st with
  | .int x :: r => k x r
  | _ => False
def xpL (st : List Value) (k : Int64 → List Value → Prop) : Prop := match st with
  | .long x :: r => k x r
  | _ => False
def xpR (st : List Value) (k : Nat → List Value → Prop) : Prop := match st with
  | .ref x :: r => k x r
  | _ => False
/-- one of category 1 -/
def xp1 (st : List Value) (k : Value → List Value → Prop) : Prop := match st with
  | .int x :: r => k (.int x) r
  | .ref x :: r => k (.ref x) r
  | .null :: r => k .null r
  | _ => False
/-- a reference or null -/
def xpN (st : List Value) (kn : List Value → Prop) (k : Nat → List Value → Prop) : Prop := match st with
  | .ref x :: r => k x r
  | .null :: r => kn r
  | _ => False
def xpop : Nat → List Value → List Value → (List Value → List Value → Prop) → Prop
  | 0, st, as, k => k as st
  | n + 1, st, as, k => match st with
    | v :: r => xpop n r (v :: as) k
    | [] => False
/-- at most so many words -/
def xle : Nat → List Value → Bool
  | _, [] => true
  | 0, _ :: _ => false
  | b + 1, v :: r => match v with
    | .long _ => (match b with
      | 0 => false
      | b + 1 => xle b r)
    | .double _ => (match b with
      | 0 => false
      | b + 1 => xle b r)
    | _ => xle b r
def xT (c : Bool) (A : Prop) : Prop := match c with
  | true => A
  | false => False
def xbr (c A B : Prop) : Prop := (c → A) ∧ (¬ c → B)
def xci (i : Int) (a : Nat) (k : Int32 → Prop) : Prop := match i with
  | .ofNat _ => k (nI a)
  | .negSucc _ => k (-(nI a))
def xcl (c a : Nat) (k : Int64 → Prop) : Prop := match c with
  | 0 => k (lN a)
  | _ => k (-(lN a))
def xcmp (cnd : ClassFile.Cond) (x y : Int32) (A B : Prop) : Prop := match cnd with
  | .eq => xbr (x = y) A B
  | .ne => xbr (x = y) B A
  | .lt => xbr (x < y) A B
  | .ge => xbr (y ≤ x) A B
  | .gt => xbr (y < x) A B
  | .le => xbr (x ≤ y) A B
def xsw (x : Int32) (t : List (Nat × Nat)) (J : Nat → Prop) (d : Nat) : Prop := match t with
  | [] => J d
  | q :: r => xbr (x = nI q.1) (J q.2) (xsw x r J d)
def xsel {α : Type} (c A B : α) (k : Nat) : α := match k with
  | 0 => c
  | 1 => A
  | _ => B
def xrcv (kd : Nat) (as : List Value) (n o : Nat) : Bool := match kd with
  | 0 => (match as with
    | .ref r :: _ => (match r with
      | 0 => false
      | r + 1 => Nat.blt r n && (Nat.beq (xSh (r + 1)).1 0 && Nat.beq (xSh (r + 1)).2 o))
    | _ => false)
  | 1 => true
  | _ => (match as with
    | .ref _ :: _ => true
    | _ => false)
def xcall (M : xM) (cs : xCs) (a : Nat) (kd : Nat) (k : Nat) (st : List Value) (n : Nat) (I : xI) (L : xL) (P : xR) (K : xM → List Value → xQ) : Prop := match cs[a]? with
  | none => False
  | some q => xT (Nat.beq (mK q.1) kd && Nat.ble (k + mN q.1) (mN M)) (xpop (xsel (mA q.1 + 1) (mA q.1) (mA q.1 + 1) kd) st [] fun as st' => xT (xle 8 st') (xT (xrcv kd as n (mO q.1)) (q.2 as n I L P (K q.1 st'))))
abbrev xK : Type := xQ → xV → List Value → Nat → Nat → xI → xL → xR → Prop
/-- a cell of the class of number a; an array of a kind -/
def xob (r n a : Nat) : Bool := match r with
  | 0 => false
  | r + 1 => Nat.blt r n && (Nat.beq (xSh (r + 1)).1 0 && Nat.beq (xSh (r + 1)).2 a)
def xar (r n t : Nat) (k : Nat → Prop) : Prop := match r with
  | 0 => False
  | r + 1 => match Nat.blt r n with
    | true => (match xSh (r + 1) with
      | (t', z) => (match Nat.beq t' t with
        | true => k z
        | false => False))
    | false => False
def xal (r n : Nat) (k : Nat → Prop) : Prop := match r with
  | 0 => False
  | r + 1 => match Nat.blt r n with
    | true => (match xSh (r + 1) with
      | (t', z) => (match Nat.blt 0 t' with
        | true => k z
        | false => False))
    | false => False
def xstep (M : xM) (cs : xCs) (Q : xQ) (e : xE) (K : xK) (J : Nat → xK) (ls : xV) (st : List Value) (k n : Nat) (I : xI) (L : xL) (P : xR) : Prop :=
  match e with
  | (_, _, ins, a, b, c, tb) => match ins with
    | .aconst_null => K Q ls (.null :: st) k n I L P
    | .iconst i => xci i a fun v => K Q ls (.int v :: st) k n I L P
    | .bipush i => xci i a fun v => K Q ls (.int v :: st) k n I L P
    | .sipush i => xci i a fun v => K Q ls (.int v :: st) k n I L P
    | .lconst _ => K Q ls (.long (lN a) :: st) k n I L P
    | .ldc _ => K Q ls (.int (nI a) :: st) k n I L P
    | .ldc_w _ => K Q ls (.int (nI a) :: st) k n I L P
    | .ldc2_w _ => xcl c a fun v => K Q ls (.long v :: st) k n I L P
    | .iload _ => xgt ls a fun v => xpI [v] fun x _ => K Q ls (.int x :: st) k n I L P
    | .iload_n _ => xgt ls a fun v => xpI [v] fun x _ => K Q ls (.int x :: st) k n I L P
    | .lload _ => xgt ls a fun v => xpL [v] fun x _ => K Q ls (.long x :: st) k n I L P
    | .lload_n _ => xgt ls a fun v => xpL [v] fun x _ => K Q ls (.long x :: st) k n I L P
    | .aload _ => xgt ls a fun v => xpN [v] (fun _ => K Q ls (.null :: st) k n I L P) fun x _ => K Q ls (.ref x :: st) k n I L P
    | .aload_n _ => xgt ls a fun v => xpN [v] (fun _ => K Q ls (.null :: st) k n I L P) fun x _ => K Q ls (.ref x :: st) k n I L P
    | .istore _ => xpI st fun x st => xs1 (.int x) ls a fun ls => K Q ls st k n I L P
    | .istore_n _ => xpI st fun x st => xs1 (.int x) ls a fun ls => K Q ls st k n I L P
    | .lstore _ => xpL st fun x st => xs2 (.long x) ls a fun ls => K Q ls st k n I L P
    | .lstore_n _ => xpL st fun x st => xs2 (.long x) ls a fun ls => K Q ls st k n I L P
    | .astore _ => xpN st (fun st => xs1 .null ls a fun ls => K Q ls st k n I L P) fun x st => xs1 (.ref x) ls a fun ls => K Q ls st k n I L P
    | .astore_n _ => xpN st (fun st => xs1 .null ls a fun ls => K Q ls st k n I L P) fun x st => xs1 (.ref x) ls a fun ls => K Q ls st k n I L P
    | .iinc _ i => xgt ls a fun v => xpI [v] fun x _ => (match i with
        | .ofNat _ => xs1 (.int (x + nI b)) ls a fun ls => K Q ls st k n I L P
        | .negSucc _ => xs1 (.int (x - nI b)) ls a fun ls => K Q ls st k n I L P)
    | .iadd => xpI st fun y st => xpI st fun x st => K Q ls (.int (x + y) :: st) k n I L P
    | .isub => xpI st fun y st => xpI st fun x st => K Q ls (.int (x - y) :: st) k n I L P
    | .imul => xpI st fun y st => xpI st fun x st => K Q ls (.int (x * y) :: st) k n I L P
    | .iand => xpI st fun y st => xpI st fun x st => K Q ls (.int (x &&& y) :: st) k n I L P
    | .ior => xpI st fun y st => xpI st fun x st => K Q ls (.int (x ||| y) :: st) k n I L P
    | .ixor => xpI st fun y st => xpI st fun x st => K Q ls (.int (x ^^^ y) :: st) k n I L P
    | .idiv => xpI st fun y st => xpI st fun x st => ¬ y = 0 ∧ K Q ls (.int (x / y) :: st) k n I L P
    | .irem => xpI st fun y st => xpI st fun x st => ¬ y = 0 ∧ K Q ls (.int (x - x / y * y) :: st) k n I L P
    | .ishl => xpI st fun y st => xpI st fun x st => K Q ls (.int (x <<< (y &&& 31)) :: st) k n I L P
    | .ishr => xpI st fun y st => xpI st fun x st => K Q ls (.int (x >>> (y &&& 31)) :: st) k n I L P
    | .iushr => xpI st fun y st => xpI st fun x st => K Q ls (.int (x.toUInt32 >>> (y.toUInt32 &&& Int32.toUInt32 31)).toInt32 :: st) k n I L P
    | .ladd => xpL st fun y st => xpL st fun x st => K Q ls (.long (x + y) :: st) k n I L P
    | .lsub => xpL st fun y st => xpL st fun x st => K Q ls (.long (x - y) :: st) k n I L P
    | .lmul => xpL st fun y st => xpL st fun x st => K Q ls (.long (x * y) :: st) k n I L P
    | .land => xpL st fun y st => xpL st fun x st => K Q ls (.long (x &&& y) :: st) k n I L P
    | .lor => xpL st fun y st => xpL st fun x st => K Q ls (.long (x ||| y) :: st) k n I L P
    | .lxor => xpL st fun y st => xpL st fun x st => K Q ls (.long (x ^^^ y) :: st) k n I L P
    | .ldiv => xpL st fun y st => xpL st fun x st => ¬ y = 0 ∧ K Q ls (.long (x / y) :: st) k n I L P
    | .lrem => xpL st fun y st => xpL st fun x st => ¬ y = 0 ∧ K Q ls (.long (x - x / y * y) :: st) k n I L P
    | .lshl => xpI st fun y st => xpL st fun x st => K Q ls (.long (x <<< (y.toInt64 &&& 63)) :: st) k n I L P
    | .lushr => xpI st fun y st => xpL st fun x st => K Q ls (.long (x.toUInt64 >>> (y.toInt64.toUInt64 &&& Int64.toUInt64 63)).toInt64 :: st) k n I L P
    | .lcmp => xpL st fun y st => xpL st fun x st => K Q ls (.int (lg_cmp x y) :: st) k n I L P
    | .i2l => xpI st fun x st => K Q ls (.long x.toInt64 :: st) k n I L P
    | .l2i => xpL st fun x st => K Q ls (.int x.toInt32 :: st) k n I L P
    | .i2b => xpI st fun x st => K Q ls (.int x.toInt8.toInt32 :: st) k n I L P
    | .pop => xp1 st fun _ st => K Q ls st k n I L P
    | .dup => xp1 st fun v st => K Q ls (v :: v :: st) k n I L P
    | .dup2 => xp1 st fun v st => xp1 st fun w st => K Q ls (v :: w :: v :: w :: st) k n I L P
    | .goto _ => J a Q ls st k n I L P
    | .if_icmp cnd _ => xpI st fun y st => xpI st fun x st => xcmp cnd x y (J a Q ls st k n I L P) (K Q ls st k n I L P)
    | .ifCond cnd _ => xpI st fun x st => xcmp cnd x 0 (J a Q ls st k n I L P) (K Q ls st k n I L P)
    | .ifnull _ => xpN st (fun st => J a Q ls st k n I L P) fun _ st => K Q ls st k n I L P
    | .ifnonnull _ => xpN st (fun st => K Q ls st k n I L P) fun _ st => J a Q ls st k n I L P
    | .tableswitch _ _ _ _ => xpI st fun x st => xsw x tb (fun t => J t Q ls st k n I L P) a
    | .lookupswitch _ _ => xpI st fun x st => xsw x tb (fun t => J t Q ls st k n I L P) a
    | .getfield _ => xpR st fun r st => xT (xob r n a) (match xKd a b with
        | 0 => K Q ls (.int (I r b) :: st) k n I L P
        | 1 => K Q ls (.long (L r b) :: st) k n I L P
        | _ => (match P r b with
          | none => K Q ls (.null :: st) k n I L P
          | some q => K Q ls (.ref q :: st) k n I L P))
    | .putfield _ => (match xKd a b with
        | 0 => xpI st fun x st => xpR st fun r st => xT (xob r n a) (K Q ls st k n (xup I r b x) L P)
        | 1 => xpL st fun x st => xpR st fun r st => xT (xob r n a) (K Q ls st k n I (xup L r b x) P)
        | _ => xpR st fun x st => xpR st fun r st => xT (xob r n a) (K Q ls st k n I L (xup P r b (some x))))
    | .arraylength => xpR st fun r st => (match r with
        | 0 => xT (Nat.beq (mK M) 9) (K Q ls (.int (I 0 0) :: st) k n I L P)
        | _ + 1 => xal r n fun z => K Q ls (.int (nI z) :: st) k n I L P)
    | .iaload => xpI st fun i st => xpR st fun r st => (match r with
        | 0 => xT (Nat.beq (mK M) 9) (vp_in i (I 0 0).toNatClampNeg ∧ K Q ls (.int (I 0 (i.toNatClampNeg + 1)) :: st) k n I L P)
        | _ + 1 => xar r n 1 fun z => vp_in i z ∧ K Q ls (.int (I r i.toNatClampNeg) :: st) k n I L P)
    | .laload => xpI st fun i st => xpR st fun r st => xar r n 2 fun z => vp_in i z ∧ K Q ls (.long (L r i.toNatClampNeg) :: st) k n I L P
    | .aaload => xpI st fun i st => xpR st fun r st => xar r n 3 fun z => vp_in i z ∧ (P r i.toNatClampNeg = none → K Q ls (.null :: st) k n I L P) ∧ ∀ q : Nat, P r i.toNatClampNeg = some q → K Q ls (.ref q :: st) k n I L P
    | .iastore => xpI st fun x st => xpI st fun i st => xpR st fun r st => xar r n 1 fun z => vp_in i z ∧ K Q ls st k n (xup I r i.toNatClampNeg x) L P
    | .lastore => xpL st fun x st => xpI st fun i st => xpR st fun r st => xar r n 2 fun z => vp_in i z ∧ K Q ls st k n I (xup L r i.toNatClampNeg x) P
    | .aastore => xpR st fun x st => xpI st fun i st => xpR st fun r st => (match r, x with
        | r + 1, x + 1 => xT ((Nat.blt r n && Nat.beq (xSh (r + 1)).1 3) && (Nat.blt x n && (Nat.beq (xSh (x + 1)).1 0 && Nat.beq (xSh (x + 1)).2 1))) (vp_in i (xSh (r + 1)).2 ∧ K Q ls st k n I L (xup P (r + 1) i.toNatClampNeg (some (x + 1))))
        | _, _ => False)
    | .new _ => xT (Nat.blt k (mN M) && (Nat.beq (xSh (n + 1)).1 0 && Nat.beq (xSh (n + 1)).2 a)) (K Q ls (.ref (n + 1) :: st) (k + 1) (n + 1) (xrw I (n + 1) fun _ => 0) (xrw L (n + 1) fun _ => 0) (xrw P (n + 1) fun _ => none))
    | .newarray _ => xpI st fun v st => xT (Nat.blt k (mN M) && (Nat.beq (xSh (n + 1)).1 c && Nat.blt (xSh (n + 1)).2 60000)) (v = nI (xSh (n + 1)).2 ∧ K Q ls (.ref (n + 1) :: st) (k + 1) (n + 1) (xrw I (n + 1) fun _ => 0) (xrw L (n + 1) fun _ => 0) P)
    | .anewarray _ => xpI st fun v st => xT (Nat.blt k (mN M) && (Nat.beq (xSh (n + 1)).1 3 && Nat.blt (xSh (n + 1)).2 60000)) (v = nI (xSh (n + 1)).2 ∧ K Q ls (.ref (n + 1) :: st) (k + 1) (n + 1) I L (xrw P (n + 1) fun _ => none))
    | .invokevirtual _ => xcall M cs a 0 k st n I L P fun m st' r n' I' L' P' => K Q ls (r.toList ++ st') (k + mN m) n' I' L' P'
    | .invokespecial _ => (match c with
        | 0 => xcall M cs a 2 k st n I L P fun m st' r n' I' L' P' => K Q ls (r.toList ++ st') (k + mN m) n' I' L' P'
        | _ => xpR st fun _ st => xT (xle 8 st) (K Q ls st k n I L P))
    | .invokestatic _ => (match c with
        | 0 => xcall M cs a 1 k st n I L P fun m st' r n' I' L' P' => K Q ls (r.toList ++ st') (k + mN m) n' I' L' P'
        | 1 => xpI st fun y st => xpI st fun x st => xT (xle 8 st) (K Q ls (.int (if x < y then y else x) :: st) k n I L P)
        | 2 => xpI st fun y st => xpI st fun x st => xT (xle 8 st) (K Q ls (.int (if y < x then y else x) :: st) k n I L P)
        | _ => xpI st fun m st => xpI st fun dp st => xpR st fun r1 st => xpI st fun sp st => xpR st fun r0 st => xT (xle 8 st) (match r1, r0 with
          | r1 + 1, r0 + 1 => xT (Nat.blt r1 n && Nat.blt r0 n) (¬ sp < 0 ∧ ¬ dp < 0 ∧ ¬ m < 0 ∧ sp.toNatClampNeg + m.toNatClampNeg ≤ (xSh (r0 + 1)).2 ∧ dp.toNatClampNeg + m.toNatClampNeg ≤ (xSh (r1 + 1)).2 ∧
              (match (xSh (r0 + 1)).1, (xSh (r1 + 1)).1 with
              | 1, 1 => K Q ls st k n (xrw I (r1 + 1) (va_cpy (I (r0 + 1)) (I (r1 + 1)) sp.toNatClampNeg dp.toNatClampNeg m.toNatClampNeg)) L P
              | 2, 2 => K Q ls st k n I (xrw L (r1 + 1) (va_cpy (L (r0 + 1)) (L (r1 + 1)) sp.toNatClampNeg dp.toNatClampNeg m.toNatClampNeg)) P
              | _, _ => False))
          | _, _ => False))
    | .return_ => (match st with
        | [] => (match mT M with
          | none => xT (Nat.beq k (mN M)) (Q none n I L P)
          | _ => False)
        | _ => False)
    | .ireturn => (match st with
        | [.int x] => (match mT M with
          | some .int => xT (Nat.beq k (mN M)) (Q (some (.int x)) n I L P)
          | some .boolean => (x = nI 0 ∨ x = nI 1) ∧ xT (Nat.beq k (mN M)) (Q (some (.int x)) n I L P)
          | _ => False)
        | _ => False)
    | .lreturn => (match st with
        | [.long x] => (match mT M with
          | some .long => xT (Nat.beq k (mN M)) (Q (some (.long x)) n I L P)
          | _ => False)
        | _ => False)
    | .areturn => (match st with
        | [.ref x] => (match mT M with
          | some (.object _) => xT (Nat.beq k (mN M)) (Q (some (.ref x)) n I L P)
          | _ => False)
        | [.null] => (match mT M with
          | some (.object _) => xT (Nat.beq k (mN M)) (Q (some .null) n I L P)
          | _ => False)
        | _ => False)
    | _ => False
def xlk (t : Nat) : List (Nat × List Bool) → Option (List Bool)
  | [] => none
  | q :: r => match Nat.beq q.1 t with
    | true => some q.2
    | false => xlk t r
/-- the row at a place, and the place behind it -/
def xfe (t : Nat) : List xE → (xE → Option Nat → Prop) → Prop
  | [], _ => False
  | e :: r, k => match Nat.beq e.1 t with
    | true => (match r with
      | [] => k e none
      | e' :: _ => (match e' with
        | (q, _) => k e (some q)))
    | false => xfe t r k
def xnx (cut : List (Nat × List Bool)) (g : Nat → xK) (w : Nat → xK) (t : Nat) : xK := fun Q ls st k n I L P => match xlk t cut with
  | some m => g t Q (xmask m ls) st k n I L P
  | none => w t Q ls st k n I L P
def xkn (cut : List (Nat × List Bool)) (g : Nat → xK) (w : Nat → xK) (q : Option Nat) : xK := match q with
  | none => fun _ _ _ _ _ _ _ _ => False
  | some t => xnx cut g w t
def xwp (M : xM) (cs : xCs) (g : Nat → xK) (cut : List (Nat × List Bool)) : Nat → Nat → xK
  | 0, t => fun Q ls st k n I L P => g t Q ls st k n I L P
  | f + 1, t => fun Q ls st k n I L P => xfe t (mP M) fun e q => xstep M cs Q e (xkn cut g (xwp M cs g cut f) q) (xnx cut g (xwp M cs g cut f)) ls st k n I L P
end
section
/-! What a contract is over numbered cells; locals, worlds -/
def xA (base : Nat) : Nat → Prop := fun q => base ≤ q
def xtys (cI cJ cD : ClassId) : List (ClassId × FieldType) := [(cI, .int), (cJ, .long), (cD, .object "SmellBurdens$Deeds")]
def xKs (D : va_G) (cI cJ cD : ClassId) (U : State) : Prop := va_K D vwCl (xtys cI cJ cD) U ∧ (∀ w ∈ xNest, va_Nw w U) ∧ va_AO "SmellBurdens$Deeds" U
def mRoom (M : xM) (n : Nat) : Room := { frames := mF M, cells := mN M, slots := xS (n + mN M) - xS n, locals := mW M }
def mWs (M : xM) : List Cond := .code (mY M) (mC M) (mL M) (mT M) :: xG
def xCon (l : Launch) (M : xM) (sp : xSpec) : Prop := ∀ (D : va_G) (cI cJ cD : ClassId) (b base n : Nat) (args : List Value) (I : xI) (L : xL) (P : xR) (Q : xQ), sp args n I L P Q →
  Met l (mY M) (mWs M) (mRoom M n) (va_Pc (args.map (xv b base)) (fun U => U.heap.size = base + n ∧ va_P D vwCl (xws b base cI cJ cD n I L P) U.heap ∧ xKs D cI cJ cD U))
    (fun _ st oc t => (∃ (r : Option Value) (I' : xI) (L' : xL) (P' : xR), oc = .returned (r.map (xv b base)) ∧ Q r (n + mN M) I' L' P' ∧ I' 0 = I 0 ∧ va_P D vwCl (xws b base cI cJ cD (n + mN M) I' L' P') t.heap) ∧ va_F (xA base) st t)
    (mN M) (xS (n + mN M) - xS n) (xA base)
/-- what a method's name has in the tables -/
def xHd (M : xM) : Prop := Cond.code (mY M) (mC M) (mL M) (mT M) ∈ xG ∧ Cond.initialized (mY M).cls ∈ xG ∧ ((mY M).cls ≠ "java/lang/invoke/MethodHandle" ∧ (mY M).cls ≠ "java/lang/invoke/VarHandle" ∧ (parseMethodDescriptor (mY M).desc).map (fun d => d.parameters.length) = some (mA M)) ∧
  (match mK M with
  | 0 => Cond.instanceMethod (mY M) ∈ xG ∧ Cond.selects (mY M).cls (mY M) (mY M) ∈ xG ∧ (vwCl[mO M]?).map (fun q => q.1) = some (mY M).cls
  | 1 => Cond.static (mY M) ∈ xG
  | _ => Cond.instanceMethod (mY M) ∈ xG ∧ (mY M).name = "<init>" ∧ mT M = none)
def xLR (b base : Nat) (lsA : Array Slot) (ls : xV) : Prop := lsA.size = ls.length ∧ lv_wf lsA ∧ ∀ (i : Nat) (v : Value), ls[i]? = some (some v) → lsA[i]? = some (.val (xv b base v))
def xCtx (p : Program) (l : Launch) (e : Env) (s : State) (m : MethodId) (args : Array Value) (below : List Frame) (meth : Method) (c : Code) (D : va_G) (cI cJ cD : ClassId) (b base n0 : Nat) (scr : Nat → Int32) (M : xM) (cs : xCs) : Prop :=
  p.tables.exec = Jvm.exec ∧ c.code = mC M ∧ c.maxLocals = mL M ∧ s.vm.findClass (mY M).cls = some m.cls ∧ (∀ w ∈ xG, w.before args s = true) ∧ xKs D cI cJ cD s ∧ s.heap.size = base + n0 ∧ ((mY M).name = "<init>" → meth.name = "<init>") ∧ (∀ q ∈ cs, xCon l q.1 q.2) ∧
  (mK M = 9 → ∃ (len : Nat) (xs : Nat → Int32), va_X b len xs s s.heap ∧ b < s.heap.size ∧ b < base ∧ scr 0 = nI len ∧ len ≤ 3072 ∧ ∀ j, scr (j + 1) = xs j)
def xAt (p : Program) (l : Launch) (e : Env) (s : State) (m : MethodId) (args : Array Value) (below : List Frame) (meth : Method) (c : Code) (D : va_G) (cI cJ cD : ClassId) (b base n0 : Nat) (scr : Nat → Int32) (M : xM) (Z : State → Prop) (pc : Nat) : xV → List Value → Nat → Nat → xI → xL → xR → Prop := fun ls st k n I L P =>
  n = n0 + k → k ≤ mN M → I 0 = scr → ls.length = mL M → ∀ (H : Heap) (locs : List Loc) (lsA : Array Slot), va_P D vwCl (xws b base cI cJ cD n I L P) H → va_S (xA base) s.heap H locs → xLR b base lsA ls →
    W p l e (mRoom M n0) s m args below meth c H locs k (xS n - xS n0) Z (F0 m pc lsA (st.map (xv b base)))
def xRw (M : xM) (r : Option Value) (ins : Instr) : Prop := match r, ins with
    | none, .return_ => mT M = none
    | some (.int x), .ireturn => mT M = some .int ∨ (mT M = some .boolean ∧ (x = nI 0 ∨ x = nI 1))
    | some (.long _), .lreturn => mT M = some .long
    | some (.ref _), .areturn => ∃ C, mT M = some (.object C)
    | some .null, .areturn => ∃ C, mT M = some (.object C)
    | _, _ => False
/-- how a method ends -/
def xRt (p : Program) (l : Launch) (e : Env) (s : State) (m : MethodId) (args : Array Value) (below : List Frame) (meth : Method) (c : Code) (D : va_G) (cI cJ cD : ClassId) (b base n0 : Nat) (scr : Nat → Int32) (M : xM) (Q : xQ) (Z : State → Prop) : Prop :=
  ∀ (r : Option Value) (pc n : Nat) (ins : Instr) (I : xI) (L : xL) (P : xR), decode (mC M) pc = .ok (ins, 1) → xRw M r ins → Q r n I L P → n = n0 + mN M → I 0 = scr → ∀ (H : Heap) (locs : List Loc) (lsA : Array Slot), va_P D vwCl (xws b base cI cJ cD n I L P) H → va_S (xA base) s.heap H locs →
    W p l e (mRoom M n0) s m args below meth c H locs (mN M) (xS n - xS n0) Z (F0 m pc lsA (r.toList.map (xv b base)))
/-- from this state of the walk the method comes to its end, with Q -/
def xGo (M : xM) (cs : xCs) (pc : Nat) : xK := fun Q ls st k n I L P => ∀ (p : Program) (l : Launch) (e : Env) (s : State) (m : MethodId) (args : Array Value) (below : List Frame) (meth : Method) (c : Code) (D : va_G) (cI cJ cD : ClassId) (b base n0 : Nat) (scr : Nat → Int32) (Z : State → Prop),
  xCtx p l e s m args below meth c D cI cJ cD b base n0 scr M cs → xRt p l e s m args below meth c D cI cJ cD b base n0 scr M Q Z → xAt p l e s m args below meth c D cI cJ cD b base n0 scr M Z pc ls st k n I L P
-- small facts
theorem xT_e {c : Bool} {A : Prop} (h : xT c A) : c = true ∧ A := by
  cases c
  · exact absurd h (fun q => q)
  · exact ⟨rfl, h⟩
theorem xpI_e {st : List Value} {k : Int32 → List Value → Prop} (h : xpI st k) : ∃ x r, st = .int x :: r ∧ k x r := by
  unfold xpI at h
  split at h
  · exact ⟨_, _, rfl, h⟩
  · exact absurd h (fun q => q)
theorem xpL_e {st : List Value} {k : Int64 → List Value → Prop} (h : xpL st k) : ∃ x r, st = .long x :: r ∧ k x r := by
  unfold xpL at h
  split at h
  · exact ⟨_, _, rfl, h⟩
  · exact absurd h (fun q => q)
theorem xpR_e {st : List Value} {k : Nat → List Value → Prop} (h : xpR st k) : ∃ x r, st = .ref x :: r ∧ k x r := by
  unfold xpR at h
  split at h
  · exact ⟨_, _, rfl, h⟩
  · exact absurd h (fun q => q)
theorem xp1_e {st : List Value} {k : Value → List Value → Prop} (h : xp1 st k) : ∃ v r, st = v :: r ∧ v.category = 1 ∧ (∀ b base, (xv b base v).category = 1) ∧ k v r := by
  unfold xp1 at h
  split at h
  · exact ⟨_, _, rfl, rfl, fun _ _ => rfl, h⟩
  · exact ⟨_, _, rfl, rfl, fun _ _ => rfl, h⟩
  · exact ⟨_, _, rfl, rfl, fun _ _ => rfl, h⟩
  · exact absurd h (fun q => q)
theorem xpN_e {st : List Value} {kn : List Value → Prop} {k : Nat → List Value → Prop} (h : xpN st kn k) : (∃ r, st = .null :: r ∧ kn r) ∨ ∃ x r, st = .ref x :: r ∧ k x r := by
  unfold xpN at h
  split at h
  · exact Or.inr ⟨_, _, rfl, h⟩
  · exact Or.inl ⟨_, rfl, h⟩
  · exact absurd h (fun q => q)
theorem xgt_e {k : Value → Prop} : ∀ {ls : xV} {i : Nat}, xgt ls i k → ∃ v, ls[i]? = some (some v) ∧ k v
  | [], _, h => absurd h (fun q => q)
  | x :: r, 0, h => by
    cases x with
    | none => exact absurd h (fun q => q)
    | some v => exact ⟨v, rfl, h⟩
  | x :: r, i + 1, h => by
    obtain ⟨v, h1, h2⟩ := xgt_e (ls := r) (i := i) h
    exact ⟨v, by simpa using h1, h2⟩
theorem xpop_e {k : List Value → List Value → Prop} : ∀ {n : Nat} {st as : List Value}, xpop n st as k → ∃ a r, st = a.reverse ++ r ∧ a.length = n ∧ k (a ++ as) r
  | 0, st, as, h => ⟨[], st, rfl, rfl, h⟩
  | n + 1, [], as, h => absurd h (fun q => q)
  | n + 1, v :: r, as, h => by
    obtain ⟨a, r', h1, h2, h3⟩ := xpop_e (n := n) (st := r) (as := v :: as) h
    exact ⟨a ++ [v], r', by simp [h1], by simp [h2], by simpa using h3⟩
theorem xv_cat (b base : Nat) (v : Value) : (xv b base v).category = v.category := by cases v <;> rfl
theorem xle_e {b base : Nat} : ∀ {n : Nat} {st : List Value}, xle n st = true → ((st.map (xv b base)).map fun v => v.category).sum ≤ n
  | n, [], _ => by simp
  | 0, v :: r, h => by simp [xle] at h
  | n + 1, v :: r, h => by
    have one : v.category = 1 → xle n r = true → (((v :: r).map (xv b base)).map fun v => v.category).sum ≤ n + 1 := fun h1 h2 => by
      have := xle_e (b := b) (base := base) h2
      simp only [List.map_cons, List.sum_cons, xv_cat, h1]
      omega
    have two : v.category = 2 → ∀ n', n = n' + 1 → xle n' r = true → (((v :: r).map (xv b base)).map fun v => v.category).sum ≤ n + 1 := fun h1 n' hn h2 => by
      have := xle_e (b := b) (base := base) h2
      simp only [List.map_cons, List.sum_cons, xv_cat, h1]
      omega
    unfold xle at h
    cases v with
    | long x =>
      cases n with
      | zero => simp at h
      | succ n' => exact two rfl n' rfl h
    | double x =>
      cases n with
      | zero => simp at h
      | succ n' => exact two rfl n' rfl h
    | int x => exact one rfl h
    | float x => exact one rfl h
    | null => exact one rfl h
    | ref x => exact one rfl h
    | retAddr x => exact one rfl h
theorem xrf_v (b base : Nat) (r : Option Nat) : xv b base (xrf r) = va_rf (xro b base r) := by cases r <;> rfl
-- stores into locals
theorem xs1_e {v : Value} : ∀ {ls : xV} {i : Nat} {k : xV → Prop}, xs1 v ls i k → ∃ ls', k ls' ∧ ls'.length = ls.length ∧ i < ls.length ∧ ∀ (j : Nat) (w : Value), ls'[j]? = some (some w) → (j = i ∧ w = v) ∨ (j ≠ i ∧ ls[j]? = some (some w) ∧ ¬ (j + 1 = i ∧ w.category = 2))
  | [], i, k, h => absurd h (fun q => q)
  | x :: r, 0, k, h => ⟨some v :: r, h, rfl, by simp, fun j w hj => by
      cases j with
      | zero => left; simp at hj; exact ⟨rfl, hj.symm⟩
      | succ j => right; exact ⟨by omega, by simpa using hj, by omega⟩⟩
  | x :: r, 1, k, h => by
    have go : ∀ y : Option Value, (∀ w, y = some w → x = some w ∧ ¬ w.category = 2) → xs1 v r 0 (fun r' => k (y :: r')) → ∃ ls', k ls' ∧ ls'.length = (x :: r).length ∧ 1 < (x :: r).length ∧ ∀ (j : Nat) (w : Value), ls'[j]? = some (some w) → (j = 1 ∧ w = v) ∨ (j ≠ 1 ∧ (x :: r)[j]? = some (some w) ∧ ¬ (j + 1 = 1 ∧ w.category = 2)) := fun y hy h => by
      obtain ⟨ls', h1, h2, h3, h4⟩ := xs1_e (ls := r) (i := 0) h
      refine ⟨y :: ls', h1, by simp [h2], by simp; omega, fun j w hj => ?_⟩
      cases j with
      | zero =>
        right
        simp at hj
        obtain ⟨q1, q2⟩ := hy w hj
        exact ⟨by omega, by simp [q1], fun q => q2 q.2⟩
      | succ j =>
        rcases h4 j w (by simpa using hj) with ⟨q1, q2⟩ | ⟨q1, q2, q3⟩
        · left; exact ⟨by omega, q2⟩
        · right; exact ⟨by omega, by simpa using q2, by omega⟩
    unfold xs1 at h
    split at h
    · exact go none (fun w q => by cases q) h
    · exact go none (fun w q => by cases q) h
    · rename_i n1 n2
      exact go x (fun w q => ⟨q, fun hc => by
        subst q
        cases w with
        | long z => exact n1 _ rfl
        | double z => exact n2 _ rfl
        | _ => simp [Value.category] at hc⟩) h
  | x :: r, i + 2, k, h => by
    obtain ⟨ls', h1, h2, h3, h4⟩ := xs1_e (ls := r) (i := i + 1) (k := fun r' => k (x :: r')) h
    refine ⟨x :: ls', h1, by simp [h2], by simp; omega, fun j w hj => ?_⟩
    cases j with
    | zero => right; exact ⟨by omega, by simpa using hj, by omega⟩
    | succ j =>
      rcases h4 j w (by simpa using hj) with ⟨q1, q2⟩ | ⟨q1, q2, q3⟩
      · left; exact ⟨by omega, q2⟩
      · right; exact ⟨by omega, by simpa using q2, fun q => q3 ⟨by omega, q.2⟩⟩
theorem xs2_e {v : Value} : ∀ {ls : xV} {i : Nat} {k : xV → Prop}, xs2 v ls i k → ∃ ls', k ls' ∧ ls'.length = ls.length ∧ i + 1 < ls.length ∧ ∀ (j : Nat) (w : Value), ls'[j]? = some (some w) → (j = i ∧ w = v) ∨ (j ≠ i ∧ j ≠ i + 1 ∧ ls[j]? = some (some w) ∧ ¬ (j + 1 = i ∧ w.category = 2))
  | [], i, k, h => absurd h (fun q => q)
  | [x], 0, k, h => absurd h (fun q => q)
  | x :: y :: r, 0, k, h => ⟨some v :: none :: r, h, rfl, by simp, fun j w hj => by
      match j, hj with
      | 0, hj => left; simp at hj; exact ⟨rfl, hj.symm⟩
      | 1, hj => simp at hj
      | j + 2, hj => right; exact ⟨by omega, by omega, by simpa using hj, by omega⟩⟩
  | x :: r, 1, k, h => by
    have go : ∀ y : Option Value, (∀ w, y = some w → x = some w ∧ ¬ w.category = 2) → xs2 v r 0 (fun r' => k (y :: r')) → ∃ ls', k ls' ∧ ls'.length = (x :: r).length ∧ 1 + 1 < (x :: r).length ∧ ∀ (j : Nat) (w : Value), ls'[j]? = some (some w) → (j = 1 ∧ w = v) ∨ (j ≠ 1 ∧ j ≠ 1 + 1 ∧ (x :: r)[j]? = some (some w) ∧ ¬ (j + 1 = 1 ∧ w.category = 2)) := fun y hy h => by
      obtain ⟨ls', h1, h2, h3, h4⟩ := xs2_e (ls := r) (i := 0) h
      refine ⟨y :: ls', h1, by simp [h2], by simp; omega, fun j w hj => ?_⟩
      cases j with
      | zero =>
        right
        simp at hj
        obtain ⟨q1, q2⟩ := hy w hj
        exact ⟨by omega, by omega, by simp [q1], fun q => q2 q.2⟩
      | succ j =>
        rcases h4 j w (by simpa using hj) with ⟨q1, q2⟩ | ⟨q1, q2, q3, q4⟩
        · left; exact ⟨by omega, q2⟩
        · right; exact ⟨by omega, by omega, by simpa using q3, by omega⟩
    unfold xs2 at h
    split at h
    · exact go none (fun w q => by cases q) h
    · exact go none (fun w q => by cases q) h
    · rename_i n1 n2
      exact go x (fun w q => ⟨q, fun hc => by
        subst q
        cases w with
        | long z => exact n1 _ rfl
        | double z => exact n2 _ rfl
        | _ => simp [Value.category] at hc⟩) h
  | x :: r, i + 2, k, h => by
    obtain ⟨ls', h1, h2, h3, h4⟩ := xs2_e (ls := r) (i := i + 1) (k := fun r' => k (x :: r')) h
    refine ⟨x :: ls', h1, by simp [h2], by simp; omega, fun j w hj => ?_⟩
    cases j with
    | zero => right; exact ⟨by omega, by omega, by simpa using hj, by omega⟩
    | succ j =>
      rcases h4 j w (by simpa using hj) with ⟨q1, q2⟩ | ⟨q1, q2, q3, q4⟩
      · left; exact ⟨by omega, q2⟩
      · right; exact ⟨by omega, by omega, by simpa using q3, fun q => q4 ⟨by omega, q.2⟩⟩
def xas (b base : Nat) (ls : xV) : List (Nat × Value) := (List.range ls.length).filterMap fun j => match ls[j]? with
  | some (some w) => some (j, xv b base w)
  | _ => none
theorem xas_mem {b base : Nat} {ls : xV} {j : Nat} {w : Value} (h : ls[j]? = some (some w)) : (j, xv b base w) ∈ xas b base ls := by
  refine List.mem_filterMap.mpr ⟨j, List.mem_range.mpr (List.getElem?_eq_some_iff.mp h).1, ?_⟩
  rw [h]
theorem xas_of {b base : Nat} {ls : xV} {q : Nat × Value} (h : q ∈ xas b base ls) : ∃ w, ls[q.1]? = some (some w) ∧ q.2 = xv b base w := by
  obtain ⟨j, -, h2⟩ := List.mem_filterMap.mp h
  split at h2
  · rename_i w hw
    cases h2
    exact ⟨w, hw, rfl⟩
  · cases h2
theorem xLR.has {b base : Nat} {lsA : Array Slot} {ls : xV} (h : xLR b base lsA ls) : lv_has lsA ls.length (xas b base ls) := ⟨h.1, h.2.1, fun q hq => by
  obtain ⟨w, h1, h2⟩ := xas_of hq
  rw [h2]
  exact h.2.2 q.1 w h1⟩
theorem xLR.st1 {b base : Nat} {lsA : Array Slot} {ls ls' : xV} {i : Nat} {v : Value} (hlen : ls'.length = ls.length) (h4 : ∀ (j : Nat) (w : Value), ls'[j]? = some (some w) → (j = i ∧ w = v) ∨ (j ≠ i ∧ ls[j]? = some (some w) ∧ ¬ (j + 1 = i ∧ w.category = 2)))
    (h : lv_has lsA ls.length ((i, xv b base v) :: (xas b base ls).filter (fun q => !(q.1 == i) && !(q.1 + 1 == i && q.2.category == 2)))) : xLR b base lsA ls' := by
  refine ⟨by rw [hlen]; exact h.1, h.2.1, fun j w hj => ?_⟩
  rcases h4 j w hj with ⟨rfl, rfl⟩ | ⟨q1, q2, q3⟩
  · exact h.2.2 _ List.mem_cons_self
  · refine h.2.2 (j, xv b base w) (List.mem_cons_of_mem _ (List.mem_filter.mpr ⟨xas_mem q2, ?_⟩))
    simp only [xv_cat, Bool.and_eq_true, Bool.not_eq_true', beq_eq_false_iff_ne, ne_eq, Bool.and_eq_false_imp, beq_iff_eq]
    exact ⟨q1, fun a b => q3 ⟨a, b⟩⟩
theorem xLR.st2 {b base : Nat} {lsA : Array Slot} {ls ls' : xV} {i : Nat} {v : Value} (hlen : ls'.length = ls.length) (h4 : ∀ (j : Nat) (w : Value), ls'[j]? = some (some w) → (j = i ∧ w = v) ∨ (j ≠ i ∧ j ≠ i + 1 ∧ ls[j]? = some (some w) ∧ ¬ (j + 1 = i ∧ w.category = 2)))
    (h : lv_has lsA ls.length ((i, xv b base v) :: (xas b base ls).filter (fun q => !(q.1 == i) && (!(q.1 == i + 1) && !(q.1 + 1 == i && q.2.category == 2))))) : xLR b base lsA ls' := by
  refine ⟨by rw [hlen]; exact h.1, h.2.1, fun j w hj => ?_⟩
  rcases h4 j w hj with ⟨rfl, rfl⟩ | ⟨q1, q2, q3, q4⟩
  · exact h.2.2 _ List.mem_cons_self
  · refine h.2.2 (j, xv b base w) (List.mem_cons_of_mem _ (List.mem_filter.mpr ⟨xas_mem q3, ?_⟩))
    simp only [xv_cat, Bool.and_eq_true, Bool.not_eq_true', beq_eq_false_iff_ne, ne_eq, Bool.and_eq_false_imp, beq_iff_eq]
    exact ⟨q1, q2, fun a b => q4 ⟨a, b⟩⟩
theorem xmask_e : ∀ {m : List Bool} {ls : xV} {j : Nat} {w : Value}, (xmask m ls)[j]? = some (some w) → ls[j]? = some (some w)
  | true :: m, x :: r, 0, w, h => h
  | true :: m, x :: r, j + 1, w, h => by simpa using xmask_e (m := m) (ls := r) (j := j) (by simpa [xmask] using h)
  | false :: m, x :: r, 0, w, h => by simp [xmask] at h
  | false :: m, x :: r, j + 1, w, h => by simpa using xmask_e (m := m) (ls := r) (j := j) (by simpa [xmask] using h)
  | [], ls, j, w, h => by simp [xmask] at h
  | true :: m, [], j, w, h => by simp [xmask] at h
  | false :: m, [], j, w, h => by simp [xmask] at h
theorem xmask_len : ∀ (m : List Bool) (ls : xV), (xmask m ls).length = ls.length
  | true :: m, x :: r => by simp [xmask, xmask_len m r]
  | false :: m, x :: r => by simp [xmask, xmask_len m r]
  | [], ls => by simp [xmask]
  | true :: m, [] => by simp [xmask]
  | false :: m, [] => by simp [xmask]
-- worlds
theorem xws_len (b base : Nat) (cI cJ cD : ClassId) (n : Nat) (I : xI) (L : xL) (P : xR) : (xws b base cI cJ cD n I L P).length = n := by simp [xws]
theorem xws_at {b base : Nat} {cI cJ cD : ClassId} {n k : Nat} (h : k < n) (I : xI) (L : xL) (P : xR) : (xws b base cI cJ cD n I L P)[k]? = some (base + k, xent b base cI cJ cD (k + 1) I L P) := by
  simp [xws, List.getElem?_map, List.getElem?_range h]
theorem xws_D (b base : Nat) (cI cJ cD : ClassId) (n : Nat) (I : xI) (L : xL) (P : xR) : va_D (xA base) (xws b base cI cJ cD n I L P) := by
  have key : ∀ (i : Nat) (p : Nat × va_E), (xws b base cI cJ cD n I L P)[i]? = some p → p.1 = base + i := fun i p hp => by
    have hi : i < n := by
      have := (List.getElem?_eq_some_iff.mp hp).1
      rwa [xws_len] at this
    rw [xws_at hi] at hp
    cases hp
    rfl
  refine ⟨fun i j p q hp hq he => ?_, fun k q hq => ?_⟩
  · rw [key i p hp, key j q hq] at he
    omega
  · rw [key k q hq]
    exact Nat.le_add_right _ _
theorem xws_succ (b base : Nat) (cI cJ cD : ClassId) (n : Nat) (I : xI) (L : xL) (P : xR) : xws b base cI cJ cD (n + 1) I L P = xws b base cI cJ cD n I L P ++ [(base + n, xent b base cI cJ cD (n + 1) I L P)] := by
  simp [xws, List.range_succ]
theorem xws_set {b base : Nat} {cI cJ cD : ClassId} {n k : Nat} (hk : k < n) {I I' : xI} {L L' : xL} {P P' : xR} {e : va_E} (he : xent b base cI cJ cD (k + 1) I' L' P' = e) (ho : ∀ j, j ≠ k + 1 → I' j = I j ∧ L' j = L j ∧ P' j = P j) :
    (xws b base cI cJ cD n I L P).set k (base + k, e) = xws b base cI cJ cD n I' L' P' := by
  apply List.ext_getElem?
  intro j
  by_cases hj : j < n
  · rw [xws_at hj]
    by_cases hjk : j = k
    · subst hjk
      rw [List.getElem?_set_self (by rw [xws_len]; exact hj), he]
    · rw [List.getElem?_set_ne (fun q => hjk q.symm), xws_at hj]
      obtain ⟨h1, h2, h3⟩ := ho (j + 1) (by omega)
      simp only [xent, xfs, xfv, h1, h2, h3]
  · rw [List.getElem?_eq_none (by rw [List.length_set, xws_len]; omega), List.getElem?_eq_none (by rw [xws_len]; omega)]
theorem xlt {D : va_G} {b base : Nat} {cI cJ cD : ClassId} {n : Nat} {I : xI} {L : xL} {P : xR} {H : Heap} (h : va_P D vwCl (xws b base cI cJ cD n I L P) H) {k : Nat} (hk : k < n) : base + k < H.size := (h k _ (xws_at hk I L P)).lt
theorem xKs.warm {D : va_G} {cI cJ cD : ClassId} {u U : State} (hW : u.WarmedH U.vm) (h : xKs D cI cJ cD u) : xKs D cI cJ cD U := by
  refine ⟨va_K.moved hW.alike h.1, fun w hw => ?_, va_AO.moved hW.alike h.2.2⟩
  have h1 := h.2.1 w hw
  simp only [xNest, List.mem_cons, List.not_mem_nil, or_false] at hw
  rcases hw with rfl | rfl | rfl | rfl | rfl | rfl | rfl | rfl | rfl | rfl | rfl | rfl | rfl | rfl | rfl | rfl | rfl | rfl | rfl | rfl | rfl | rfl <;> first | exact va_Nw.warmF hW h1 | exact va_Nw.warmM hW h1
theorem xNest_on : ∀ w ∈ xNest, w.onTables = true := by decide +kernel
theorem xKs.same {D : va_G} {cI cJ cD : ClassId} {u U : State} (hv : u.vm = U.vm) (h : xKs D cI cJ cD u) : xKs D cI cJ cD U := ⟨va_K.moved (by rw [← hv]; exact Vm.Alike.refl _) h.1, fun w hw => va_Nw.same (xNest_on w hw) hv (h.2.1 w hw), va_AO.moved (by rw [← hv]; exact Vm.Alike.refl _) h.2.2⟩
theorem xG_good {w : Cond} (h : w ∈ xG) : (w.onTables && w.keeps) = true ∨ ∃ ty, w = .arrayClass ty := good_of_word (List.mem_filter.mp h).2
theorem mWs_pay {M M' : xM} (h : Cond.code (mY M') (mC M') (mL M') (mT M') ∈ xG) : GoodIn xG (mWs M') := fun w hw => by
  rcases List.mem_cons.mp hw with rfl | hw
  · exact ⟨h, xG_good h⟩
  · exact ⟨hw, xG_good hw⟩
end
section
/-! what must hold of a program's rows, once: lengths, constants, targets (xChk), the tables' words (xWrd) -/
def xFw (own : String) (idx a b c : Nat) : Cond := match c with
  | 0 => .fieldLink own idx (((vwCl.getD a (RX0, TX0, 0)).2.1 b).1) (((vwCl.getD a (RX0, TX0, 0)).2.1 b).2.1) (((vwCl.getD a (RX0, TX0, 0)).2.1 b).2.2.1)
  | _ => .fieldLinkNest own idx (((vwCl.getD a (RX0, TX0, 0)).2.1 b).1) (((vwCl.getD a (RX0, TX0, 0)).2.1 b).2.1) (((vwCl.getD a (RX0, TX0, 0)).2.1 b).2.2.1) "SmellBurdens"
def xNt (t : ArrayType) (c9 : Nat) : Bool := match t, c9 with
  | .int, 1 => true
  | .long, 2 => true
  | _, _ => false
def xNw (c9 : Nat) : Prop := match c9 with
  | 1 => Cond.arrayClass .int ∈ xG
  | _ => Cond.arrayClass .long ∈ xG
def xRb (M : xM) (cs : xCs) (a : Nat) : Bool := match cs[a]? with
  | some q => Nat.ble (mF q.1 + 1) (mF M) && Nat.ble (8 + (mL q.1 + 11) + mW q.1) (mW M)
  | none => false
def xChk (M : xM) (cs : xCs) (e : xE) : Bool := match e with
  | (pc, len, ins, a, b, c, tb) => match ins with
    | .iconst i => Nat.beq len 1 && Nat.beq i.natAbs a
    | .bipush i => Nat.beq len 2 && (Nat.beq i.natAbs a && Nat.blt a 129 && decide (i < 128))
    | .sipush i => Nat.beq len 3 && (Nat.beq i.natAbs a && Nat.blt a 32769 && decide (i < 32768))
    | .lconst i => Nat.beq len 1 && Nat.beq i.val a
    | .ldc _ => Nat.beq len 2
    | .ldc_w _ => Nat.beq len 3
    | .ldc2_w _ => Nat.beq len 3
    | .iload i => Nat.beq len 2 && Nat.beq i a
    | .lload i => Nat.beq len 2 && Nat.beq i a
    | .aload i => Nat.beq len 2 && Nat.beq i a
    | .istore i => Nat.beq len 2 && Nat.beq i a
    | .lstore i => Nat.beq len 2 && Nat.beq i a
    | .astore i => Nat.beq len 2 && Nat.beq i a
    | .iload_n i => Nat.beq len 1 && Nat.beq i.val a
    | .lload_n i => Nat.beq len 1 && Nat.beq i.val a
    | .aload_n i => Nat.beq len 1 && Nat.beq i.val a
    | .istore_n i => Nat.beq len 1 && Nat.beq i.val a
    | .lstore_n i => Nat.beq len 1 && Nat.beq i.val a
    | .astore_n i => Nat.beq len 1 && Nat.beq i.val a
    | .iinc i d => Nat.beq len 3 && (Nat.beq i a && Nat.beq d.natAbs b)
    | .goto off => Nat.beq len 3 && decide ((pc : Int) + off = (a : Int))
    | .if_icmp _ off => Nat.beq len 3 && decide ((pc : Int) + off = (a : Int))
    | .ifCond _ off => Nat.beq len 3 && decide ((pc : Int) + off = (a : Int))
    | .ifnull off => Nat.beq len 3 && decide ((pc : Int) + off = (a : Int))
    | .ifnonnull off => Nat.beq len 3 && decide ((pc : Int) + off = (a : Int))
    | .tableswitch d lo hi offs => decide ((pc : Int) + d = (a : Int)) && (decide (hi = lo + (tb.length : Int) - 1) && (decide (0 ≤ lo) && decide (hi < 1000))) && (List.range tb.length).all fun j => (match tb[j]?, offs[j]? with
        | some q, some o => decide ((q.1 : Int) = lo + (j : Int)) && decide ((pc : Int) + o = (q.2 : Int))
        | _, _ => false)
    | .lookupswitch d ps => decide ((pc : Int) + d = (a : Int)) && ((ps.toList.zip (ps.toList.drop 1)).all (fun (a, next) => a.1 < next.1) && decide (ps.toList = tb.map fun q => ((q.1 : Int), (q.2 : Int) - (pc : Int)))) && tb.all fun q => Nat.blt q.1 1000
    | .getfield _ => Nat.beq len 3 && Nat.blt b (xNf a)
    | .putfield _ => Nat.beq len 3 && (Nat.blt b (xNf a) && Nat.beq c 0)
    | .new _ => Nat.beq len 3
    | .newarray t => Nat.beq len 2 && xNt t c
    | .anewarray _ => Nat.beq len 3
    | .invokevirtual _ => Nat.beq len 3 && xRb M cs a
    | .invokespecial _ => Nat.beq len 3 && (match c with
      | 0 => xRb M cs a
      | _ => Nat.ble 1 (mF M) && Nat.ble 20 (mW M))
    | .invokestatic _ => Nat.beq len 3 && (match c with
      | 0 => xRb M cs a
      | 1 => Nat.ble 1 (mF M) && Nat.ble 21 (mW M)
      | 2 => Nat.ble 1 (mF M) && Nat.ble 21 (mW M)
      | _ => Nat.ble 1 (mF M) && Nat.ble (8 + (nativeFrameWords "java/lang/System" "arraycopy" 5 + 11)) (mW M))
    | _ => Nat.beq len 1
def xcv (c a : Nat) : Int64 := match c with
  | 0 => lN a
  | _ => -(lN a)
def xcon (cs : xCs) (a : Nat) (A : xM → Prop) : Prop := match cs[a]? with
  | some q => A q.1
  | none => False
def xMw (M : xM) (cs : xCs) (i a b : Nat) : Prop := match b with
  | 0 => xcon cs a fun m => Cond.methodLink (mY M).cls i (mY m) ∈ xG
  | _ => xcon cs a fun m => Cond.methodLinkNest (mY M).cls i (mY m) "SmellBurdens" ∈ xNest
def xGw (own : String) (i a b c : Nat) : Prop := match c with
  | 0 => xFw own i a b 0 ∈ xG
  | _ => xFw own i a b 1 ∈ xNest
def xWrd (M : xM) (cs : xCs) (e : xE) : Prop := match e with
  | (_, _, ins, a, b, c, _) => match ins with
    | .ldc i => Cond.constant (mY M).cls i (nI a) ∈ xG
    | .ldc_w i => Cond.constant (mY M).cls i (nI a) ∈ xG
    | .ldc2_w i => Cond.constantLong (mY M).cls i (xcv c a) ∈ xG
    | .getfield i => xGw (mY M).cls i a b c
    | .putfield i => xFw (mY M).cls i a b 0 ∈ xG ∧ (((vwCl.getD a (RX0, TX0, 0)).2.1 b).2.2.2 = true → (mY M).name = "<init>" ∧ ((vwCl.getD a (RX0, TX0, 0)).2.1 b).1 = (mY M).cls)
    | .new i => Cond.classLink (mY M).cls i (vwCl.getD a (RX0, TX0, 0)).1 ∈ xG ∧ Cond.instantiable (vwCl.getD a (RX0, TX0, 0)).1 (vwCl.getD a (RX0, TX0, 0)).2.2 ∈ xG ∧ Cond.initialized (vwCl.getD a (RX0, TX0, 0)).1 ∈ xG ∧ a < 9
    | .newarray _ => xNw c
    | .anewarray i => Cond.classLink (mY M).cls i "SmellBurdens$Deeds" ∈ xG
    | .invokevirtual i => xcon cs a fun m => Cond.methodLink (mY M).cls i (mY m) ∈ xG
    | .invokespecial i => (match c with
      | 0 => xMw M cs i a b
      | _ => Cond.methodLink (mY M).cls i Lib.objectInit ∈ xG ∧ Cond.instanceMethod Lib.objectInit ∈ xG ∧ Cond.code Lib.objectInit ⟨#[0xb1]⟩ 1 none ∈ xG)
    | .invokestatic i => (match c with
      | 0 => xMw M cs i a b
      | 1 => Cond.methodLink (mY M).cls i Lib.Math.max.name ∈ xG ∧ Cond.static Lib.Math.max.name ∈ xG ∧ Cond.initialized "java/lang/Math" ∈ xG ∧ Cond.code Lib.Math.max.name Lib.Math.max.code 2 (some .int) ∈ xG
      | 2 => Cond.methodLink (mY M).cls i Lib.Math.min.name ∈ xG ∧ Cond.static Lib.Math.min.name ∈ xG ∧ Cond.initialized "java/lang/Math" ∈ xG ∧ Cond.code Lib.Math.min.name Lib.Math.min.code 2 (some .int) ∈ xG
      | _ => Cond.methodLink (mY M).cls i arraycopyName ∈ xG ∧ Cond.native arraycopyName ∈ xG ∧ Cond.static arraycopyName ∈ xG ∧ Cond.initialized "java/lang/System" ∈ xG)
    | _ => True
theorem xbeq {a b : Nat} (h : Nat.beq a b = true) : a = b := Nat.eq_of_beq_eq_true h
theorem xblt {a b : Nat} (h : Nat.blt a b = true) : a < b := Nat.le_of_ble_eq_true h
theorem xci_e {i : Int} {a : Nat} {k : Int32 → Prop} (h : xci i a k) (ha : i.natAbs = a) : k (Int32.ofInt i) := by
  subst ha
  cases i with
  | ofNat j => exact h
  | negSucc j =>
    have e : Int32.ofInt (Int.negSucc j) = -(nI (Int.negSucc j).natAbs) := by
      have e1 : nI (Int.negSucc j).natAbs = Int32.ofInt ((j : Int) + 1) := by
        show Int32.ofNat (j + 1) = _
        rw [← Int32.ofInt_eq_ofNat]
        rfl
      rw [e1, ← Int32.ofInt_neg]
      congr 1
    rw [e]
    exact h
theorem xcl_e {c a : Nat} {k : Int64 → Prop} (h : xcl c a k) : k (xcv c a) := by
  cases c with
  | zero => exact h
  | succ c => exact h
theorem xbr_e {c A B : Prop} (h : xbr c A B) : (c → A) ∧ (¬ c → B) := h
end
section
theorem xby {i : Int} (h1 : -128 ≤ i) (h2 : i < 128) : (Int8.ofInt i).toInt32 = Int32.ofInt i := by
  apply Int32.toInt_inj.mp
  rw [Int8.toInt_toInt32, Int8.toInt_ofInt, Int32.toInt_ofInt]
  have e8 : ((Int8.size : Nat) : Int) = 256 := rfl
  have e16 : ((Int16.size : Nat) : Int) = 65536 := rfl
  have e32 : ((Int32.size : Nat) : Int) = 4294967296 := rfl
  rw [Int.bmod_eq_of_le (by omega) (by omega), Int.bmod_eq_of_le (by omega) (by omega)]
theorem xsh {i : Int} (h1 : -32768 ≤ i) (h2 : i < 32768) : (Int16.ofInt i).toInt32 = Int32.ofInt i := by
  apply Int32.toInt_inj.mp
  rw [Int16.toInt_toInt32, Int16.toInt_ofInt, Int32.toInt_ofInt]
  have e8 : ((Int8.size : Nat) : Int) = 256 := rfl
  have e16 : ((Int16.size : Nat) : Int) = 65536 := rfl
  have e32 : ((Int32.size : Nat) : Int) = 4294967296 := rfl
  rw [Int.bmod_eq_of_le (by omega) (by omega), Int.bmod_eq_of_le (by omega) (by omega)]
/-! each instruction's step is sound -/
section STEPS
variable {p : Program} {l : Launch} {e : Env} {s : State} {m : MethodId} {args : Array Value} {below : List Frame} {meth : Method} {c : Code} {D : va_G} {cI cJ cD : ClassId} {b base n0 : Nat} {scr : Nat → Int32} {M : xM} {cs : xCs} {Q : xQ} {Z : State → Prop}
variable {pc : Nat} {K : xK} {J : Nat → xK} {ls : xV} {st : List Value} {k n : Nat} {I : xI} {L : xL} {P : xR}
theorem xs_iadd (X : xCtx p l e s m args below meth c D cI cJ cD b base n0 scr M cs) (hd : decode (mC M) pc = .ok (.iadd, 1)) (hK : ∀ ls st k n I L P, K Q ls st k n I L P → xAt p l e s m args below meth c D cI cJ cD b base n0 scr M Z (pc + 1) ls st k n I L P) (h : xpI st fun y st => xpI st fun x st => K Q ls (.int (x + y) :: st) k n I L P) : xAt p l e s m args below meth c D cI cJ cD b base n0 scr M Z pc ls st k n I L P := by
  obtain ⟨y, r1, e1, h1⟩ := xpI_e h
  subst e1
  obtain ⟨x, r2, e2, h2⟩ := xpI_e h1
  subst e2
  intro hn hk hI hl H locs lsA hP hS hL
  exact lv_iadd X.1 X.2.1 hd (hK _ _ _ _ _ _ _ h2 hn hk hI hl H locs lsA hP hS hL)
theorem xs_isub (X : xCtx p l e s m args below meth c D cI cJ cD b base n0 scr M cs) (hd : decode (mC M) pc = .ok (.isub, 1)) (hK : ∀ ls st k n I L P, K Q ls st k n I L P → xAt p l e s m args below meth c D cI cJ cD b base n0 scr M Z (pc + 1) ls st k n I L P) (h : xpI st fun y st => xpI st fun x st => K Q ls (.int (x - y) :: st) k n I L P) : xAt p l e s m args below meth c D cI cJ cD b base n0 scr M Z pc ls st k n I L P := by
  obtain ⟨y, r1, e1, h1⟩ := xpI_e h
  subst e1
  obtain ⟨x, r2, e2, h2⟩ := xpI_e h1
  subst e2
  intro hn hk hI hl H locs lsA hP hS hL
  exact lv_isub X.1 X.2.1 hd (hK _ _ _ _ _ _ _ h2 hn hk hI hl H locs lsA hP hS hL)
theorem xs_imul (X : xCtx p l e s m args below meth c D cI cJ cD b base n0 scr M cs) (hd : decode (mC M) pc = .ok (.imul, 1)) (hK : ∀ ls st k n I L P, K Q ls st k n I L P → xAt p l e s m args below meth c D cI cJ cD b base n0 scr M Z (pc + 1) ls st k n I L P) (h : xpI st fun y st => xpI st fun x st => K Q ls (.int (x * y) :: st) k n I L P) : xAt p l e s m args below meth c D cI cJ cD b base n0 scr M Z pc ls st k n I L P := by
  obtain ⟨y, r1, e1, h1⟩ := xpI_e h
  subst e1
  obtain ⟨x, r2, e2, h2⟩ := xpI_e h1
  subst e2
  intro hn hk hI hl H locs lsA hP hS hL
  exact lv_imul X.1 X.2.1 hd (hK _ _ _ _ _ _ _ h2 hn hk hI hl H locs lsA hP hS hL)
theorem xs_iand (X : xCtx p l e s m args below meth c D cI cJ cD b base n0 scr M cs) (hd : decode (mC M) pc = .ok (.iand, 1)) (hK : ∀ ls st k n I L P, K Q ls st k n I L P → xAt p l e s m args below meth c D cI cJ cD b base n0 scr M Z (pc + 1) ls st k n I L P) (h : xpI st fun y st => xpI st fun x st => K Q ls (.int (x &&& y) :: st) k n I L P) : xAt p l e s m args below meth c D cI cJ cD b base n0 scr M Z pc ls st k n I L P := by
  obtain ⟨y, r1, e1, h1⟩ := xpI_e h
  subst e1
  obtain ⟨x, r2, e2, h2⟩ := xpI_e h1
  subst e2
  intro hn hk hI hl H locs lsA hP hS hL
  exact lv_iand X.1 X.2.1 hd (hK _ _ _ _ _ _ _ h2 hn hk hI hl H locs lsA hP hS hL)
theorem xs_ior (X : xCtx p l e s m args below meth c D cI cJ cD b base n0 scr M cs) (hd : decode (mC M) pc = .ok (.ior, 1)) (hK : ∀ ls st k n I L P, K Q ls st k n I L P → xAt p l e s m args below meth c D cI cJ cD b base n0 scr M Z (pc + 1) ls st k n I L P) (h : xpI st fun y st => xpI st fun x st => K Q ls (.int (x ||| y) :: st) k n I L P) : xAt p l e s m args below meth c D cI cJ cD b base n0 scr M Z pc ls st k n I L P := by
  obtain ⟨y, r1, e1, h1⟩ := xpI_e h
  subst e1
  obtain ⟨x, r2, e2, h2⟩ := xpI_e h1
  subst e2
  intro hn hk hI hl H locs lsA hP hS hL
  exact lv_ior X.1 X.2.1 hd (hK _ _ _ _ _ _ _ h2 hn hk hI hl H locs lsA hP hS hL)
theorem xs_ixor (X : xCtx p l e s m args below meth c D cI cJ cD b base n0 scr M cs) (hd : decode (mC M) pc = .ok (.ixor, 1)) (hK : ∀ ls st k n I L P, K Q ls st k n I L P → xAt p l e s m args below meth c D cI cJ cD b base n0 scr M Z (pc + 1) ls st k n I L P) (h : xpI st fun y st => xpI st fun x st => K Q ls (.int (x ^^^ y) :: st) k n I L P) : xAt p l e s m args below meth c D cI cJ cD b base n0 scr M Z pc ls st k n I L P := by
  obtain ⟨y, r1, e1, h1⟩ := xpI_e h
  subst e1
  obtain ⟨x, r2, e2, h2⟩ := xpI_e h1
  subst e2
  intro hn hk hI hl H locs lsA hP hS hL
  exact lv_ixor X.1 X.2.1 hd (hK _ _ _ _ _ _ _ h2 hn hk hI hl H locs lsA hP hS hL)
theorem xs_ishl (X : xCtx p l e s m args below meth c D cI cJ cD b base n0 scr M cs) (hd : decode (mC M) pc = .ok (.ishl, 1)) (hK : ∀ ls st k n I L P, K Q ls st k n I L P → xAt p l e s m args below meth c D cI cJ cD b base n0 scr M Z (pc + 1) ls st k n I L P) (h : xpI st fun y st => xpI st fun x st => K Q ls (.int (x <<< (y &&& 31)) :: st) k n I L P) : xAt p l e s m args below meth c D cI cJ cD b base n0 scr M Z pc ls st k n I L P := by
  obtain ⟨y, r1, e1, h1⟩ := xpI_e h
  subst e1
  obtain ⟨x, r2, e2, h2⟩ := xpI_e h1
  subst e2
  intro hn hk hI hl H locs lsA hP hS hL
  exact lv_ishl X.1 X.2.1 hd (hK _ _ _ _ _ _ _ h2 hn hk hI hl H locs lsA hP hS hL)
theorem xs_ishr (X : xCtx p l e s m args below meth c D cI cJ cD b base n0 scr M cs) (hd : decode (mC M) pc = .ok (.ishr, 1)) (hK : ∀ ls st k n I L P, K Q ls st k n I L P → xAt p l e s m args below meth c D cI cJ cD b base n0 scr M Z (pc + 1) ls st k n I L P) (h : xpI st fun y st => xpI st fun x st => K Q ls (.int (x >>> (y &&& 31)) :: st) k n I L P) : xAt p l e s m args below meth c D cI cJ cD b base n0 scr M Z pc ls st k n I L P := by
  obtain ⟨y, r1, e1, h1⟩ := xpI_e h
  subst e1
  obtain ⟨x, r2, e2, h2⟩ := xpI_e h1
  subst e2
  intro hn hk hI hl H locs lsA hP hS hL
  exact lv_ishr X.1 X.2.1 hd (hK _ _ _ _ _ _ _ h2 hn hk hI hl H locs lsA hP hS hL)
theorem xs_ladd (X : xCtx p l e s m args below meth c D cI cJ cD b base n0 scr M cs) (hd : decode (mC M) pc = .ok (.ladd, 1)) (hK : ∀ ls st k n I L P, K Q ls st k n I L P → xAt p l e s m args below meth c D cI cJ cD b base n0 scr M Z (pc + 1) ls st k n I L P) (h : xpL st fun y st => xpL st fun x st => K Q ls (.long (x + y) :: st) k n I L P) : xAt p l e s m args below meth c D cI cJ cD b base n0 scr M Z pc ls st k n I L P := by
  obtain ⟨y, r1, e1, h1⟩ := xpL_e h
  subst e1
  obtain ⟨x, r2, e2, h2⟩ := xpL_e h1
  subst e2
  intro hn hk hI hl H locs lsA hP hS hL
  exact lv_ladd X.1 X.2.1 hd (hK _ _ _ _ _ _ _ h2 hn hk hI hl H locs lsA hP hS hL)
theorem xs_lsub (X : xCtx p l e s m args below meth c D cI cJ cD b base n0 scr M cs) (hd : decode (mC M) pc = .ok (.lsub, 1)) (hK : ∀ ls st k n I L P, K Q ls st k n I L P → xAt p l e s m args below meth c D cI cJ cD b base n0 scr M Z (pc + 1) ls st k n I L P) (h : xpL st fun y st => xpL st fun x st => K Q ls (.long (x - y) :: st) k n I L P) : xAt p l e s m args below meth c D cI cJ cD b base n0 scr M Z pc ls st k n I L P := by
  obtain ⟨y, r1, e1, h1⟩ := xpL_e h
  subst e1
  obtain ⟨x, r2, e2, h2⟩ := xpL_e h1
  subst e2
  intro hn hk hI hl H locs lsA hP hS hL
  exact lv_lsub X.1 X.2.1 hd (hK _ _ _ _ _ _ _ h2 hn hk hI hl H locs lsA hP hS hL)
theorem xs_lmul (X : xCtx p l e s m args below meth c D cI cJ cD b base n0 scr M cs) (hd : decode (mC M) pc = .ok (.lmul, 1)) (hK : ∀ ls st k n I L P, K Q ls st k n I L P → xAt p l e s m args below meth c D cI cJ cD b base n0 scr M Z (pc + 1) ls st k n I L P) (h : xpL st fun y st => xpL st fun x st => K Q ls (.long (x * y) :: st) k n I L P) : xAt p l e s m args below meth c D cI cJ cD b base n0 scr M Z pc ls st k n I L P := by
  obtain ⟨y, r1, e1, h1⟩ := xpL_e h
  subst e1
  obtain ⟨x, r2, e2, h2⟩ := xpL_e h1
  subst e2
  intro hn hk hI hl H locs lsA hP hS hL
  exact lv_lmul X.1 X.2.1 hd (hK _ _ _ _ _ _ _ h2 hn hk hI hl H locs lsA hP hS hL)
theorem xs_land (X : xCtx p l e s m args below meth c D cI cJ cD b base n0 scr M cs) (hd : decode (mC M) pc = .ok (.land, 1)) (hK : ∀ ls st k n I L P, K Q ls st k n I L P → xAt p l e s m args below meth c D cI cJ cD b base n0 scr M Z (pc + 1) ls st k n I L P) (h : xpL st fun y st => xpL st fun x st => K Q ls (.long (x &&& y) :: st) k n I L P) : xAt p l e s m args below meth c D cI cJ cD b base n0 scr M Z pc ls st k n I L P := by
  obtain ⟨y, r1, e1, h1⟩ := xpL_e h
  subst e1
  obtain ⟨x, r2, e2, h2⟩ := xpL_e h1
  subst e2
  intro hn hk hI hl H locs lsA hP hS hL
  exact lv_land X.1 X.2.1 hd (hK _ _ _ _ _ _ _ h2 hn hk hI hl H locs lsA hP hS hL)
theorem xs_lor (X : xCtx p l e s m args below meth c D cI cJ cD b base n0 scr M cs) (hd : decode (mC M) pc = .ok (.lor, 1)) (hK : ∀ ls st k n I L P, K Q ls st k n I L P → xAt p l e s m args below meth c D cI cJ cD b base n0 scr M Z (pc + 1) ls st k n I L P) (h : xpL st fun y st => xpL st fun x st => K Q ls (.long (x ||| y) :: st) k n I L P) : xAt p l e s m args below meth c D cI cJ cD b base n0 scr M Z pc ls st k n I L P := by
  obtain ⟨y, r1, e1, h1⟩ := xpL_e h
  subst e1
  obtain ⟨x, r2, e2, h2⟩ := xpL_e h1
  subst e2
  intro hn hk hI hl H locs lsA hP hS hL
  exact lv_lor X.1 X.2.1 hd (hK _ _ _ _ _ _ _ h2 hn hk hI hl H locs lsA hP hS hL)
theorem xs_lxor (X : xCtx p l e s m args below meth c D cI cJ cD b base n0 scr M cs) (hd : decode (mC M) pc = .ok (.lxor, 1)) (hK : ∀ ls st k n I L P, K Q ls st k n I L P → xAt p l e s m args below meth c D cI cJ cD b base n0 scr M Z (pc + 1) ls st k n I L P) (h : xpL st fun y st => xpL st fun x st => K Q ls (.long (x ^^^ y) :: st) k n I L P) : xAt p l e s m args below meth c D cI cJ cD b base n0 scr M Z pc ls st k n I L P := by
  obtain ⟨y, r1, e1, h1⟩ := xpL_e h
  subst e1
  obtain ⟨x, r2, e2, h2⟩ := xpL_e h1
  subst e2
  intro hn hk hI hl H locs lsA hP hS hL
  exact lv_lxor X.1 X.2.1 hd (hK _ _ _ _ _ _ _ h2 hn hk hI hl H locs lsA hP hS hL)
theorem xs_lcmp (X : xCtx p l e s m args below meth c D cI cJ cD b base n0 scr M cs) (hd : decode (mC M) pc = .ok (.lcmp, 1)) (hK : ∀ ls st k n I L P, K Q ls st k n I L P → xAt p l e s m args below meth c D cI cJ cD b base n0 scr M Z (pc + 1) ls st k n I L P) (h : xpL st fun y st => xpL st fun x st => K Q ls (.int (lg_cmp x y) :: st) k n I L P) : xAt p l e s m args below meth c D cI cJ cD b base n0 scr M Z pc ls st k n I L P := by
  obtain ⟨y, r1, e1, h1⟩ := xpL_e h
  subst e1
  obtain ⟨x, r2, e2, h2⟩ := xpL_e h1
  subst e2
  intro hn hk hI hl H locs lsA hP hS hL
  exact W.lcmp X.1 X.2.1 hd (hK _ _ _ _ _ _ _ h2 hn hk hI hl H locs lsA hP hS hL)
theorem xs_iushr (X : xCtx p l e s m args below meth c D cI cJ cD b base n0 scr M cs) (hd : decode (mC M) pc = .ok (.iushr, 1)) (hK : ∀ ls st k n I L P, K Q ls st k n I L P → xAt p l e s m args below meth c D cI cJ cD b base n0 scr M Z (pc + 1) ls st k n I L P) (h : xpI st fun y st => xpI st fun x st => K Q ls (.int (x.toUInt32 >>> (y.toUInt32 &&& Int32.toUInt32 31)).toInt32 :: st) k n I L P) : xAt p l e s m args below meth c D cI cJ cD b base n0 scr M Z pc ls st k n I L P := by
  obtain ⟨y, r1, e1, h1⟩ := xpI_e h
  subst e1
  obtain ⟨x, r2, e2, h2⟩ := xpI_e h1
  subst e2
  intro hn hk hI hl H locs lsA hP hS hL
  exact lv_iushr X.1 X.2.1 hd rfl (hK _ _ _ _ _ _ _ h2 hn hk hI hl H locs lsA hP hS hL)
theorem xs_lushr (X : xCtx p l e s m args below meth c D cI cJ cD b base n0 scr M cs) (hd : decode (mC M) pc = .ok (.lushr, 1)) (hK : ∀ ls st k n I L P, K Q ls st k n I L P → xAt p l e s m args below meth c D cI cJ cD b base n0 scr M Z (pc + 1) ls st k n I L P) (h : xpI st fun y st => xpL st fun x st => K Q ls (.long (x.toUInt64 >>> (y.toInt64.toUInt64 &&& Int64.toUInt64 63)).toInt64 :: st) k n I L P) : xAt p l e s m args below meth c D cI cJ cD b base n0 scr M Z pc ls st k n I L P := by
  obtain ⟨y, r1, e1, h1⟩ := xpI_e h
  subst e1
  obtain ⟨x, r2, e2, h2⟩ := xpL_e h1
  subst e2
  intro hn hk hI hl H locs lsA hP hS hL
  exact lv_lushr X.1 X.2.1 hd rfl (hK _ _ _ _ _ _ _ h2 hn hk hI hl H locs lsA hP hS hL)
theorem xs_lshl (X : xCtx p l e s m args below meth c D cI cJ cD b base n0 scr M cs) (hd : decode (mC M) pc = .ok (.lshl, 1)) (hK : ∀ ls st k n I L P, K Q ls st k n I L P → xAt p l e s m args below meth c D cI cJ cD b base n0 scr M Z (pc + 1) ls st k n I L P) (h : xpI st fun y st => xpL st fun x st => K Q ls (.long (x <<< (y.toInt64 &&& 63)) :: st) k n I L P) : xAt p l e s m args below meth c D cI cJ cD b base n0 scr M Z pc ls st k n I L P := by
  obtain ⟨y, r1, e1, h1⟩ := xpI_e h
  subst e1
  obtain ⟨x, r2, e2, h2⟩ := xpL_e h1
  subst e2
  intro hn hk hI hl H locs lsA hP hS hL
  exact lv_lshl X.1 X.2.1 hd rfl (hK _ _ _ _ _ _ _ h2 hn hk hI hl H locs lsA hP hS hL)
theorem xs_idiv (X : xCtx p l e s m args below meth c D cI cJ cD b base n0 scr M cs) (hd : decode (mC M) pc = .ok (.idiv, 1)) (hK : ∀ ls st k n I L P, K Q ls st k n I L P → xAt p l e s m args below meth c D cI cJ cD b base n0 scr M Z (pc + 1) ls st k n I L P) (h : xpI st fun y st => xpI st fun x st => ¬ y = 0 ∧ K Q ls (.int (x / y) :: st) k n I L P) : xAt p l e s m args below meth c D cI cJ cD b base n0 scr M Z pc ls st k n I L P := by
  obtain ⟨y, r1, e1, h1⟩ := xpI_e h
  subst e1
  obtain ⟨x, r2, e2, h0, h2⟩ := xpI_e h1
  subst e2
  intro hn hk hI hl H locs lsA hP hS hL
  exact lv_idiv X.1 X.2.1 hd h0 (hK _ _ _ _ _ _ _ h2 hn hk hI hl H locs lsA hP hS hL)
theorem xs_irem (X : xCtx p l e s m args below meth c D cI cJ cD b base n0 scr M cs) (hd : decode (mC M) pc = .ok (.irem, 1)) (hK : ∀ ls st k n I L P, K Q ls st k n I L P → xAt p l e s m args below meth c D cI cJ cD b base n0 scr M Z (pc + 1) ls st k n I L P) (h : xpI st fun y st => xpI st fun x st => ¬ y = 0 ∧ K Q ls (.int (x - x / y * y) :: st) k n I L P) : xAt p l e s m args below meth c D cI cJ cD b base n0 scr M Z pc ls st k n I L P := by
  obtain ⟨y, r1, e1, h1⟩ := xpI_e h
  subst e1
  obtain ⟨x, r2, e2, h0, h2⟩ := xpI_e h1
  subst e2
  intro hn hk hI hl H locs lsA hP hS hL
  exact lv_irem X.1 X.2.1 hd h0 (hK _ _ _ _ _ _ _ h2 hn hk hI hl H locs lsA hP hS hL)
theorem xs_ldiv (X : xCtx p l e s m args below meth c D cI cJ cD b base n0 scr M cs) (hd : decode (mC M) pc = .ok (.ldiv, 1)) (hK : ∀ ls st k n I L P, K Q ls st k n I L P → xAt p l e s m args below meth c D cI cJ cD b base n0 scr M Z (pc + 1) ls st k n I L P) (h : xpL st fun y st => xpL st fun x st => ¬ y = 0 ∧ K Q ls (.long (x / y) :: st) k n I L P) : xAt p l e s m args below meth c D cI cJ cD b base n0 scr M Z pc ls st k n I L P := by
  obtain ⟨y, r1, e1, h1⟩ := xpL_e h
  subst e1
  obtain ⟨x, r2, e2, h0, h2⟩ := xpL_e h1
  subst e2
  intro hn hk hI hl H locs lsA hP hS hL
  exact lv_ldiv X.1 X.2.1 hd h0 (hK _ _ _ _ _ _ _ h2 hn hk hI hl H locs lsA hP hS hL)
theorem xs_lrem (X : xCtx p l e s m args below meth c D cI cJ cD b base n0 scr M cs) (hd : decode (mC M) pc = .ok (.lrem, 1)) (hK : ∀ ls st k n I L P, K Q ls st k n I L P → xAt p l e s m args below meth c D cI cJ cD b base n0 scr M Z (pc + 1) ls st k n I L P) (h : xpL st fun y st => xpL st fun x st => ¬ y = 0 ∧ K Q ls (.long (x - x / y * y) :: st) k n I L P) : xAt p l e s m args below meth c D cI cJ cD b base n0 scr M Z pc ls st k n I L P := by
  obtain ⟨y, r1, e1, h1⟩ := xpL_e h
  subst e1
  obtain ⟨x, r2, e2, h0, h2⟩ := xpL_e h1
  subst e2
  intro hn hk hI hl H locs lsA hP hS hL
  exact lv_lrem X.1 X.2.1 hd h0 (hK _ _ _ _ _ _ _ h2 hn hk hI hl H locs lsA hP hS hL)
theorem xs_i2l (X : xCtx p l e s m args below meth c D cI cJ cD b base n0 scr M cs) (hd : decode (mC M) pc = .ok (.i2l, 1)) (hK : ∀ ls st k n I L P, K Q ls st k n I L P → xAt p l e s m args below meth c D cI cJ cD b base n0 scr M Z (pc + 1) ls st k n I L P) (h : xpI st fun x st => K Q ls (.long x.toInt64 :: st) k n I L P) : xAt p l e s m args below meth c D cI cJ cD b base n0 scr M Z pc ls st k n I L P := by
  obtain ⟨x, r, rfl, h⟩ := xpI_e h
  intro hn hk hI hl H locs lsA hP hS hL
  exact lv_i2l X.1 X.2.1 hd rfl (hK _ _ _ _ _ _ _ h hn hk hI hl H locs lsA hP hS hL)
theorem xs_l2i (X : xCtx p l e s m args below meth c D cI cJ cD b base n0 scr M cs) (hd : decode (mC M) pc = .ok (.l2i, 1)) (hK : ∀ ls st k n I L P, K Q ls st k n I L P → xAt p l e s m args below meth c D cI cJ cD b base n0 scr M Z (pc + 1) ls st k n I L P) (h : xpL st fun x st => K Q ls (.int x.toInt32 :: st) k n I L P) : xAt p l e s m args below meth c D cI cJ cD b base n0 scr M Z pc ls st k n I L P := by
  obtain ⟨x, r, rfl, h⟩ := xpL_e h
  intro hn hk hI hl H locs lsA hP hS hL
  exact lv_l2i X.1 X.2.1 hd rfl (hK _ _ _ _ _ _ _ h hn hk hI hl H locs lsA hP hS hL)
theorem xs_i2b (X : xCtx p l e s m args below meth c D cI cJ cD b base n0 scr M cs) (hd : decode (mC M) pc = .ok (.i2b, 1)) (hK : ∀ ls st k n I L P, K Q ls st k n I L P → xAt p l e s m args below meth c D cI cJ cD b base n0 scr M Z (pc + 1) ls st k n I L P) (h : xpI st fun x st => K Q ls (.int x.toInt8.toInt32 :: st) k n I L P) : xAt p l e s m args below meth c D cI cJ cD b base n0 scr M Z pc ls st k n I L P := by
  obtain ⟨x, r, rfl, h⟩ := xpI_e h
  intro hn hk hI hl H locs lsA hP hS hL
  exact lv_i2b X.1 X.2.1 hd rfl (hK _ _ _ _ _ _ _ h hn hk hI hl H locs lsA hP hS hL)
theorem xs_pop (X : xCtx p l e s m args below meth c D cI cJ cD b base n0 scr M cs) (hd : decode (mC M) pc = .ok (.pop, 1)) (hK : ∀ ls st k n I L P, K Q ls st k n I L P → xAt p l e s m args below meth c D cI cJ cD b base n0 scr M Z (pc + 1) ls st k n I L P) (h : xp1 st fun _ st => K Q ls st k n I L P) : xAt p l e s m args below meth c D cI cJ cD b base n0 scr M Z pc ls st k n I L P := by
  obtain ⟨v, r, rfl, hv, hc, h⟩ := xp1_e h
  intro hn hk hI hl H locs lsA hP hS hL
  exact lv_pop X.1 X.2.1 hd (hc b base) (hK _ _ _ _ _ _ _ h hn hk hI hl H locs lsA hP hS hL)
theorem xs_dup (X : xCtx p l e s m args below meth c D cI cJ cD b base n0 scr M cs) (hd : decode (mC M) pc = .ok (.dup, 1)) (hK : ∀ ls st k n I L P, K Q ls st k n I L P → xAt p l e s m args below meth c D cI cJ cD b base n0 scr M Z (pc + 1) ls st k n I L P) (h : xp1 st fun v st => K Q ls (v :: v :: st) k n I L P) : xAt p l e s m args below meth c D cI cJ cD b base n0 scr M Z pc ls st k n I L P := by
  obtain ⟨v, r, rfl, hv, hc, h⟩ := xp1_e h
  intro hn hk hI hl H locs lsA hP hS hL
  exact lv_dup X.1 X.2.1 hd (hc b base) (hK _ _ _ _ _ _ _ h hn hk hI hl H locs lsA hP hS hL)
theorem xs_dup2 (X : xCtx p l e s m args below meth c D cI cJ cD b base n0 scr M cs) (hd : decode (mC M) pc = .ok (.dup2, 1)) (hK : ∀ ls st k n I L P, K Q ls st k n I L P → xAt p l e s m args below meth c D cI cJ cD b base n0 scr M Z (pc + 1) ls st k n I L P) (h : xp1 st fun v st => xp1 st fun w st => K Q ls (v :: w :: v :: w :: st) k n I L P) : xAt p l e s m args below meth c D cI cJ cD b base n0 scr M Z pc ls st k n I L P := by
  obtain ⟨v, r1, e1, hv, hc, h1⟩ := xp1_e h
  subst e1
  obtain ⟨w, r2, e2, hv2, hc2, h2⟩ := xp1_e h1
  subst e2
  intro hn hk hI hl H locs lsA hP hS hL
  exact lv_dup2_11 X.1 X.2.1 hd (hc b base) (hc2 b base) (hK _ _ _ _ _ _ _ h2 hn hk hI hl H locs lsA hP hS hL)
theorem xs_null (X : xCtx p l e s m args below meth c D cI cJ cD b base n0 scr M cs) (hd : decode (mC M) pc = .ok (.aconst_null, 1)) (hK : ∀ ls st k n I L P, K Q ls st k n I L P → xAt p l e s m args below meth c D cI cJ cD b base n0 scr M Z (pc + 1) ls st k n I L P) (h : K Q ls (.null :: st) k n I L P) : xAt p l e s m args below meth c D cI cJ cD b base n0 scr M Z pc ls st k n I L P := by
  intro hn hk hI hl H locs lsA hP hS hL
  exact lv_null X.1 X.2.1 hd (hK _ _ _ _ _ _ _ h hn hk hI hl H locs lsA hP hS hL)
theorem xs_iconst (X : xCtx p l e s m args below meth c D cI cJ cD b base n0 scr M cs) {i : Int} {a : Nat} (ha : i.natAbs = a) (hd : decode (mC M) pc = .ok (.iconst i, 1)) (hK : ∀ ls st k n I L P, K Q ls st k n I L P → xAt p l e s m args below meth c D cI cJ cD b base n0 scr M Z (pc + 1) ls st k n I L P) (h : xci i a fun v => K Q ls (.int v :: st) k n I L P) : xAt p l e s m args below meth c D cI cJ cD b base n0 scr M Z pc ls st k n I L P := by
  have h := xci_e h ha
  intro hn hk hI hl H locs lsA hP hS hL
  exact lv_iconst X.1 X.2.1 hd rfl (hK _ _ _ _ _ _ _ h hn hk hI hl H locs lsA hP hS hL)
theorem xs_bipush (X : xCtx p l e s m args below meth c D cI cJ cD b base n0 scr M cs) {i : Int} {a : Nat} (ha : i.natAbs = a) (hr : a < 129) (hr2 : i < 128) (hd : decode (mC M) pc = .ok (.bipush i, 2)) (hK : ∀ ls st k n I L P, K Q ls st k n I L P → xAt p l e s m args below meth c D cI cJ cD b base n0 scr M Z (pc + 2) ls st k n I L P) (h : xci i a fun v => K Q ls (.int v :: st) k n I L P) : xAt p l e s m args below meth c D cI cJ cD b base n0 scr M Z pc ls st k n I L P := by
  have h := xci_e h ha
  intro hn hk hI hl H locs lsA hP hS hL
  exact lv_bipush X.1 X.2.1 hd (xby (by omega) hr2) (hK _ _ _ _ _ _ _ h hn hk hI hl H locs lsA hP hS hL)
theorem xs_sipush (X : xCtx p l e s m args below meth c D cI cJ cD b base n0 scr M cs) {i : Int} {a : Nat} (ha : i.natAbs = a) (hr : a < 32769) (hr2 : i < 32768) (hd : decode (mC M) pc = .ok (.sipush i, 3)) (hK : ∀ ls st k n I L P, K Q ls st k n I L P → xAt p l e s m args below meth c D cI cJ cD b base n0 scr M Z (pc + 3) ls st k n I L P) (h : xci i a fun v => K Q ls (.int v :: st) k n I L P) : xAt p l e s m args below meth c D cI cJ cD b base n0 scr M Z pc ls st k n I L P := by
  have h := xci_e h ha
  intro hn hk hI hl H locs lsA hP hS hL
  exact lv_sipush X.1 X.2.1 hd (xsh (by omega) hr2) (hK _ _ _ _ _ _ _ h hn hk hI hl H locs lsA hP hS hL)
theorem xs_lconst (X : xCtx p l e s m args below meth c D cI cJ cD b base n0 scr M cs) {i : Fin 2} {a : Nat} (ha : i.val = a) (hd : decode (mC M) pc = .ok (.lconst i, 1)) (hK : ∀ ls st k n I L P, K Q ls st k n I L P → xAt p l e s m args below meth c D cI cJ cD b base n0 scr M Z (pc + 1) ls st k n I L P) (h : K Q ls (.long (lN a) :: st) k n I L P) : xAt p l e s m args below meth c D cI cJ cD b base n0 scr M Z pc ls st k n I L P := by
  subst ha
  intro hn hk hI hl H locs lsA hP hS hL
  exact lv_lconst X.1 X.2.1 hd rfl (hK _ _ _ _ _ _ _ h hn hk hI hl H locs lsA hP hS hL)
theorem xs_ldc (X : xCtx p l e s m args below meth c D cI cJ cD b base n0 scr M cs) {i a : Nat} (hw : Cond.constant (mY M).cls i (nI a) ∈ xG) (hd : decode (mC M) pc = .ok (.ldc i, 2)) (hK : ∀ ls st k n I L P, K Q ls st k n I L P → xAt p l e s m args below meth c D cI cJ cD b base n0 scr M Z (pc + 2) ls st k n I L P) (h : K Q ls (.int (nI a) :: st) k n I L P) : xAt p l e s m args below meth c D cI cJ cD b base n0 scr M Z pc ls st k n I L P := by
  intro hn hk hI hl H locs lsA hP hS hL
  exact lv_ldc X.1 X.2.1 X.2.2.2.1 (X.2.2.2.2.1 _ hw) hd (hK _ _ _ _ _ _ _ h hn hk hI hl H locs lsA hP hS hL)
theorem xs_ldcw (X : xCtx p l e s m args below meth c D cI cJ cD b base n0 scr M cs) {i a : Nat} (hw : Cond.constant (mY M).cls i (nI a) ∈ xG) (hd : decode (mC M) pc = .ok (.ldc_w i, 3)) (hK : ∀ ls st k n I L P, K Q ls st k n I L P → xAt p l e s m args below meth c D cI cJ cD b base n0 scr M Z (pc + 3) ls st k n I L P) (h : K Q ls (.int (nI a) :: st) k n I L P) : xAt p l e s m args below meth c D cI cJ cD b base n0 scr M Z pc ls st k n I L P := by
  intro hn hk hI hl H locs lsA hP hS hL
  exact lv_ldcw X.1 X.2.1 X.2.2.2.1 (X.2.2.2.2.1 _ hw) hd (hK _ _ _ _ _ _ _ h hn hk hI hl H locs lsA hP hS hL)
theorem xs_ldc2 (X : xCtx p l e s m args below meth c D cI cJ cD b base n0 scr M cs) {i a c9 : Nat} (hw : Cond.constantLong (mY M).cls i (xcv c9 a) ∈ xG) (hd : decode (mC M) pc = .ok (.ldc2_w i, 3)) (hK : ∀ ls st k n I L P, K Q ls st k n I L P → xAt p l e s m args below meth c D cI cJ cD b base n0 scr M Z (pc + 3) ls st k n I L P) (h : xcl c9 a fun v => K Q ls (.long v :: st) k n I L P) : xAt p l e s m args below meth c D cI cJ cD b base n0 scr M Z pc ls st k n I L P := by
  have h := xcl_e h
  intro hn hk hI hl H locs lsA hP hS hL
  exact lv_ldc2 X.1 X.2.1 X.2.2.2.1 (X.2.2.2.2.1 _ hw) hd (hK _ _ _ _ _ _ _ h hn hk hI hl H locs lsA hP hS hL)
theorem xs_iload (X : xCtx p l e s m args below meth c D cI cJ cD b base n0 scr M cs) {i a : Nat} (ha : i = a) (hd : decode (mC M) pc = .ok (.iload i, 2)) (hK : ∀ ls st k n I L P, K Q ls st k n I L P → xAt p l e s m args below meth c D cI cJ cD b base n0 scr M Z (pc + 2) ls st k n I L P) (h : xgt ls a fun v => xpI [v] fun x _ => K Q ls (.int x :: st) k n I L P) : xAt p l e s m args below meth c D cI cJ cD b base n0 scr M Z pc ls st k n I L P := by
  subst ha
  obtain ⟨v, hv, h⟩ := xgt_e h
  obtain ⟨x, r, hx, h⟩ := xpI_e h
  cases hx
  intro hn hk hI hl H locs lsA hP hS hL
  exact lv_iload X.1 X.2.1 hd (hL.2.2 _ _ hv) (hK _ _ _ _ _ _ _ h hn hk hI hl H locs lsA hP hS hL)
theorem xs_iload_n (X : xCtx p l e s m args below meth c D cI cJ cD b base n0 scr M cs) {i : Fin 4} {a : Nat} (ha : i.val = a) (hd : decode (mC M) pc = .ok (.iload_n i, 1)) (hK : ∀ ls st k n I L P, K Q ls st k n I L P → xAt p l e s m args below meth c D cI cJ cD b base n0 scr M Z (pc + 1) ls st k n I L P) (h : xgt ls a fun v => xpI [v] fun x _ => K Q ls (.int x :: st) k n I L P) : xAt p l e s m args below meth c D cI cJ cD b base n0 scr M Z pc ls st k n I L P := by
  obtain ⟨v, hv, h⟩ := xgt_e h
  obtain ⟨x, r, hx, h⟩ := xpI_e h
  cases hx
  intro hn hk hI hl H locs lsA hP hS hL
  exact lv_iload_n X.1 X.2.1 hd ha (hL.2.2 _ _ hv) (hK _ _ _ _ _ _ _ h hn hk hI hl H locs lsA hP hS hL)
theorem xs_lload (X : xCtx p l e s m args below meth c D cI cJ cD b base n0 scr M cs) {i a : Nat} (ha : i = a) (hd : decode (mC M) pc = .ok (.lload i, 2)) (hK : ∀ ls st k n I L P, K Q ls st k n I L P → xAt p l e s m args below meth c D cI cJ cD b base n0 scr M Z (pc + 2) ls st k n I L P) (h : xgt ls a fun v => xpL [v] fun x _ => K Q ls (.long x :: st) k n I L P) : xAt p l e s m args below meth c D cI cJ cD b base n0 scr M Z pc ls st k n I L P := by
  subst ha
  obtain ⟨v, hv, h⟩ := xgt_e h
  obtain ⟨x, r, hx, h⟩ := xpL_e h
  cases hx
  intro hn hk hI hl H locs lsA hP hS hL
  exact lv_lload X.1 X.2.1 hd (hL.2.2 _ _ hv) (hK _ _ _ _ _ _ _ h hn hk hI hl H locs lsA hP hS hL)
theorem xs_lload_n (X : xCtx p l e s m args below meth c D cI cJ cD b base n0 scr M cs) {i : Fin 4} {a : Nat} (ha : i.val = a) (hd : decode (mC M) pc = .ok (.lload_n i, 1)) (hK : ∀ ls st k n I L P, K Q ls st k n I L P → xAt p l e s m args below meth c D cI cJ cD b base n0 scr M Z (pc + 1) ls st k n I L P) (h : xgt ls a fun v => xpL [v] fun x _ => K Q ls (.long x :: st) k n I L P) : xAt p l e s m args below meth c D cI cJ cD b base n0 scr M Z pc ls st k n I L P := by
  obtain ⟨v, hv, h⟩ := xgt_e h
  obtain ⟨x, r, hx, h⟩ := xpL_e h
  cases hx
  intro hn hk hI hl H locs lsA hP hS hL
  exact lv_lload_n X.1 X.2.1 hd ha (hL.2.2 _ _ hv) (hK _ _ _ _ _ _ _ h hn hk hI hl H locs lsA hP hS hL)
theorem xs_aload (X : xCtx p l e s m args below meth c D cI cJ cD b base n0 scr M cs) {i a : Nat} (ha : i = a) (hd : decode (mC M) pc = .ok (.aload i, 2)) (hK : ∀ ls st k n I L P, K Q ls st k n I L P → xAt p l e s m args below meth c D cI cJ cD b base n0 scr M Z (pc + 2) ls st k n I L P) (h : xgt ls a fun v => xpN [v] (fun _ => K Q ls (.null :: st) k n I L P) fun x _ => K Q ls (.ref x :: st) k n I L P) : xAt p l e s m args below meth c D cI cJ cD b base n0 scr M Z pc ls st k n I L P := by
  subst ha
  obtain ⟨v, hv, h⟩ := xgt_e h
  rcases xpN_e h with ⟨r, hx, h⟩ | ⟨x, r, hx, h⟩
  · cases hx
    intro hn hk hI hl H locs lsA hP hS hL
    exact lv_aloadN X.1 X.2.1 hd (hL.2.2 _ _ hv) (hK _ _ _ _ _ _ _ h hn hk hI hl H locs lsA hP hS hL)
  · cases hx
    intro hn hk hI hl H locs lsA hP hS hL
    exact lv_aload X.1 X.2.1 hd (hL.2.2 _ _ hv) (hK _ _ _ _ _ _ _ h hn hk hI hl H locs lsA hP hS hL)
theorem xs_aload_n (X : xCtx p l e s m args below meth c D cI cJ cD b base n0 scr M cs) {i : Fin 4} {a : Nat} (ha : i.val = a) (hd : decode (mC M) pc = .ok (.aload_n i, 1)) (hK : ∀ ls st k n I L P, K Q ls st k n I L P → xAt p l e s m args below meth c D cI cJ cD b base n0 scr M Z (pc + 1) ls st k n I L P) (h : xgt ls a fun v => xpN [v] (fun _ => K Q ls (.null :: st) k n I L P) fun x _ => K Q ls (.ref x :: st) k n I L P) : xAt p l e s m args below meth c D cI cJ cD b base n0 scr M Z pc ls st k n I L P := by
  obtain ⟨v, hv, h⟩ := xgt_e h
  rcases xpN_e h with ⟨r, hx, h⟩ | ⟨x, r, hx, h⟩
  · cases hx
    intro hn hk hI hl H locs lsA hP hS hL
    exact lv_aload_nN X.1 X.2.1 hd ha (hL.2.2 _ _ hv) (hK _ _ _ _ _ _ _ h hn hk hI hl H locs lsA hP hS hL)
  · cases hx
    intro hn hk hI hl H locs lsA hP hS hL
    exact lv_aload_n X.1 X.2.1 hd ha (hL.2.2 _ _ hv) (hK _ _ _ _ _ _ _ h hn hk hI hl H locs lsA hP hS hL)
theorem xs_istore (X : xCtx p l e s m args below meth c D cI cJ cD b base n0 scr M cs) {i a : Nat} (ha : i = a) (hd : decode (mC M) pc = .ok (.istore i, 2)) (hK : ∀ ls st k n I L P, K Q ls st k n I L P → xAt p l e s m args below meth c D cI cJ cD b base n0 scr M Z (pc + 2) ls st k n I L P) (h : xpI st fun x st => xs1 (.int x) ls a fun ls => K Q ls st k n I L P) : xAt p l e s m args below meth c D cI cJ cD b base n0 scr M Z pc ls st k n I L P := by
  subst ha
  obtain ⟨x, r, rfl, h⟩ := xpI_e h
  obtain ⟨ls2, h, h1, h2, h4⟩ := xs1_e h
  intro hn hk hI hl H locs lsA hP hS hL
  exact lv_istore X.1 X.2.1 hd hL.has h2 rfl (fun lsB hB => hK _ _ _ _ _ _ _ h hn hk hI (h1.trans hl) H locs lsB hP hS (xLR.st1 h1 h4 hB))
theorem xs_istore_n (X : xCtx p l e s m args below meth c D cI cJ cD b base n0 scr M cs) {i : Fin 4} {a : Nat} (ha : i.val = a) (hd : decode (mC M) pc = .ok (.istore_n i, 1)) (hK : ∀ ls st k n I L P, K Q ls st k n I L P → xAt p l e s m args below meth c D cI cJ cD b base n0 scr M Z (pc + 1) ls st k n I L P) (h : xpI st fun x st => xs1 (.int x) ls a fun ls => K Q ls st k n I L P) : xAt p l e s m args below meth c D cI cJ cD b base n0 scr M Z pc ls st k n I L P := by
  obtain ⟨x, r, rfl, h⟩ := xpI_e h
  obtain ⟨ls2, h, h1, h2, h4⟩ := xs1_e h
  intro hn hk hI hl H locs lsA hP hS hL
  exact lv_istore_n X.1 X.2.1 hd ha hL.has h2 rfl (fun lsB hB => hK _ _ _ _ _ _ _ h hn hk hI (h1.trans hl) H locs lsB hP hS (xLR.st1 h1 h4 hB))
theorem xs_lstore (X : xCtx p l e s m args below meth c D cI cJ cD b base n0 scr M cs) {i a : Nat} (ha : i = a) (hd : decode (mC M) pc = .ok (.lstore i, 2)) (hK : ∀ ls st k n I L P, K Q ls st k n I L P → xAt p l e s m args below meth c D cI cJ cD b base n0 scr M Z (pc + 2) ls st k n I L P) (h : xpL st fun x st => xs2 (.long x) ls a fun ls => K Q ls st k n I L P) : xAt p l e s m args below meth c D cI cJ cD b base n0 scr M Z pc ls st k n I L P := by
  subst ha
  obtain ⟨x, r, rfl, h⟩ := xpL_e h
  obtain ⟨ls2, h, h1, h2, h4⟩ := xs2_e h
  intro hn hk hI hl H locs lsA hP hS hL
  exact lv_lstore X.1 X.2.1 hd hL.has h2 rfl (fun lsB hB => hK _ _ _ _ _ _ _ h hn hk hI (h1.trans hl) H locs lsB hP hS (xLR.st2 h1 h4 hB))
theorem xs_lstore_n (X : xCtx p l e s m args below meth c D cI cJ cD b base n0 scr M cs) {i : Fin 4} {a : Nat} (ha : i.val = a) (hd : decode (mC M) pc = .ok (.lstore_n i, 1)) (hK : ∀ ls st k n I L P, K Q ls st k n I L P → xAt p l e s m args below meth c D cI cJ cD b base n0 scr M Z (pc + 1) ls st k n I L P) (h : xpL st fun x st => xs2 (.long x) ls a fun ls => K Q ls st k n I L P) : xAt p l e s m args below meth c D cI cJ cD b base n0 scr M Z pc ls st k n I L P := by
  obtain ⟨x, r, rfl, h⟩ := xpL_e h
  obtain ⟨ls2, h, h1, h2, h4⟩ := xs2_e h
  intro hn hk hI hl H locs lsA hP hS hL
  exact lv_lstore_n X.1 X.2.1 hd ha hL.has h2 rfl (fun lsB hB => hK _ _ _ _ _ _ _ h hn hk hI (h1.trans hl) H locs lsB hP hS (xLR.st2 h1 h4 hB))
theorem xs_astore (X : xCtx p l e s m args below meth c D cI cJ cD b base n0 scr M cs) {i a : Nat} (ha : i = a) (hd : decode (mC M) pc = .ok (.astore i, 2)) (hK : ∀ ls st k n I L P, K Q ls st k n I L P → xAt p l e s m args below meth c D cI cJ cD b base n0 scr M Z (pc + 2) ls st k n I L P) (h : xpN st (fun st => xs1 .null ls a fun ls => K Q ls st k n I L P) fun x st => xs1 (.ref x) ls a fun ls => K Q ls st k n I L P) : xAt p l e s m args below meth c D cI cJ cD b base n0 scr M Z pc ls st k n I L P := by
  subst ha
  rcases xpN_e h with ⟨r, rfl, h⟩ | ⟨x, r, rfl, h⟩
  · obtain ⟨ls2, h, h1, h2, h4⟩ := xs1_e h
    intro hn hk hI hl H locs lsA hP hS hL
    exact lv_astoreN X.1 X.2.1 hd hL.has h2 rfl (fun lsB hB => hK _ _ _ _ _ _ _ h hn hk hI (h1.trans hl) H locs lsB hP hS (xLR.st1 h1 h4 hB))
  · obtain ⟨ls2, h, h1, h2, h4⟩ := xs1_e h
    intro hn hk hI hl H locs lsA hP hS hL
    exact lv_astore X.1 X.2.1 hd hL.has h2 rfl (fun lsB hB => hK _ _ _ _ _ _ _ h hn hk hI (h1.trans hl) H locs lsB hP hS (xLR.st1 h1 h4 hB))

theorem xs_astore_n (X : xCtx p l e s m args below meth c D cI cJ cD b base n0 scr M cs) {i : Fin 4} {a : Nat} (ha : i.val = a) (hd : decode (mC M) pc = .ok (.astore_n i, 1)) (hK : ∀ ls st k n I L P, K Q ls st k n I L P → xAt p l e s m args below meth c D cI cJ cD b base n0 scr M Z (pc + 1) ls st k n I L P) (h : xpN st (fun st => xs1 .null ls a fun ls => K Q ls st k n I L P) fun x st => xs1 (.ref x) ls a fun ls => K Q ls st k n I L P) : xAt p l e s m args below meth c D cI cJ cD b base n0 scr M Z pc ls st k n I L P := by
  rcases xpN_e h with ⟨r, rfl, h⟩ | ⟨x, r, rfl, h⟩
  · obtain ⟨ls2, h, h1, h2, h4⟩ := xs1_e h
    intro hn hk hI hl H locs lsA hP hS hL
    exact lv_astore_nN X.1 X.2.1 hd ha hL.has h2 rfl (fun lsB hB => hK _ _ _ _ _ _ _ h hn hk hI (h1.trans hl) H locs lsB hP hS (xLR.st1 h1 h4 hB))
  · obtain ⟨ls2, h, h1, h2, h4⟩ := xs1_e h
    intro hn hk hI hl H locs lsA hP hS hL
    exact lv_astore_n X.1 X.2.1 hd ha hL.has h2 rfl (fun lsB hB => hK _ _ _ _ _ _ _ h hn hk hI (h1.trans hl) H locs lsB hP hS (xLR.st1 h1 h4 hB))

theorem xs_iinc (X : xCtx p l e s m args below meth c D cI cJ cD b base n0 scr M cs) {i a b9 : Nat} {d : Int} (ha : i = a) (hb9 : d.natAbs = b9) (hd : decode (mC M) pc = .ok (.iinc i d, 3)) (hK : ∀ ls st k n I L P, K Q ls st k n I L P → xAt p l e s m args below meth c D cI cJ cD b base n0 scr M Z (pc + 3) ls st k n I L P) (h : xgt ls a fun v => xpI [v] fun x _ => (match d with
  | .ofNat _ => xs1 (.int (x + nI b9)) ls a fun ls => K Q ls st k n I L P
  | .negSucc _ => xs1 (.int (x - nI b9)) ls a fun ls => K Q ls st k n I L P)) : xAt p l e s m args below meth c D cI cJ cD b base n0 scr M Z pc ls st k n I L P := by
  subst ha
  obtain ⟨v, hv, h⟩ := xgt_e h
  obtain ⟨x, r, hx, h⟩ := xpI_e h
  cases hx
  have h : xs1 (.int (x + Int32.ofInt d)) ls i fun ls => K Q ls st k n I L P := by
    subst hb9
    cases d with
    | ofNat j =>
      rw [show Int32.ofInt (Int.ofNat j) = nI (Int.ofNat j).natAbs from Int32.ofInt_eq_ofNat]
      exact h
    | negSucc j =>
      have e1 : Int32.ofInt (Int.negSucc j) = -(nI (Int.negSucc j).natAbs) := xci_e (i := Int.negSucc j) (k := fun z => z = -(nI (Int.negSucc j).natAbs)) rfl rfl
      rw [e1, ← Int32.sub_eq_add_neg]
      exact h
  obtain ⟨ls2, h, h1, h2, h4⟩ := xs1_e h
  intro hn hk hI hl H locs lsA hP hS hL
  obtain ⟨q, hq⟩ := List.getElem?_of_mem (xas_mem (b := b) (base := base) hv)
  exact lv_iinc X.1 X.2.1 hd hL.has (k := q) hq rfl h2 rfl (fun lsB hB => hK _ _ _ _ _ _ _ h hn hk hI (h1.trans hl) H locs lsB hP hS (xLR.st1 h1 h4 hB))
theorem xs_goto (X : xCtx p l e s m args below meth c D cI cJ cD b base n0 scr M cs) {off : Int} {a : Nat} (ht : (pc : Int) + off = (a : Int)) (hd : decode (mC M) pc = .ok (.goto off, 3)) (hJ : ∀ ls st k n I L P, J a Q ls st k n I L P → xAt p l e s m args below meth c D cI cJ cD b base n0 scr M Z a ls st k n I L P) (h : J a Q ls st k n I L P) : xAt p l e s m args below meth c D cI cJ cD b base n0 scr M Z pc ls st k n I L P := by
  intro hn hk hI hl H locs lsA hP hS hL
  exact lv_goto X.1 X.2.1 hd ht (hJ _ _ _ _ _ _ _ h hn hk hI hl H locs lsA hP hS hL)
theorem xs_icmp (X : xCtx p l e s m args below meth c D cI cJ cD b base n0 scr M cs) {cnd : ClassFile.Cond} {off : Int} {a : Nat} (ht : (pc : Int) + off = (a : Int)) (hd : decode (mC M) pc = .ok (.if_icmp cnd off, 3)) (hK : ∀ ls st k n I L P, K Q ls st k n I L P → xAt p l e s m args below meth c D cI cJ cD b base n0 scr M Z (pc + 3) ls st k n I L P) (hJ : ∀ ls st k n I L P, J a Q ls st k n I L P → xAt p l e s m args below meth c D cI cJ cD b base n0 scr M Z a ls st k n I L P) (h : xpI st fun y st => xpI st fun x st => xcmp cnd x y (J a Q ls st k n I L P) (K Q ls st k n I L P)) : xAt p l e s m args below meth c D cI cJ cD b base n0 scr M Z pc ls st k n I L P := by
  obtain ⟨y, r1, e1, h1⟩ := xpI_e h
  subst e1
  obtain ⟨x, r2, e2, h2⟩ := xpI_e h1
  subst e2
  intro hn hk hI hl H locs lsA hP hS hL
  cases cnd
  case eq => exact lv_icmp_eq X.1 X.2.1 hd ht (fun q => hJ _ _ _ _ _ _ _ (h2.1 q) hn hk hI hl H locs lsA hP hS hL) (fun q => hK _ _ _ _ _ _ _ (h2.2 q) hn hk hI hl H locs lsA hP hS hL)
  case ne => exact lv_icmp_ne X.1 X.2.1 hd ht (fun q => hJ _ _ _ _ _ _ _ (h2.2 q) hn hk hI hl H locs lsA hP hS hL) (fun q => hK _ _ _ _ _ _ _ (h2.1 q) hn hk hI hl H locs lsA hP hS hL)
  case lt => exact lv_icmp_lt X.1 X.2.1 hd ht (fun q => hJ _ _ _ _ _ _ _ (h2.1 q) hn hk hI hl H locs lsA hP hS hL) (fun q => hK _ _ _ _ _ _ _ (h2.2 q) hn hk hI hl H locs lsA hP hS hL)
  case ge => exact lv_icmp_ge X.1 X.2.1 hd ht (fun q => hJ _ _ _ _ _ _ _ (h2.1 q) hn hk hI hl H locs lsA hP hS hL) (fun q => hK _ _ _ _ _ _ _ (h2.2 q) hn hk hI hl H locs lsA hP hS hL)
  case gt => exact lv_icmp_gt X.1 X.2.1 hd ht (fun q => hJ _ _ _ _ _ _ _ (h2.1 q) hn hk hI hl H locs lsA hP hS hL) (fun q => hK _ _ _ _ _ _ _ (h2.2 q) hn hk hI hl H locs lsA hP hS hL)
  case le => exact lv_icmp_le X.1 X.2.1 hd ht (fun q => hJ _ _ _ _ _ _ _ (h2.1 q) hn hk hI hl H locs lsA hP hS hL) (fun q => hK _ _ _ _ _ _ _ (h2.2 q) hn hk hI hl H locs lsA hP hS hL)

theorem xs_if (X : xCtx p l e s m args below meth c D cI cJ cD b base n0 scr M cs) {cnd : ClassFile.Cond} {off : Int} {a : Nat} (ht : (pc : Int) + off = (a : Int)) (hd : decode (mC M) pc = .ok (.ifCond cnd off, 3)) (hK : ∀ ls st k n I L P, K Q ls st k n I L P → xAt p l e s m args below meth c D cI cJ cD b base n0 scr M Z (pc + 3) ls st k n I L P) (hJ : ∀ ls st k n I L P, J a Q ls st k n I L P → xAt p l e s m args below meth c D cI cJ cD b base n0 scr M Z a ls st k n I L P) (h : xpI st fun x st => xcmp cnd x 0 (J a Q ls st k n I L P) (K Q ls st k n I L P)) : xAt p l e s m args below meth c D cI cJ cD b base n0 scr M Z pc ls st k n I L P := by
  obtain ⟨x, r, rfl, h⟩ := xpI_e h
  intro hn hk hI hl H locs lsA hP hS hL
  cases cnd
  case eq => exact lv_if_eq X.1 X.2.1 hd ht (fun q => hJ _ _ _ _ _ _ _ (h.1 q) hn hk hI hl H locs lsA hP hS hL) (fun q => hK _ _ _ _ _ _ _ (h.2 q) hn hk hI hl H locs lsA hP hS hL)
  case ne => exact lv_if_ne X.1 X.2.1 hd ht (fun q => hJ _ _ _ _ _ _ _ (h.2 q) hn hk hI hl H locs lsA hP hS hL) (fun q => hK _ _ _ _ _ _ _ (h.1 q) hn hk hI hl H locs lsA hP hS hL)
  case lt => exact lv_if_lt X.1 X.2.1 hd ht (fun q => hJ _ _ _ _ _ _ _ (h.1 q) hn hk hI hl H locs lsA hP hS hL) (fun q => hK _ _ _ _ _ _ _ (h.2 q) hn hk hI hl H locs lsA hP hS hL)
  case ge => exact lv_if_ge X.1 X.2.1 hd ht (fun q => hJ _ _ _ _ _ _ _ (h.1 q) hn hk hI hl H locs lsA hP hS hL) (fun q => hK _ _ _ _ _ _ _ (h.2 q) hn hk hI hl H locs lsA hP hS hL)
  case gt => exact lv_if_gt X.1 X.2.1 hd ht (fun q => hJ _ _ _ _ _ _ _ (h.1 q) hn hk hI hl H locs lsA hP hS hL) (fun q => hK _ _ _ _ _ _ _ (h.2 q) hn hk hI hl H locs lsA hP hS hL)
  case le => exact lv_if_le X.1 X.2.1 hd ht (fun q => hJ _ _ _ _ _ _ _ (h.1 q) hn hk hI hl H locs lsA hP hS hL) (fun q => hK _ _ _ _ _ _ _ (h.2 q) hn hk hI hl H locs lsA hP hS hL)

theorem xs_ifnull (X : xCtx p l e s m args below meth c D cI cJ cD b base n0 scr M cs) {off : Int} {a : Nat} (ht : (pc : Int) + off = (a : Int)) (hd : decode (mC M) pc = .ok (.ifnull off, 3)) (hK : ∀ ls st k n I L P, K Q ls st k n I L P → xAt p l e s m args below meth c D cI cJ cD b base n0 scr M Z (pc + 3) ls st k n I L P) (hJ : ∀ ls st k n I L P, J a Q ls st k n I L P → xAt p l e s m args below meth c D cI cJ cD b base n0 scr M Z a ls st k n I L P) (h : xpN st (fun st => J a Q ls st k n I L P) fun _ st => K Q ls st k n I L P) : xAt p l e s m args below meth c D cI cJ cD b base n0 scr M Z pc ls st k n I L P := by
  rcases xpN_e h with ⟨r, rfl, h⟩ | ⟨x, r, rfl, h⟩
  · intro hn hk hI hl H locs lsA hP hS hL
    exact lv_ifnullN X.1 X.2.1 hd ht (hJ _ _ _ _ _ _ _ h hn hk hI hl H locs lsA hP hS hL)
  · intro hn hk hI hl H locs lsA hP hS hL
    exact lv_ifnull X.1 X.2.1 hd (hK _ _ _ _ _ _ _ h hn hk hI hl H locs lsA hP hS hL)
theorem xs_ifnonnull (X : xCtx p l e s m args below meth c D cI cJ cD b base n0 scr M cs) {off : Int} {a : Nat} (ht : (pc : Int) + off = (a : Int)) (hd : decode (mC M) pc = .ok (.ifnonnull off, 3)) (hK : ∀ ls st k n I L P, K Q ls st k n I L P → xAt p l e s m args below meth c D cI cJ cD b base n0 scr M Z (pc + 3) ls st k n I L P) (hJ : ∀ ls st k n I L P, J a Q ls st k n I L P → xAt p l e s m args below meth c D cI cJ cD b base n0 scr M Z a ls st k n I L P) (h : xpN st (fun st => K Q ls st k n I L P) fun _ st => J a Q ls st k n I L P) : xAt p l e s m args below meth c D cI cJ cD b base n0 scr M Z pc ls st k n I L P := by
  rcases xpN_e h with ⟨r, rfl, h⟩ | ⟨x, r, rfl, h⟩
  · intro hn hk hI hl H locs lsA hP hS hL
    exact lv_ifnonnullN X.1 X.2.1 hd (hK _ _ _ _ _ _ _ h hn hk hI hl H locs lsA hP hS hL)
  · intro hn hk hI hl H locs lsA hP hS hL
    exact lv_ifnonnull X.1 X.2.1 hd ht (hJ _ _ _ _ _ _ _ h hn hk hI hl H locs lsA hP hS hL)
end STEPS
end
section
/-! the steps that read, write, make cells -/
section CELLS
variable {p : Program} {l : Launch} {e : Env} {s : State} {m : MethodId} {args : Array Value} {below : List Frame} {meth : Method} {c : Code} {D : va_G} {cI cJ cD : ClassId} {b base n0 : Nat} {scr : Nat → Int32} {M : xM} {cs : xCs} {Q : xQ} {Z : State → Prop}
variable {pc : Nat} {K : xK} {J : Nat → xK} {ls : xV} {st : List Value} {k n : Nat} {I : xI} {L : xL} {P : xR}
theorem xand {a b : Bool} (h : (a && b) = true) : a = true ∧ b = true := by simpa using h
theorem xar_e {r n t : Nat} {k : Nat → Prop} (h : xar (r + 1) n t k) : r < n ∧ Nat.beq (xSh (r + 1)).1 t = true ∧ k (xSh (r + 1)).2 := by
  unfold xar at h
  cases hr : Nat.blt r n with
  | true =>
    simp only [hr] at h
    split at h
    · rename_i heq
      exact ⟨xblt hr, heq, h⟩
    · exact absurd h (fun q => q)
  | false => simp only [hr] at h
theorem xal_e {r n : Nat} {k : Nat → Prop} (h : xal (r + 1) n k) : r < n ∧ 0 < (xSh (r + 1)).1 ∧ k (xSh (r + 1)).2 := by
  unfold xal at h
  cases hr : Nat.blt r n with
  | true =>
    simp only [hr] at h
    split at h
    · rename_i heq
      exact ⟨xblt hr, xblt heq, h⟩
    · exact absurd h (fun q => q)
  | false => simp only [hr] at h
theorem xmc {α : Type} {a : α} {b : α} {c : Prop} (h : xT true c) : c := h
/-- a class of vwCl: its words, its fields' types -/
theorem xcls {a : Nat} {q : vw_C} (h : vwCl[a]? = some q) : (∀ w ∈ u_ws q.1 q.2.1 q.2.2, w ∈ xG) ∧ q.2.2 = xNf a ∧ (∀ i, i < q.2.2 → ∀ j, j < q.2.2 → i ≠ j → (q.2.1 i).2.1 ≠ (q.2.1 j).2.1) ∧
    ∃ ty : Nat → FieldType, (∀ k, k < q.2.2 → parseFieldDescriptor (q.2.1 k).2.2.1 = some (ty k)) ∧ ∀ k, k < q.2.2 → (match xKd a k with
      | 0 => ty k = .int
      | 1 => ty k = .long
      | _ => (∃ C, ty k = .object C) ∨ ∃ t, ty k = .array t) := by
  match a, h with
  | 0, h => cases h; exact ⟨xin0, rfl, nmX0, tyX0, tyX0_ok, by intro k hk; match k, hk with | 0, _ => exact rfl | 1, _ => exact rfl⟩
  | 1, h => cases h; exact ⟨xin1, rfl, nmX1, tyX1, tyX1_ok, by intro k hk; match k, hk with | 0, _ => exact Or.inr ⟨_, rfl⟩ | 1, _ => exact rfl | 2, _ => exact rfl | 3, _ => exact rfl⟩
  | 2, h => cases h; exact ⟨xin2, rfl, nmX2, tyX2, tyX2_ok, by intro k hk; match k, hk with | 0, _ => exact Or.inr ⟨_, rfl⟩⟩
  | 3, h => cases h; exact ⟨xin3, rfl, nmX5, tyX5, tyX5_ok, by intro k hk; match k, hk with | 0, _ => exact rfl | 1, _ => exact rfl | 2, _ => exact rfl | 3, _ => exact rfl | 4, _ => exact rfl⟩
  | 4, h => cases h; exact ⟨xin4, rfl, nmX6, tyX6, tyX6_ok, by intro k hk; match k, hk with | 0, _ => exact Or.inr ⟨_, rfl⟩ | 1, _ => exact Or.inl ⟨_, rfl⟩ | 2, _ => exact rfl | 3, _ => exact rfl | 4, _ => exact rfl⟩
  | 5, h => cases h; exact ⟨xin5, rfl, nmX8, tyX8, tyX8_ok, by intro k hk; match k, hk with | 0, _ => exact rfl | 1, _ => exact Or.inr ⟨_, rfl⟩ | 2, _ => exact Or.inr ⟨_, rfl⟩⟩
  | 6, h => cases h; exact ⟨xin6, rfl, nmX9, tyX9, tyX9_ok, by intro k hk; match k, hk with | 0, _ => exact Or.inr ⟨_, rfl⟩⟩
  | 7, h => cases h; exact ⟨xin7, rfl, nmX10, tyX10, tyX10_ok, by
      intro k hk
      match k, hk with
      | 0, _ => exact Or.inl ⟨_, rfl⟩
      | 1, _ => exact Or.inl ⟨_, rfl⟩
      | 2, _ => exact Or.inl ⟨_, rfl⟩
      | 3, _ => exact Or.inl ⟨_, rfl⟩
      | 4, _ => exact Or.inl ⟨_, rfl⟩
      | 5, _ => exact Or.inr ⟨_, rfl⟩
      | 6, _ => exact Or.inl ⟨_, rfl⟩
      | 7, _ => exact Or.inl ⟨_, rfl⟩
      | 8, _ => exact Or.inl ⟨_, rfl⟩
      | 9, _ => exact Or.inr ⟨_, rfl⟩
      | 10, _ => exact rfl
      | 11, _ => exact rfl⟩
  | 8, h => cases h; exact ⟨xin8, rfl, nmX11, tyX11, tyX11_ok, by
      intro k hk
      have hk : k < 32 := hk
      have key : ∀ k, k < 32 → (xKd 8 k = 0 ∧ tyX11 k = .int) ∨ (xKd 8 k = 1 ∧ tyX11 k = .long) ∨ (xKd 8 k = 2 ∧ (tyX11 k = .array .int ∨ tyX11 k = .array .long)) := by decide +kernel
      rcases key k hk with ⟨h1, h2⟩ | ⟨h1, h2⟩ | ⟨h1, h2⟩
      · rw [h1]; exact h2
      · rw [h1]; exact h2
      · rw [h1]; exact Or.inr (h2.elim (fun q => ⟨_, q⟩) (fun q => ⟨_, q⟩))⟩
  | a + 9, h => simp [vwCl] at h
theorem xcl_some {a b9 : Nat} (h : b9 < xNf a) : vwCl[a]? = some (vwCl.getD a (RX0, TX0, 0)) := by
  match a, h with
  | 0, _ => rfl
  | 1, _ => rfl
  | 2, _ => rfl
  | 3, _ => rfl
  | 4, _ => rfl
  | 5, _ => rfl
  | 6, _ => rfl
  | 7, _ => rfl
  | 8, _ => rfl
  | a + 9, h => simp [xNf, xKdL] at h
theorem xent0 {r a : Nat} (h : (Nat.beq (xSh (r + 1)).1 0 && Nat.beq (xSh (r + 1)).2 a) = true) (b base : Nat) (cI cJ cD : ClassId) (I : xI) (L : xL) (P : xR) : xent b base cI cJ cD (r + 1) I L P = .inr (a, xfs b base a (r + 1) I L P) := by
  obtain ⟨h1, h2⟩ := xand h
  have h1 := xbeq h1
  have h2 := xbeq h2
  unfold xent
  rw [h1, h2]
  rfl
theorem xent1 {r : Nat} (h : Nat.beq (xSh (r + 1)).1 1 = true) (b base : Nat) (cI cJ cD : ClassId) (I : xI) (L : xL) (P : xR) : xent b base cI cJ cD (r + 1) I L P = .inl (cI, (xSh (r + 1)).2, .inl (I (r + 1))) := by
  unfold xent
  rw [xbeq h]
  rfl
theorem xent2 {r : Nat} (h : Nat.beq (xSh (r + 1)).1 2 = true) (b base : Nat) (cI cJ cD : ClassId) (I : xI) (L : xL) (P : xR) : xent b base cI cJ cD (r + 1) I L P = .inl (cJ, (xSh (r + 1)).2, .inr (.inl (L (r + 1)))) := by
  unfold xent
  rw [xbeq h]
  rfl
theorem xent3 {r : Nat} (h : Nat.beq (xSh (r + 1)).1 3 = true) (b base : Nat) (cI cJ cD : ClassId) (I : xI) (L : xL) (P : xR) : xent b base cI cJ cD (r + 1) I L P = .inl (cD, (xSh (r + 1)).2, .inr (.inr (.inr (.inr (fun j => xro b base (P (r + 1) j)))))) := by
  unfold xent
  rw [xbeq h]
  rfl
theorem xfs_at {b base a r j : Nat} (h : j < xNf a) (I : xI) (L : xL) (P : xR) : (xfs b base a r I L P)[j]? = some (xv b base (xfv a r j I L P)) := by
  simp [xfs, List.getElem?_map, List.getElem?_range h]
theorem xfs_len (b base a r : Nat) (I : xI) (L : xL) (P : xR) : (xfs b base a r I L P).length = xNf a := by simp [xfs]
theorem xfs_set {b base a r j : Nat} {v : Value} {I I' : xI} {L L' : xL} {P P' : xR} (hv : xv b base (xfv a r j I' L' P') = v) (ho : ∀ i, i ≠ j → i < xNf a → xfv a r i I' L' P' = xfv a r i I L P) : (xfs b base a r I L P).set j v = xfs b base a r I' L' P' := by
  apply List.ext_getElem?
  intro i
  by_cases hi : i < xNf a
  · rw [xfs_at hi]
    by_cases hij : i = j
    · subst hij
      rw [List.getElem?_set_self (by rw [xfs_len]; exact hi), hv]
    · rw [List.getElem?_set_ne (fun q => hij q.symm), xfs_at hi, ho i hij hi]
  · rw [List.getElem?_eq_none (by rw [List.length_set, xfs_len]; omega), List.getElem?_eq_none (by rw [xfs_len]; omega)]
theorem xup_s {α : Type} (I : Nat → Nat → α) (k j : Nat) (v : α) : xup I k j v k j = v := by simp [xup]
theorem xup_c {α : Type} (I : Nat → Nat → α) (k j : Nat) (v : α) {k' : Nat} (h : k' ≠ k) : xup I k j v k' = I k' := by simp [xup, h]
theorem xup_n {α : Type} (I : Nat → Nat → α) (k j : Nat) (v : α) {j' : Nat} (h : j' ≠ j) : xup I k j v k j' = I k j' := by simp [xup, h]
theorem xrw_s {α : Type} (I : Nat → Nat → α) (k : Nat) (f : Nat → α) : xrw I k f k = f := by simp [xrw]
theorem xrw_c {α : Type} (I : Nat → Nat → α) (k : Nat) (f : Nat → α) {k' : Nat} (h : k' ≠ k) : xrw I k f k' = I k' := by simp [xrw, h]
theorem xs_getfield (X : xCtx p l e s m args below meth c D cI cJ cD b base n0 scr M cs) {i a j c9 : Nat} (hj : j < xNf a) (hw : xGw (mY M).cls i a j c9) (hd : decode (mC M) pc = .ok (.getfield i, 3)) (hK : ∀ ls st k n I L P, K Q ls st k n I L P → xAt p l e s m args below meth c D cI cJ cD b base n0 scr M Z (pc + 3) ls st k n I L P)
    (h : xpR st fun r st => xT (xob r n a) (match xKd a j with
          | 0 => K Q ls (.int (I r j) :: st) k n I L P
          | 1 => K Q ls (.long (L r j) :: st) k n I L P
          | _ => (match P r j with
            | none => K Q ls (.null :: st) k n I L P
            | some q => K Q ls (.ref q :: st) k n I L P))) : xAt p l e s m args below meth c D cI cJ cD b base n0 scr M Z pc ls st k n I L P := by
  obtain ⟨r, st, e1, h⟩ := xpR_e h
  subst e1
  cases r with
  | zero => exact absurd h (fun q => q)
  | succ r =>
    obtain ⟨hc, h⟩ := xT_e h
    obtain ⟨hr, hc⟩ := xand hc
    have hr := xblt hr
    have h : K Q ls (xfv a (r + 1) j I L P :: st) k n I L P := by
      unfold xfv
      revert h
      generalize xKd a j = z
      intro h
      match z, h with
      | 0, h => exact h
      | 1, h => exact h
      | z + 2, h =>
        revert h
        show (match P (r + 1) j with
          | none => K Q ls (.null :: st) k n I L P
          | some q => K Q ls (.ref q :: st) k n I L P) → K Q ls (xrf (P (r + 1) j) :: st) k n I L P
        cases P (r + 1) j with
        | none => exact fun h => h
        | some q => exact fun h => h
    intro hn hk hI hl H locs lsA hP hS hL
    have hq := xcl_some hj
    obtain ⟨hu, hN, -, -⟩ := xcls hq
    have hat := xws_at (b := b) (base := base) (cI := cI) (cJ := cJ) (cD := cD) hr I L P
    rw [xent0 hc] at hat
    have go := hK _ _ _ _ _ _ _ h hn hk hI hl H locs lsA hP hS hL
    cases c9 with
    | zero => exact va_get X.1 X.2.1 X.2.2.2.2.1 hu X.2.2.2.1 X.2.2.2.2.2.1.1 hP r hat hq j (by rw [hN]; exact hj) (X.2.2.2.2.1 _ (show xFw (mY M).cls i a j 0 ∈ xG from hw)) (fun _ h9 => h9) (xfs_at hj I L P) hd go
    | succ c9 => exact va_getN X.1 X.2.1 X.2.2.2.2.1 hu X.2.2.2.1 X.2.2.2.2.2.1.1 hP r hat hq j (by rw [hN]; exact hj) (va_Nw.use (xNest_on _ (show xFw (mY M).cls i a j 1 ∈ xNest from hw)) (X.2.2.2.2.2.1.2.1 _ hw)) (fun _ h9 => h9) (xfs_at hj I L P) hd go
/-- a write into a field, once: the world behind it is that of the new maps -/
theorem xs_put (X : xCtx p l e s m args below meth c D cI cJ cD b base n0 scr M cs) {i a j r : Nat} {v : Value} {I' : xI} {L' : xL} {P' : xR} (hj : j < xNf a) (hw : xFw (mY M).cls i a j 0 ∈ xG ∧ (((vwCl.getD a (RX0, TX0, 0)).2.1 j).2.2.2 = true → (mY M).name = "<init>" ∧ ((vwCl.getD a (RX0, TX0, 0)).2.1 j).1 = (mY M).cls))
    (hd : decode (mC M) pc = .ok (.putfield i, 3)) (hK : ∀ ls st k n I L P, K Q ls st k n I L P → xAt p l e s m args below meth c D cI cJ cD b base n0 scr M Z (pc + 3) ls st k n I L P) (hr : r < n) (hc : (Nat.beq (xSh (r + 1)).1 0 && Nat.beq (xSh (r + 1)).2 a) = true) (hv : xv b base (xfv a (r + 1) j I' L' P') = xv b base v) (ho : ∀ q, q ≠ r + 1 → I' q = I q ∧ L' q = L q ∧ P' q = P q) (hf : ∀ i, i ≠ j → i < xNf a → xfv a (r + 1) i I' L' P' = xfv a (r + 1) i I L P)
    (hty : ∀ ty : FieldType, (match xKd a j with
      | 0 => ty = .int
      | 1 => ty = .long
      | _ => (∃ C, ty = .object C) ∨ ∃ t, ty = .array t) → narrow ty (xv b base v) = xv b base v ∧ fits ty (xv b base v) = true)
    (h : K Q ls st k n I' L' P') : xAt p l e s m args below meth c D cI cJ cD b base n0 scr M Z pc ls (v :: .ref (r + 1) :: st) k n I L P := by
  intro hn hk hI hl H locs lsA hP hS hL
  have hq := xcl_some hj
  obtain ⟨hu, hN, hnm, ty, hty1, hty2⟩ := xcls hq
  have hjN : j < (vwCl.getD a (RX0, TX0, 0)).2.2 := by rw [hN]; exact hj
  have hat := xws_at (b := b) (base := base) (cI := cI) (cJ := cJ) (cD := cD) hr I L P
  rw [xent0 hc] at hat
  obtain ⟨t1, t2⟩ := hty (ty j) (hty2 j hjN)
  have hset := xws_set (b := b) (base := base) (cI := cI) (cJ := cJ) (cD := cD) hr (I := I) (L := L) (P := P) (I' := I') (L' := L') (P' := P') (e := .inr (a, (xfs b base a (r + 1) I L P).set j (xv b base v))) (by rw [xent0 hc, xfs_set hv hf]) ho
  have hI' : I' 0 = scr := by rw [(ho 0 (by omega)).1]; exact hI
  by_cases hfin : ((vwCl.getD a (RX0, TX0, 0)).2.1 j).2.2.2 = true
  · obtain ⟨g1, g2⟩ := hw.2 hfin
    refine va_putF (A := xA base) (H0 := s.heap) X.1 X.2.1 X.2.2.2.2.1 hu ty hty1 hnm X.2.2.2.1 X.2.2.2.2.2.1.1 hP (xws_D b base cI cJ cD n I L P) hS r hat hq j hjN (X.2.2.2.2.1 _ hw.1) (fun _ h9 => h9) hfin (X.2.2.2.2.2.2.2.1 g1) g2 (hty1 j hjN) t1 t2 (by rw [xfs_len]; exact hj) hd (fun H1 locs1 hP1 hD1 hS1 => ?_)
    exact hK _ _ _ _ _ _ _ h hn hk hI' hl H1 locs1 lsA (hset ▸ hP1) hS1 hL
  · refine va_put (A := xA base) (H0 := s.heap) X.1 X.2.1 X.2.2.2.2.1 hu ty hty1 hnm X.2.2.2.1 X.2.2.2.2.2.1.1 hP (xws_D b base cI cJ cD n I L P) hS r hat hq j hjN (X.2.2.2.2.1 _ hw.1) (fun _ h9 => h9) (by simpa using hfin) (hty1 j hjN) t1 t2 (by rw [xfs_len]; exact hj) hd (fun H1 locs1 hP1 hD1 hS1 => ?_)
    exact hK _ _ _ _ _ _ _ h hn hk hI' hl H1 locs1 lsA (hset ▸ hP1) hS1 hL
theorem xs_putfield (X : xCtx p l e s m args below meth c D cI cJ cD b base n0 scr M cs) {i a j : Nat} (hj : j < xNf a) (hw : xFw (mY M).cls i a j 0 ∈ xG ∧ (((vwCl.getD a (RX0, TX0, 0)).2.1 j).2.2.2 = true → (mY M).name = "<init>" ∧ ((vwCl.getD a (RX0, TX0, 0)).2.1 j).1 = (mY M).cls))
    (hd : decode (mC M) pc = .ok (.putfield i, 3)) (hK : ∀ ls st k n I L P, K Q ls st k n I L P → xAt p l e s m args below meth c D cI cJ cD b base n0 scr M Z (pc + 3) ls st k n I L P) (h : match xKd a j with
        | 0 => xpI st fun x st => xpR st fun r st => xT (xob r n a) (K Q ls st k n (xup I r j x) L P)
        | 1 => xpL st fun x st => xpR st fun r st => xT (xob r n a) (K Q ls st k n I (xup L r j x) P)
        | _ => xpR st fun x st => xpR st fun r st => xT (xob r n a) (K Q ls st k n I L (xup P r j (some x)))) : xAt p l e s m args below meth c D cI cJ cD b base n0 scr M Z pc ls st k n I L P := by
  have hz : ∃ z, xKd a j = z := ⟨_, rfl⟩
  obtain ⟨z, hz⟩ := hz
  match z, hz with
  | 0, hz =>
    rw [hz] at h
    obtain ⟨x, r1, e1, h1⟩ := xpI_e h
    subst e1
    obtain ⟨r, r2, e2, h2⟩ := xpR_e h1
    subst e2
    cases r with
    | zero => exact absurd h2 (fun q => q)
    | succ r =>
      obtain ⟨hc, h2⟩ := xT_e h2
      obtain ⟨hr, hc⟩ := xand hc
      refine xs_put X hj hw hd hK (xblt hr) hc (v := .int x) (I' := xup I (r + 1) j x) (L' := L) (P' := P) ?_ (fun q hq => ⟨xup_c _ _ _ _ hq, rfl, rfl⟩) (fun q hq _ => ?_) (fun ty hty => ?_) h2
      · unfold xfv; rw [hz]; show Value.int _ = _; rw [xup_s]; rfl
      · unfold xfv; rw [xup_n _ _ _ _ hq]
      · rw [hz] at hty; subst hty; exact ⟨rfl, rfl⟩
  | 1, hz =>
    rw [hz] at h
    obtain ⟨x, r1, e1, h1⟩ := xpL_e h
    subst e1
    obtain ⟨r, r2, e2, h2⟩ := xpR_e h1
    subst e2
    cases r with
    | zero => exact absurd h2 (fun q => q)
    | succ r =>
      obtain ⟨hc, h2⟩ := xT_e h2
      obtain ⟨hr, hc⟩ := xand hc
      refine xs_put X hj hw hd hK (xblt hr) hc (v := .long x) (I' := I) (L' := xup L (r + 1) j x) (P' := P) ?_ (fun q hq => ⟨rfl, xup_c _ _ _ _ hq, rfl⟩) (fun q hq _ => ?_) (fun ty hty => ?_) h2
      · unfold xfv; rw [hz]; show Value.long _ = _; rw [xup_s]; rfl
      · unfold xfv; rw [xup_n _ _ _ _ hq]
      · rw [hz] at hty; subst hty; exact ⟨rfl, rfl⟩
  | z + 2, hz =>
    rw [hz] at h
    obtain ⟨x, r1, e1, h1⟩ := xpR_e h
    subst e1
    obtain ⟨r, r2, e2, h2⟩ := xpR_e h1
    subst e2
    cases r with
    | zero => exact absurd h2 (fun q => q)
    | succ r =>
      obtain ⟨hc, h2⟩ := xT_e h2
      obtain ⟨hr, hc⟩ := xand hc
      refine xs_put X hj hw hd hK (xblt hr) hc (v := .ref x) (I' := I) (L' := L) (P' := xup P (r + 1) j (some x)) ?_ (fun q hq => ⟨rfl, rfl, xup_c _ _ _ _ hq⟩) (fun q hq _ => ?_) (fun ty hty => ?_) h2
      · unfold xfv; rw [hz]; show xv b base (xrf _) = _; rw [xup_s]; rfl
      · unfold xfv; rw [xup_n _ _ _ _ hq]
      · rw [hz] at hty
        rcases hty with ⟨C, rfl⟩ | ⟨t, rfl⟩ <;> exact ⟨rfl, rfl⟩
theorem xs_alen (X : xCtx p l e s m args below meth c D cI cJ cD b base n0 scr M cs) (hd : decode (mC M) pc = .ok (.arraylength, 1)) (hK : ∀ ls st k n I L P, K Q ls st k n I L P → xAt p l e s m args below meth c D cI cJ cD b base n0 scr M Z (pc + 1) ls st k n I L P) (h : xpR st fun r st => (match r with
        | 0 => xT (Nat.beq (mK M) 9) (K Q ls (.int (I 0 0) :: st) k n I L P)
        | _ + 1 => xal r n fun z => K Q ls (.int (nI z) :: st) k n I L P)) : xAt p l e s m args below meth c D cI cJ cD b base n0 scr M Z pc ls st k n I L P := by
  obtain ⟨r, r1, e1, h2⟩ := xpR_e h
  subst e1
  cases r with
  | zero =>
    obtain ⟨hc, h3⟩ := xT_e h2
    intro hn hk hI hl H locs lsA hP hS hL
    obtain ⟨len, xs, g1, g2, g3, g4, g5, g6⟩ := X.2.2.2.2.2.2.2.2.2 (xbeq hc)
    have go := hK _ _ _ _ _ _ _ h3 hn hk hI hl H locs lsA hP hS hL
    rw [hI, g4] at go
    exact va_slen X.1 X.2.1 g1 g2 (Nat.not_le.mpr g3) hS hd go
  | succ r =>
    obtain ⟨hr, hc, h3⟩ := xal_e h2
    intro hn hk hI hl H locs lsA hP hS hL
    have go := hK _ _ _ _ _ _ _ h3 hn hk hI hl H locs lsA hP hS hL
    have hat := xws_at (b := b) (base := base) (cI := cI) (cJ := cJ) (cD := cD) hr I L P
    have hKs := X.2.2.2.2.2.1.1
    unfold xent at hat
    revert hat
    generalize hz : (xSh (r + 1)).1 = z at hc ⊢
    intro hat
    match z, hc, hat with
    | 1, _, hat => exact va_alen X.1 X.2.1 hKs hP r 0 hat rfl rfl hd go
    | 2, _, hat => exact va_alen X.1 X.2.1 hKs hP r 1 hat rfl rfl hd go
    | z + 3, _, hat => exact va_alen X.1 X.2.1 hKs hP r 2 hat rfl rfl hd go
theorem xs_iald (X : xCtx p l e s m args below meth c D cI cJ cD b base n0 scr M cs) (hd : decode (mC M) pc = .ok (.iaload, 1)) (hK : ∀ ls st k n I L P, K Q ls st k n I L P → xAt p l e s m args below meth c D cI cJ cD b base n0 scr M Z (pc + 1) ls st k n I L P) (h : xpI st fun i st => xpR st fun r st => (match r with
        | 0 => xT (Nat.beq (mK M) 9) (vp_in i (I 0 0).toNatClampNeg ∧ K Q ls (.int (I 0 (i.toNatClampNeg + 1)) :: st) k n I L P)
        | _ + 1 => xar r n 1 fun z => vp_in i z ∧ K Q ls (.int (I r i.toNatClampNeg) :: st) k n I L P)) : xAt p l e s m args below meth c D cI cJ cD b base n0 scr M Z pc ls st k n I L P := by
  obtain ⟨i, r1, e1, h1⟩ := xpI_e h
  subst e1
  obtain ⟨r, r2, e2, h2⟩ := xpR_e h1
  subst e2
  cases r with
  | zero =>
    obtain ⟨hc, hi, h2⟩ := xT_e h2
    intro hn hk hI hl H locs lsA hP hS hL
    obtain ⟨len, xs, g1, g2, g3, g4, g5, g6⟩ := X.2.2.2.2.2.2.2.2.2 (xbeq hc)
    have go := hK _ _ _ _ _ _ _ h2 hn hk hI hl H locs lsA hP hS hL
    rw [hI, g6] at go
    rw [hI, g4, nI_clamp (by omega)] at hi
    exact va_sld X.1 X.2.1 g1 g2 (Nat.not_le.mpr g3) hS hi hd go
  | succ r =>
    obtain ⟨hr, hc, hi, h2⟩ := xar_e h2
    intro hn hk hI hl H locs lsA hP hS hL
    have go := hK _ _ _ _ _ _ _ h2 hn hk hI hl H locs lsA hP hS hL
    have hat := xws_at (b := b) (base := base) (cI := cI) (cJ := cJ) (cD := cD) hr I L P
    rw [xent1 hc] at hat
    exact va_iald X.1 X.2.1 X.2.2.2.2.2.1.1 hP r 0 hat rfl hi hd go
theorem xs_lald (X : xCtx p l e s m args below meth c D cI cJ cD b base n0 scr M cs) (hd : decode (mC M) pc = .ok (.laload, 1)) (hK : ∀ ls st k n I L P, K Q ls st k n I L P → xAt p l e s m args below meth c D cI cJ cD b base n0 scr M Z (pc + 1) ls st k n I L P) (h : xpI st fun i st => xpR st fun r st => xar r n 2 fun z => vp_in i z ∧ K Q ls (.long (L r i.toNatClampNeg) :: st) k n I L P) : xAt p l e s m args below meth c D cI cJ cD b base n0 scr M Z pc ls st k n I L P := by
  obtain ⟨i, r1, e1, h1⟩ := xpI_e h
  subst e1
  obtain ⟨r, r2, e2, h2⟩ := xpR_e h1
  subst e2
  cases r with
  | zero => exact absurd h2 (fun q => q)
  | succ r =>
    obtain ⟨hr, hc, hi, h2⟩ := xar_e h2
    intro hn hk hI hl H locs lsA hP hS hL
    have go := hK _ _ _ _ _ _ _ h2 hn hk hI hl H locs lsA hP hS hL
    have hat := xws_at (b := b) (base := base) (cI := cI) (cJ := cJ) (cD := cD) hr I L P
    rw [xent2 hc] at hat
    exact va_lald X.1 X.2.1 X.2.2.2.2.2.1.1 hP r 1 hat rfl hi hd go
theorem xs_aald (X : xCtx p l e s m args below meth c D cI cJ cD b base n0 scr M cs) (hd : decode (mC M) pc = .ok (.aaload, 1)) (hK : ∀ ls st k n I L P, K Q ls st k n I L P → xAt p l e s m args below meth c D cI cJ cD b base n0 scr M Z (pc + 1) ls st k n I L P) (h : xpI st fun i st => xpR st fun r st => xar r n 3 fun z => vp_in i z ∧ (P r i.toNatClampNeg = none → K Q ls (.null :: st) k n I L P) ∧ ∀ q : Nat, P r i.toNatClampNeg = some q → K Q ls (.ref q :: st) k n I L P) : xAt p l e s m args below meth c D cI cJ cD b base n0 scr M Z pc ls st k n I L P := by
  obtain ⟨i, r1, e1, h1⟩ := xpI_e h
  subst e1
  obtain ⟨r, r2, e2, h2⟩ := xpR_e h1
  subst e2
  cases r with
  | zero => exact absurd h2 (fun q => q)
  | succ r =>
    obtain ⟨hr, hc, hi, h2, h3⟩ := xar_e h2
    intro hn hk hI hl H locs lsA hP hS hL
    have h4 : K Q ls (xrf (P (r + 1) i.toNatClampNeg) :: r2) k n I L P := by
      cases hq : P (r + 1) i.toNatClampNeg with
      | none => exact h2 hq
      | some q => exact h3 q hq
    have go := hK _ _ _ _ _ _ _ h4 hn hk hI hl H locs lsA hP hS hL
    have hat := xws_at (b := b) (base := base) (cI := cI) (cJ := cJ) (cD := cD) hr I L P
    rw [xent3 hc] at hat
    rw [List.map_cons, xrf_v] at go
    exact va_aldq X.1 X.2.1 X.2.2.2.2.2.1.1 hP r 2 hat rfl hi hd go
theorem xs_iast (X : xCtx p l e s m args below meth c D cI cJ cD b base n0 scr M cs) (hd : decode (mC M) pc = .ok (.iastore, 1)) (hK : ∀ ls st k n I L P, K Q ls st k n I L P → xAt p l e s m args below meth c D cI cJ cD b base n0 scr M Z (pc + 1) ls st k n I L P) (h : xpI st fun x st => xpI st fun i st => xpR st fun r st => xar r n 1 fun z => vp_in i z ∧ K Q ls st k n (xup I r i.toNatClampNeg x) L P) : xAt p l e s m args below meth c D cI cJ cD b base n0 scr M Z pc ls st k n I L P := by
  obtain ⟨x, r0, e0, h0⟩ := xpI_e h
  subst e0
  obtain ⟨i, r1, e1, h1⟩ := xpI_e h0
  subst e1
  obtain ⟨r, r2, e2, h2⟩ := xpR_e h1
  subst e2
  cases r with
  | zero => exact absurd h2 (fun q => q)
  | succ r =>
    obtain ⟨hr, hc, hi, h2⟩ := xar_e h2
    intro hn hk hI hl H locs lsA hP hS hL
    have hat := xws_at (b := b) (base := base) (cI := cI) (cJ := cJ) (cD := cD) hr I L P
    rw [xent1 hc] at hat
    have hset := xws_set (b := b) (base := base) (cI := cI) (cJ := cJ) (cD := cD) hr (I := I) (L := L) (P := P) (I' := xup I (r + 1) i.toNatClampNeg x) (L' := L) (P' := P) (e := .inl (cI, (xSh (r + 1)).2, .inl (upd (I (r + 1)) i.toNatClampNeg x))) (by rw [xent1 hc]; congr 4; funext j; by_cases hj : j = i.toNatClampNeg <;> simp [xup, upd, hj]) (fun q hq => ⟨xup_c _ _ _ _ hq, rfl, rfl⟩)
    refine va_iast (A := xA base) (H0 := s.heap) X.1 X.2.1 X.2.2.2.2.2.1.1 hP (xws_D b base cI cJ cD n I L P) hS r 0 hat rfl hi hd (fun H1 locs1 hP1 hD1 hS1 => ?_)
    exact hK _ _ _ _ _ _ _ h2 hn hk (by rw [xup_c _ _ _ _ (by omega)]; exact hI) hl H1 locs1 lsA (hset ▸ hP1) hS1 hL
theorem xs_last (X : xCtx p l e s m args below meth c D cI cJ cD b base n0 scr M cs) (hd : decode (mC M) pc = .ok (.lastore, 1)) (hK : ∀ ls st k n I L P, K Q ls st k n I L P → xAt p l e s m args below meth c D cI cJ cD b base n0 scr M Z (pc + 1) ls st k n I L P) (h : xpL st fun x st => xpI st fun i st => xpR st fun r st => xar r n 2 fun z => vp_in i z ∧ K Q ls st k n I (xup L r i.toNatClampNeg x) P) : xAt p l e s m args below meth c D cI cJ cD b base n0 scr M Z pc ls st k n I L P := by
  obtain ⟨x, r0, e0, h0⟩ := xpL_e h
  subst e0
  obtain ⟨i, r1, e1, h1⟩ := xpI_e h0
  subst e1
  obtain ⟨r, r2, e2, h2⟩ := xpR_e h1
  subst e2
  cases r with
  | zero => exact absurd h2 (fun q => q)
  | succ r =>
    obtain ⟨hr, hc, hi, h2⟩ := xar_e h2
    intro hn hk hI hl H locs lsA hP hS hL
    have hat := xws_at (b := b) (base := base) (cI := cI) (cJ := cJ) (cD := cD) hr I L P
    rw [xent2 hc] at hat
    have hset := xws_set (b := b) (base := base) (cI := cI) (cJ := cJ) (cD := cD) hr (I := I) (L := L) (P := P) (I' := I) (L' := xup L (r + 1) i.toNatClampNeg x) (P' := P) (e := .inl (cJ, (xSh (r + 1)).2, .inr (.inl (vp_updL (L (r + 1)) i.toNatClampNeg x)))) (by rw [xent2 hc]; congr 5; funext j; by_cases hj : j = i.toNatClampNeg <;> simp [xup, vp_updL, hj]) (fun q hq => ⟨rfl, xup_c _ _ _ _ hq, rfl⟩)
    refine va_last (A := xA base) (H0 := s.heap) X.1 X.2.1 X.2.2.2.2.2.1.1 hP (xws_D b base cI cJ cD n I L P) hS r 1 hat rfl hi hd (fun H1 locs1 hP1 hD1 hS1 => ?_)
    exact hK _ _ _ _ _ _ _ h2 hn hk hI hl H1 locs1 lsA (hset ▸ hP1) hS1 hL
theorem xs_aast (X : xCtx p l e s m args below meth c D cI cJ cD b base n0 scr M cs) (hd : decode (mC M) pc = .ok (.aastore, 1)) (hK : ∀ ls st k n I L P, K Q ls st k n I L P → xAt p l e s m args below meth c D cI cJ cD b base n0 scr M Z (pc + 1) ls st k n I L P) (h : xpR st fun x st => xpI st fun i st => xpR st fun r st => (match r, x with
        | r + 1, x + 1 => xT ((Nat.blt r n && Nat.beq (xSh (r + 1)).1 3) && (Nat.blt x n && (Nat.beq (xSh (x + 1)).1 0 && Nat.beq (xSh (x + 1)).2 1))) (vp_in i (xSh (r + 1)).2 ∧ K Q ls st k n I L (xup P (r + 1) i.toNatClampNeg (some (x + 1))))
        | _, _ => False)) : xAt p l e s m args below meth c D cI cJ cD b base n0 scr M Z pc ls st k n I L P := by
  obtain ⟨x, r0, e0, h0⟩ := xpR_e h
  subst e0
  obtain ⟨i, r1, e1, h1⟩ := xpI_e h0
  subst e1
  obtain ⟨r, r2, e2, h2⟩ := xpR_e h1
  subst e2
  cases r with
  | zero => exact absurd h2 (fun q => q)
  | succ r =>
    cases x with
    | zero => exact absurd h2 (fun q => q)
    | succ x =>
      obtain ⟨hc, hi, h2⟩ := xT_e h2
      obtain ⟨hc, hcx⟩ := xand hc
      obtain ⟨hr, hc⟩ := xand hc
      obtain ⟨hx, hcx⟩ := xand hcx
      intro hn hk hI hl H locs lsA hP hS hL
      have hat := xws_at (b := b) (base := base) (cI := cI) (cJ := cJ) (cD := cD) (xblt hr) I L P
      rw [xent3 hc] at hat
      have hatx := xws_at (b := b) (base := base) (cI := cI) (cJ := cJ) (cD := cD) (xblt hx) I L P
      rw [xent0 hcx] at hatx
      have hset := xws_set (b := b) (base := base) (cI := cI) (cJ := cJ) (cD := cD) (xblt hr) (I := I) (L := L) (P := P) (I' := I) (L' := L) (P' := xup P (r + 1) i.toNatClampNeg (some (x + 1))) (e := .inl (cD, (xSh (r + 1)).2, .inr (.inr (.inr (.inr (va_up (fun j => xro b base (P (r + 1) j)) i.toNatClampNeg (some (base + x)))))))) (by rw [xent3 hc]; congr 7; funext j; by_cases hj : j = i.toNatClampNeg <;> simp [xup, va_up, hj, xro, xad]) (fun q hq => ⟨rfl, rfl, xup_c _ _ _ _ hq⟩)
      refine va_astq (A := xA base) (H0 := s.heap) (r := (RX1, TX1, 4)) X.1 X.2.1 X.2.2.2.2.2.1.1 hP (xws_D b base cI cJ cD n I L P) hS r 2 x 1 hat rfl hatx rfl hi hd (fun H1 locs1 hP1 hD1 hS1 => ?_)
      exact hK _ _ _ _ _ _ _ h2 hn hk hI hl H1 locs1 lsA (hset ▸ hP1) hS1 hL
end CELLS
end
section
/-! cells made; calls; ends -/
section MAKE
variable {p : Program} {l : Launch} {e : Env} {s : State} {m : MethodId} {args : Array Value} {below : List Frame} {meth : Method} {c : Code} {D : va_G} {cI cJ cD : ClassId} {b base n0 : Nat} {scr : Nat → Int32} {M : xM} {cs : xCs} {Q : xQ} {Z : State → Prop}
variable {pc : Nat} {K : xK} {J : Nat → xK} {ls : xV} {st : List Value} {k n : Nat} {I : xI} {L : xL} {P : xR}
theorem xS_le : ∀ {a d : Nat}, a ≤ d → xS a ≤ xS d := by
  intro a d h
  induction d with
  | zero => rw [Nat.le_zero.mp h]; exact Nat.le_refl _
  | succ d ih =>
    by_cases q : a ≤ d
    · exact Nat.le_trans (ih q) (by show _ ≤ xS d + _; omega)
    · rw [show a = d + 1 by omega]; exact Nat.le_refl _
/-- how large the heap is, where the walk stands -/
theorem xsz {H : Heap} {locs : List Loc} {cells slots : Nat} {R : Room} {g : JFrame} (h : H.size ≤ s.heap.size + cells → W p l e R s m args below meth c H locs cells slots Z g) : W p l e R s m args below meth c H locs cells slots Z g := fun T hT Y => h (hT ▸ Y.heapSize) T hT Y
/-- the address of a cell that has just been made -/
theorem xaddr {H1 : Heap} {n q : Nat} {E E' : va_E} (hP1 : va_P D vwCl (xws b base cI cJ cD n I L P ++ [(q, E)]) H1) (hD1 : va_D (xA base) (xws b base cI cJ cD n I L P ++ [(q, E)])) (hz : H1.size ≤ base + n + 1) : q = base + n := by
  have h1 := (hP1 n (q, E) (by rw [List.getElem?_append_right (by rw [xws_len]; exact Nat.le_refl _), xws_len, Nat.sub_self]; rfl)).lt
  have h2 : base ≤ q := hD1.2 n (q, E) (by rw [List.getElem?_append_right (by rw [xws_len]; exact Nat.le_refl _), xws_len, Nat.sub_self]; rfl)
  have h1 : q < H1.size := h1
  by_cases h3 : q < base + n
  · have hk : q - base < n := by omega
    have e1 : (xws b base cI cJ cD n I L P ++ [(q, E)])[q - base]? = some (base + (q - base), xent b base cI cJ cD (q - base + 1) I L P) := by
      rw [List.getElem?_append_left (by rw [xws_len]; exact hk), xws_at hk]
    have := hD1.1 (q - base) n _ (q, E) e1 (by rw [List.getElem?_append_right (by rw [xws_len]; exact Nat.le_refl _), xws_len, Nat.sub_self]; rfl) (by show base + (q - base) = q; omega)
    omega
  · omega
theorem xws_keep {n : Nat} {I' : xI} {L' : xL} {P' : xR} (ho : ∀ j, j ≤ n → I' j = I j ∧ L' j = L j ∧ P' j = P j) : xws b base cI cJ cD n I' L' P' = xws b base cI cJ cD n I L P := by
  apply List.ext_getElem?
  intro j
  by_cases hj : j < n
  · rw [xws_at hj, xws_at hj]
    obtain ⟨h1, h2, h3⟩ := ho (j + 1) (by omega)
    simp only [xent, xfs, xfv, h1, h2, h3]
  · rw [List.getElem?_eq_none (by rw [xws_len]; omega), List.getElem?_eq_none (by rw [xws_len]; omega)]
theorem xcl9 {a : Nat} (h : a < 9) : vwCl[a]? = some (vwCl.getD a (RX0, TX0, 0)) := by
  match a, h with
  | 0, _ => rfl
  | 1, _ => rfl
  | 2, _ => rfl
  | 3, _ => rfl
  | 4, _ => rfl
  | 5, _ => rfl
  | 6, _ => rfl
  | 7, _ => rfl
  | 8, _ => rfl
theorem xs_new (X : xCtx p l e s m args below meth c D cI cJ cD b base n0 scr M cs) {i a : Nat} (hw : Cond.classLink (mY M).cls i (vwCl.getD a (RX0, TX0, 0)).1 ∈ xG ∧ Cond.instantiable (vwCl.getD a (RX0, TX0, 0)).1 (vwCl.getD a (RX0, TX0, 0)).2.2 ∈ xG ∧ Cond.initialized (vwCl.getD a (RX0, TX0, 0)).1 ∈ xG ∧ a < 9) (hd : decode (mC M) pc = .ok (.new i, 3)) (hK : ∀ ls st k n I L P, K Q ls st k n I L P → xAt p l e s m args below meth c D cI cJ cD b base n0 scr M Z (pc + 3) ls st k n I L P)
    (h : xT (Nat.blt k (mN M) && (Nat.beq (xSh (n + 1)).1 0 && Nat.beq (xSh (n + 1)).2 a)) (K Q ls (.ref (n + 1) :: st) (k + 1) (n + 1) (xrw I (n + 1) fun _ => 0) (xrw L (n + 1) fun _ => 0) (xrw P (n + 1) fun _ => none))) : xAt p l e s m args below meth c D cI cJ cD b base n0 scr M Z pc ls st k n I L P := by
  obtain ⟨hc, h⟩ := xT_e h
  obtain ⟨hkm, hc⟩ := xand hc
  have hkm := xblt hkm
  intro hn hk hI hl H locs lsA hP hS hL
  refine xsz fun hz => ?_
  have hsz : s.heap.size = base + n0 := X.2.2.2.2.2.2.1
  have hq := xcl9 hw.2.2.2
  obtain ⟨hu, hN, hnm, ty, hty1, hty2⟩ := xcls hq
  have hsl : xS (n + 1) = xS n + (vwCl.getD a (RX0, TX0, 0)).2.2 := by
    show xS n + xSl (n + 1) = _
    unfold xSl
    rw [xbeq (xand hc).1, xbeq (xand hc).2, hN]
    rfl
  have hn0 : xS n0 ≤ xS n := xS_le (by omega)
  have hroom : xS (n + 1) ≤ xS (n0 + mN M) := xS_le (by omega)
  refine va_new (A := xA base) (H0 := s.heap) (ci := a) (fs := xfs b base a (n + 1) (xrw I (n + 1) fun _ => 0) (xrw L (n + 1) fun _ => 0) (xrw P (n + 1) fun _ => none)) X.1 X.2.1 X.2.2.2.2.1 hu ty hty1 X.2.2.2.1 (X.2.2.2.2.1 _ hw.1) (X.2.2.2.2.1 _ hw.2.1) (X.2.2.2.2.1 _ hw.2.2.1) X.2.2.2.2.2.1.1 hP (xws_D b base cI cJ cD n I L P) hS (fun q hq => by show base ≤ q; omega) hq (fun j hj => ?_) (by show k + 1 ≤ mN M; omega) (by show xS n - xS n0 + _ ≤ xS (n0 + mN M) - xS n0; omega) hd (fun q H1 hP1 hD1 hS1 => ?_)
  · have hjx : j < xNf a := by rw [← hN]; exact hj
    have hv := hty2 j hj
    unfold vp_V
    rw [List.getD_eq_getElem?_getD, xfs_at hjx]
    unfold xfv
    revert hv
    generalize xKd a j = z
    intro hv
    match z, hv with
    | 0, hv => rw [hv]; simp [xrw, xv, defaultValue]
    | 1, hv => rw [hv]; simp [xrw, xv, defaultValue]
    | z + 2, hv => rcases hv with ⟨C, hv⟩ | ⟨t, hv⟩ <;> (rw [hv]; simp [xrw, xv, xrf, defaultValue])
  · refine xsz fun hz1 => ?_
    have hqa := xaddr (E' := .inr (a, [])) hP1 hD1 (by omega)
    subst hqa
    have e1 : xws b base cI cJ cD n I L P ++ [(base + n, .inr (a, xfs b base a (n + 1) (xrw I (n + 1) fun _ => 0) (xrw L (n + 1) fun _ => 0) (xrw P (n + 1) fun _ => none)))] = xws b base cI cJ cD (n + 1) (xrw I (n + 1) fun _ => 0) (xrw L (n + 1) fun _ => 0) (xrw P (n + 1) fun _ => none) := by
      rw [xws_succ, xent0 hc, xws_keep (n := n) (fun j hj => ⟨xrw_c _ _ _ (by omega), xrw_c _ _ _ (by omega), xrw_c _ _ _ (by omega)⟩)]
    have go := hK _ _ _ _ _ _ _ h (by omega) (by omega) (by rw [xrw_c _ _ _ (by omega)]; exact hI) hl H1 locs lsA (e1 ▸ hP1) hS1 hL
    rw [show xS (n + 1) - xS n0 = xS n - xS n0 + (vwCl.getD a (RX0, TX0, 0)).2.2 by omega] at go
    exact go
theorem xs_newa (X : xCtx p l e s m args below meth c D cI cJ cD b base n0 scr M cs) {t : ArrayType} {c9 : Nat} (ht : xNt t c9 = true) (hw : xNw c9) (hd : decode (mC M) pc = .ok (.newarray t, 2)) (hK : ∀ ls st k n I L P, K Q ls st k n I L P → xAt p l e s m args below meth c D cI cJ cD b base n0 scr M Z (pc + 2) ls st k n I L P)
    (h : xpI st fun v st => xT (Nat.blt k (mN M) && (Nat.beq (xSh (n + 1)).1 c9 && Nat.blt (xSh (n + 1)).2 60000)) (v = nI (xSh (n + 1)).2 ∧ K Q ls (.ref (n + 1) :: st) (k + 1) (n + 1) (xrw I (n + 1) fun _ => 0) (xrw L (n + 1) fun _ => 0) P)) : xAt p l e s m args below meth c D cI cJ cD b base n0 scr M Z pc ls st k n I L P := by
  obtain ⟨v, r1, e1, h1⟩ := xpI_e h
  subst e1
  obtain ⟨hc, hv, h2⟩ := xT_e h1
  subst hv
  obtain ⟨hkm, hc⟩ := xand hc
  obtain ⟨hc, hb⟩ := xand hc
  have hkm := xblt hkm
  have hb := xblt hb
  intro hn hk hI hl H locs lsA hP hS hL
  refine xsz fun hz => ?_
  have hsz : s.heap.size = base + n0 := X.2.2.2.2.2.2.1
  have hKs := X.2.2.2.2.2.1.1
  have hn0 : xS n0 ≤ xS n := xS_le (by omega)
  have hroom : xS (n + 1) ≤ xS (n0 + mN M) := xS_le (by omega)
  have hz0 : ¬ (nI (xSh (n + 1)).2) < 0 := nI_pos (by omega)
  have hz1 : (nI (xSh (n + 1)).2).toNatClampNeg = (xSh (n + 1)).2 := nI_clamp (by omega)
  have e2 := xws_succ b base cI cJ cD n (xrw I (n + 1) fun _ => 0) (xrw L (n + 1) fun _ => 0) P
  rw [xws_keep (n := n) (I := I) (L := L) (P := P) (fun j hj => ⟨xrw_c _ _ _ (by omega), xrw_c _ _ _ (by omega), rfl⟩)] at e2
  match t, c9, ht with
  | .int, 1, _ =>
    have hsl : xS (n + 1) = xS n + (xSh (n + 1)).2 := by
      show xS n + xSl (n + 1) = _
      unfold xSl
      rw [xbeq hc]
      rfl
    rw [xent1 hc, xrw_s] at e2
    refine va_newa (A := xA base) (H0 := s.heap) (atype := .int) (ty := .int) (a0 := ((xSh (n + 1)).2, .inl (fun _ => 0))) X.1 X.2.1 (X.2.2.2.2.1 _ (show Cond.arrayClass .int ∈ xG from hw)) rfl hKs hP (xws_D b base cI cJ cD n I L P) hS (fun q hq => by show base ≤ q; omega) (fun cA => rfl) hz0 hz1 (by show _ * 4 ≤ _; omega) (by show k + 1 ≤ mN M; omega) (by show xS n - xS n0 + _ ≤ xS (n0 + mN M) - xS n0; omega) hd (fun q cA H1 hK1 hP1 hD1 hS1 => ?_)
    refine xsz fun hz2 => ?_
    have hqa := xaddr (E' := .inr (0, [])) hP1 hD1 (by omega)
    subst hqa
    have hA : cA = cI := by
      have q1 : s.vm.findClass ("[" ++ FieldType.int.toString) = some cA := (hK1.2 3 (cA, .int) rfl).2
      have q2 : s.vm.findClass ("[" ++ FieldType.int.toString) = some cI := (hKs.2 0 (cI, .int) rfl).2
      exact Option.some.inj (q1.symm.trans q2)
    subst hA
    have go := hK _ _ _ _ _ _ _ h2 (by omega) (by omega) (by rw [xrw_c _ _ _ (by omega)]; exact hI) hl H1 locs lsA (e2 ▸ hP1) hS1 hL
    rw [show xS (n + 1) - xS n0 = xS n - xS n0 + (xSh (n + 1)).2 by omega] at go
    exact go
  | .long, 2, _ =>
    have hsl : xS (n + 1) = xS n + (xSh (n + 1)).2 := by
      show xS n + xSl (n + 1) = _
      unfold xSl
      rw [xbeq hc]
      rfl
    rw [xent2 hc, xrw_s] at e2
    refine va_newa (A := xA base) (H0 := s.heap) (atype := .long) (ty := .long) (a0 := ((xSh (n + 1)).2, .inr (.inl (fun _ => 0)))) X.1 X.2.1 (X.2.2.2.2.1 _ (show Cond.arrayClass .long ∈ xG from hw)) rfl hKs hP (xws_D b base cI cJ cD n I L P) hS (fun q hq => by show base ≤ q; omega) (fun cA => rfl) hz0 hz1 (by show _ * 8 ≤ _; omega) (by show k + 1 ≤ mN M; omega) (by show xS n - xS n0 + _ ≤ xS (n0 + mN M) - xS n0; omega) hd (fun q cA H1 hK1 hP1 hD1 hS1 => ?_)
    refine xsz fun hz2 => ?_
    have hqa := xaddr (E' := .inr (0, [])) hP1 hD1 (by omega)
    subst hqa
    have hA : cA = cJ := by
      have q1 : s.vm.findClass ("[" ++ FieldType.long.toString) = some cA := (hK1.2 3 (cA, .long) rfl).2
      have q2 : s.vm.findClass ("[" ++ FieldType.long.toString) = some cJ := (hKs.2 1 (cJ, .long) rfl).2
      exact Option.some.inj (q1.symm.trans q2)
    subst hA
    have go := hK _ _ _ _ _ _ _ h2 (by omega) (by omega) (by rw [xrw_c _ _ _ (by omega)]; exact hI) hl H1 locs lsA (e2 ▸ hP1) hS1 hL
    rw [show xS (n + 1) - xS n0 = xS n - xS n0 + (xSh (n + 1)).2 by omega] at go
    exact go
theorem xs_newq (X : xCtx p l e s m args below meth c D cI cJ cD b base n0 scr M cs) {i : Nat} (hw : Cond.classLink (mY M).cls i "SmellBurdens$Deeds" ∈ xG) (hd : decode (mC M) pc = .ok (.anewarray i, 3)) (hK : ∀ ls st k n I L P, K Q ls st k n I L P → xAt p l e s m args below meth c D cI cJ cD b base n0 scr M Z (pc + 3) ls st k n I L P)
    (h : xpI st fun v st => xT (Nat.blt k (mN M) && (Nat.beq (xSh (n + 1)).1 3 && Nat.blt (xSh (n + 1)).2 60000)) (v = nI (xSh (n + 1)).2 ∧ K Q ls (.ref (n + 1) :: st) (k + 1) (n + 1) I L (xrw P (n + 1) fun _ => none))) : xAt p l e s m args below meth c D cI cJ cD b base n0 scr M Z pc ls st k n I L P := by
  obtain ⟨v, r1, e1, h1⟩ := xpI_e h
  subst e1
  obtain ⟨hc, hv, h2⟩ := xT_e h1
  subst hv
  obtain ⟨hkm, hc⟩ := xand hc
  obtain ⟨hc, hb⟩ := xand hc
  have hkm := xblt hkm
  have hb := xblt hb
  intro hn hk hI hl H locs lsA hP hS hL
  refine xsz fun hz => ?_
  have hsz : s.heap.size = base + n0 := X.2.2.2.2.2.2.1
  have hKs := X.2.2.2.2.2.1.1
  have hn0 : xS n0 ≤ xS n := xS_le (by omega)
  have hroom : xS (n + 1) ≤ xS (n0 + mN M) := xS_le (by omega)
  have hz0 : ¬ (nI (xSh (n + 1)).2) < 0 := nI_pos (by omega)
  have hz1 : (nI (xSh (n + 1)).2).toNatClampNeg = (xSh (n + 1)).2 := nI_clamp (by omega)
  have e2 := xws_succ b base cI cJ cD n I L (xrw P (n + 1) fun _ => none)
  rw [xws_keep (n := n) (I := I) (L := L) (P := P) (fun j hj => ⟨rfl, rfl, xrw_c _ _ _ (by omega)⟩)] at e2
  have hsl : xS (n + 1) = xS n + (xSh (n + 1)).2 := by
    show xS n + xSl (n + 1) = _
    unfold xSl
    rw [xbeq hc]
    rfl
  rw [xent3 hc, xrw_s] at e2
  refine va_newq (A := xA base) (H0 := s.heap) X.1 X.2.1 X.2.2.2.1 (X.2.2.2.2.1 _ hw) X.2.2.2.2.2.1.2.2 hKs hP (xws_D b base cI cJ cD n I L P) hS (fun q hq => by show base ≤ q; omega) hz0 hz1 (by omega) (by show k + 1 ≤ mN M; omega) (by show xS n - xS n0 + _ ≤ xS (n0 + mN M) - xS n0; omega) hd (fun q cA H1 hK1 hP1 hD1 hS1 => ?_)
  refine xsz fun hz2 => ?_
  have hqa := xaddr (E' := .inr (0, [])) hP1 hD1 (by omega)
  subst hqa
  have hA : cA = cD := by
    obtain ⟨kA, comp, -, -, -, q1⟩ := (hK1.2 3 (cA, .object "SmellBurdens$Deeds") rfl).2
    obtain ⟨kA2, comp2, -, -, -, q2⟩ := (hKs.2 2 (cD, .object "SmellBurdens$Deeds") rfl).2
    exact Option.some.inj (q1.symm.trans q2)
  subst hA
  have go := hK _ _ _ _ _ _ _ h2 (by omega) (by omega) hI hl H1 locs lsA (e2 ▸ hP1) hS1 hL
  rw [show xS (n + 1) - xS n0 = xS n - xS n0 + (xSh (n + 1)).2 by omega] at go
  exact go
end MAKE
end
section
/-! calls, the JDK's own, ends; a whole walk is sound; contracts -/
section CALLS
variable {p : Program} {l : Launch} {e : Env} {s : State} {m : MethodId} {args : Array Value} {below : List Frame} {meth : Method} {c : Code} {D : va_G} {cI cJ cD : ClassId} {b base n0 : Nat} {scr : Nat → Int32} {M : xM} {cs : xCs} {Q : xQ} {Z : State → Prop}
variable {pc : Nat} {K : xK} {J : Nat → xK} {ls : xV} {st : List Value} {k n : Nat} {I : xI} {L : xL} {P : xR}
theorem xszE (X : xCtx p l e s m args below meth c D cI cJ cD b base n0 scr M cs) (hn : n = n0 + k) {H : Heap} {locs : List Loc} (hP : va_P D vwCl (xws b base cI cJ cD n I L P) H) (hS : va_S (xA base) s.heap H locs) (hz : H.size ≤ s.heap.size + k) : H.size = base + n := by
  have hsz : s.heap.size = base + n0 := X.2.2.2.2.2.2.1
  have h1 := hS.1
  cases n with
  | zero => omega
  | succ n => have := xlt hP (Nat.lt_succ_self n); omega
/-- what a callee is given -/
abbrev xPc (D : va_G) (cI cJ cD : ClassId) (b base n : Nat) (as : List Value) (I : xI) (L : xL) (P : xR) : Array Value → State → Prop := va_Pc (as.map (xv b base)) (fun U => U.heap.size = base + n ∧ va_P D vwCl (xws b base cI cJ cD n I L P) U.heap ∧ xKs D cI cJ cD U)
abbrev xQc (D : va_G) (cI cJ cD : ClassId) (b base n mc : Nat) (I : xI) (Q : xQ) : Array Value → State → Outcome → State → Prop := fun _ st oc t => (∃ (r : Option Value) (I' : xI) (L' : xL) (P' : xR), oc = .returned (r.map (xv b base)) ∧ Q r (n + mc) I' L' P' ∧ I' 0 = I 0 ∧ va_P D vwCl (xws b base cI cJ cD (n + mc) I' L' P') t.heap) ∧ va_F (xA base) st t
theorem xPc_blind {as : List Value} : FrameBlind (xPc D cI cJ cD b base n as I L P) := fun a U g mk q => ⟨q.1, q.2.1, q.2.2.1, xKs.same (u := U) (U := U.calling g mk a) rfl q.2.2.2⟩
theorem xPc_at (X : xCtx p l e s m args below meth c D cI cJ cD b base n0 scr M cs) {as : List Value} {H : Heap} (hP : va_P D vwCl (xws b base cI cJ cD n I L P) H) (hz : H.size = base + n) : ∀ U : State, U.heap = H → s.WarmedH U.vm → xPc D cI cJ cD b base n as I L P (as.map (xv b base)).toArray U := fun U hU hW => ⟨rfl, by rw [hU]; exact hz, by rw [hU]; exact hP, xKs.warm hW X.2.2.2.2.2.1⟩
/-- behind a call -/
theorem xbehind (X : xCtx p l e s m args below meth c D cI cJ cD b base n0 scr M cs) {q : xM × xSpec} {as st' : List Value} {st0 : List Value} (hK : ∀ ls st k n I L P, K Q ls st k n I L P → xAt p l e s m args below meth c D cI cJ cD b base n0 scr M Z (pc + 3) ls st k n I L P) (hkm : k + mN q.1 ≤ mN M) {lsA : Array Slot} {H : Heap} {locs : List Loc} (hn : n = n0 + k) (hI : I 0 = scr) (hl : ls.length = mL M) (hS : va_S (xA base) s.heap H locs) (hL : xLR b base lsA ls) {ar : Array Value}
    (hr : va_Run p l e (mRoom M n0) s m args below meth c H locs k (xS n - xS n0) (mN q.1) (xS (n + mN q.1) - xS n) (F0 m pc lsA st0) (st'.map (xv b base)) (xQc D cI cJ cD b base n (mN q.1) I (fun r n' I' L' P' => K Q ls (r.toList ++ st') (k + mN q.1) n' I' L' P') ar) (xA base)) :
    W p l e (mRoom M n0) s m args below meth c H locs k (xS n - xS n0) Z (F0 m pc lsA st0) := by
  intro T hT Y
  obtain ⟨v, st₀, t, T', L2, h0, Y', hL2, e1, e2, ⟨⟨r, I', L', P', hv, hq, hI', hP'⟩, hz, hkk⟩, stp⟩ := hr T hT Y
  cases hv
  rw [h0] at hz hkk
  have hs1 : va_S (xA base) s.heap T'.heap (locs ++ L2) := ⟨Nat.le_trans hS.1 (by rw [e1]; exact hz), fun q h1 h2 => by rw [e1, hkk q (Nat.lt_of_lt_of_le h1 hS.1) h2]; exact hS.2.1 q h1 h2, fun q hq => by
      rcases List.mem_append.mp hq with h | h
      · exact hS.2.2 q h
      · exact hL2 q h⟩
  have go := hK _ _ _ _ _ _ _ hq (by omega) hkm (by rw [hI']; exact hI) hl T'.heap (locs ++ L2) lsA (by rw [e1]; exact hP') hs1 hL
  have hn0 : xS n0 ≤ xS n := xS_le (by omega)
  have hn1 : xS n ≤ xS (n + mN q.1) := xS_le (by omega)
  rw [show xS (n + mN q.1) - xS n0 = xS n - xS n0 + (xS (n + mN q.1) - xS n) by omega, List.map_append] at go
  obtain ⟨t2, a1, b1⟩ := go T' rfl Y'
  refine ⟨t2, stp t2 ?_, b1⟩
  cases r <;> exact a1
theorem xroom (X : xCtx p l e s m args below meth c D cI cJ cD b base n0 scr M cs) {q : xM × xSpec} (hn : n = n0 + k) (hkm : k + mN q.1 ≤ mN M) : k + mN q.1 ≤ (mRoom M n0).cells ∧ (xS n - xS n0) + (xS (n + mN q.1) - xS n) ≤ (mRoom M n0).slots := by
  refine ⟨hkm, ?_⟩
  show _ ≤ xS (n0 + mN M) - xS n0
  have h1 : xS n0 ≤ xS n := xS_le (by omega)
  have h2 : xS n ≤ xS (n + mN q.1) := xS_le (by omega)
  have h3 : xS (n + mN q.1) ≤ xS (n0 + mN M) := xS_le (by omega)
  omega
theorem xcb (X : xCtx p l e s m args below meth c D cI cJ cD b base n0 scr M cs) {q : xM × xSpec} {i : Nat} (hh : xHd q.1) (hl : Cond.methodLink (mY M).cls i (mY q.1) ∈ xG) (hR : Nat.ble (mF q.1 + 1) (mF M) = true ∧ Nat.ble (8 + (mL q.1 + 11) + mW q.1) (mW M) = true) : CallB (mRoom M n0) s args (mY M).cls i (mY q.1) (mC q.1) (mL q.1) (mT q.1) (mWs q.1) (mRoom q.1 n) (mN q.1) (xS (n + mN q.1) - xS n) (mA q.1) :=
  callB_of (Ts := xG) (mA q.1) X.2.2.2.2.1 (mWs_pay (M := M) hh.1) rfl rfl rfl (X.2.2.2.2.1 _ hh.2.1) (X.2.2.2.2.1 _ hl) ⟨hh.2.2.1.1, hh.2.2.1.2.1, hh.2.2.1.2.2⟩ ⟨Nat.le_of_ble_eq_true hR.1, Nat.le_of_ble_eq_true hR.2⟩
theorem xcn (X : xCtx p l e s m args below meth c D cI cJ cD b base n0 scr M cs) {q : xM × xSpec} {i : Nat} (hh : xHd q.1) (hl : Cond.methodLinkNest (mY M).cls i (mY q.1) "SmellBurdens" ∈ xNest) (hR : Nat.ble (mF q.1 + 1) (mF M) = true ∧ Nat.ble (8 + (mL q.1 + 11) + mW q.1) (mW M) = true) : va_CN (mRoom M n0) s args (mY M).cls i (mY q.1) "SmellBurdens" (mC q.1) (mL q.1) (mT q.1) (mWs q.1) (mRoom q.1 n) (mN q.1) (xS (n + mN q.1) - xS n) (mA q.1) :=
  va_cnB (Ts := xG) (mA q.1) X.2.2.2.2.1 (mWs_pay (M := M) hh.1) rfl rfl rfl (X.2.2.2.2.2.1.2.1 _ hl) (X.2.2.2.2.1 _ hh.2.1) ⟨hh.2.2.1.1, hh.2.2.1.2.1, hh.2.2.1.2.2⟩ ⟨Nat.le_of_ble_eq_true hR.1, Nat.le_of_ble_eq_true hR.2⟩
theorem xcall_e {kd a : Nat} {K : xM → List Value → xQ} (h : xcall M cs a kd k st n I L P K) : ∃ q, cs[a]? = some q ∧ mK q.1 = kd ∧ k + mN q.1 ≤ mN M ∧ ∃ ar st', st = ar ++ st' ∧ ar.length = xsel (mA q.1 + 1) (mA q.1) (mA q.1 + 1) kd ∧ xle 8 st' = true ∧ xrcv kd ar.reverse n (mO q.1) = true ∧ q.2 ar.reverse n I L P (K q.1 st') := by
  unfold xcall at h
  split at h
  · exact absurd h (fun q => q)
  · rename_i q hq
    obtain ⟨hc, h⟩ := xT_e h
    obtain ⟨h1, h2⟩ := xand hc
    obtain ⟨ar, r, e1, e2, h⟩ := xpop_e h
    obtain ⟨h3, h⟩ := xT_e h
    obtain ⟨h4, h⟩ := xT_e h
    rw [List.append_nil] at h h4
    exact ⟨q, hq, xbeq h1, Nat.le_of_ble_eq_true h2, ar.reverse, r, e1, by simpa using e2, h3, by simpa using h4, by simpa using h⟩
theorem xs_virtual (X : xCtx p l e s m args below meth c D cI cJ cD b base n0 scr M cs) {i a : Nat} (hh : ∀ q ∈ cs, xHd q.1) (hc : xRb M cs a = true) (hw : xcon cs a fun m => Cond.methodLink (mY M).cls i (mY m) ∈ xG) (hd : decode (mC M) pc = .ok (.invokevirtual i, 3)) (hK : ∀ ls st k n I L P, K Q ls st k n I L P → xAt p l e s m args below meth c D cI cJ cD b base n0 scr M Z (pc + 3) ls st k n I L P)
    (h : xcall M cs a 0 k st n I L P fun m st' r n' I' L' P' => K Q ls (r.toList ++ st') (k + mN m) n' I' L' P') : xAt p l e s m args below meth c D cI cJ cD b base n0 scr M Z pc ls st k n I L P := by
  obtain ⟨q, hq, hkd, hkm, ar, st', rfl, har, hle, hrc, hsp⟩ := xcall_e h
  unfold xcon at hw
  unfold xRb at hc
  simp only [hq] at hw hc
  have hqm := List.mem_of_getElem? hq
  have hhd := hh q hqm
  intro hn hk hI hl H locs lsA hP hS hL
  refine xsz fun hz => ?_
  have hz := xszE X hn hP hS hz
  have hM := (X.2.2.2.2.2.2.2.2.1 q hqm) D cI cJ cD b base n ar.reverse I L P _ hsp
  have hk2 := hhd.2.2.2
  rw [hkd] at hk2
  obtain ⟨hin, hse, hcl⟩ := hk2
  generalize har2 : ar.reverse = as at hrc hM hsp
  have har3 : ar = as.reverse := by rw [← har2, List.reverse_reverse]
  have hlen : as.length = mA q.1 + 1 := by rw [← har2, List.length_reverse]; exact har
  subst har3
  match as, hrc, hlen, hM with
  | .ref (r + 1) :: as, hrc, hlen, hM =>
    obtain ⟨hr, hrc⟩ := xand (show (Nat.blt r n && (Nat.beq (xSh (r + 1)).1 0 && Nat.beq (xSh (r + 1)).2 (mO q.1))) = true from hrc)
    have hat := xws_at (b := b) (base := base) (cI := cI) (cJ := cJ) (cD := cD) (xblt hr) I L P
    rw [xent0 hrc] at hat
    obtain ⟨qc, hqc, hqn⟩ := Option.map_eq_some_iff.mp hcl
    have hre := va_recv X.2.2.2.2.2.1.1 hP hqc hat
    rw [hqn] at hre
    refine xbehind (q := q) (as := .ref (r + 1) :: as) (st' := st') X hK hkm hn hI hl hS hL (va_runV (C := (mY q.1).cls) (As := as.map (xv b base)) (b := base + r) ⟨X.1, X.2.1, X.2.2.1, X.2.2.2.1, X.2.2.2.2.1⟩ hM ⟨xcb X hhd hw (xand hc), X.2.2.2.2.1 _ hin, X.2.2.2.2.1 _ hse⟩ ⟨xPc_blind, hre, xPc_at X hP hz⟩ rfl (by simpa using hlen) (hL.1.trans hl) ?_ (lv_room (xle_e hle)) hd (xroom X hn hkm))
    simp [xv, xad]
theorem xs_static (X : xCtx p l e s m args below meth c D cI cJ cD b base n0 scr M cs) {i a b9 : Nat} (hh : ∀ q ∈ cs, xHd q.1) (hc : xRb M cs a = true) (hw : xMw M cs i a b9) (hd : decode (mC M) pc = .ok (.invokestatic i, 3)) (hK : ∀ ls st k n I L P, K Q ls st k n I L P → xAt p l e s m args below meth c D cI cJ cD b base n0 scr M Z (pc + 3) ls st k n I L P)
    (h : xcall M cs a 1 k st n I L P fun m st' r n' I' L' P' => K Q ls (r.toList ++ st') (k + mN m) n' I' L' P') : xAt p l e s m args below meth c D cI cJ cD b base n0 scr M Z pc ls st k n I L P := by
  obtain ⟨q, hq, hkd, hkm, ar, st', rfl, har, hle, hrc, hsp⟩ := xcall_e h
  unfold xMw xcon at hw
  unfold xRb at hc
  simp only [hq] at hw hc
  have hqm := List.mem_of_getElem? hq
  have hhd := hh q hqm
  intro hn hk hI hl H locs lsA hP hS hL
  refine xsz fun hz => ?_
  have hz := xszE X hn hP hS hz
  have hM := (X.2.2.2.2.2.2.2.2.1 q hqm) D cI cJ cD b base n ar.reverse I L P _ hsp
  have hk2 := hhd.2.2.2
  rw [hkd] at hk2
  generalize har2 : ar.reverse = as at hrc hM hsp
  have har3 : ar = as.reverse := by rw [← har2, List.reverse_reverse]
  have hlen : as.length = mA q.1 := by rw [← har2, List.length_reverse]; exact har
  subst har3
  cases b9 with
  | zero =>
    have hw : Cond.methodLink (mY M).cls i (mY q.1) ∈ xG := hw
    refine xbehind (q := q) (as := as) (st' := st') X hK hkm hn hI hl hS hL (va_runS (As := as.map (xv b base)) ⟨X.1, X.2.1, X.2.2.1, X.2.2.2.1, X.2.2.2.2.1⟩ hM ⟨xcb X hhd hw (xand hc), X.2.2.2.2.1 _ hk2⟩ ⟨xPc_blind, xPc_at X hP hz⟩ rfl (by simpa using hlen) (hL.1.trans hl) ?_ (lv_room (xle_e hle)) hd (xroom X hn hkm))
    simp
  | succ b9 =>
    have hw : Cond.methodLinkNest (mY M).cls i (mY q.1) "SmellBurdens" ∈ xNest := hw
    refine xbehind (q := q) (as := as) (st' := st') X hK hkm hn hI hl hS hL (va_runSN (host := "SmellBurdens") (As := as.map (xv b base)) ⟨X.1, X.2.1, X.2.2.1, X.2.2.2.1, X.2.2.2.2.1⟩ hM ⟨xcn X hhd hw (xand hc), X.2.2.2.2.1 _ hk2, trivial⟩ ⟨xPc_blind, xPc_at X hP hz⟩ rfl (by simpa using hlen) (hL.1.trans hl) ?_ (lv_room (xle_e hle)) hd (xroom X hn hkm))
    simp
theorem xs_special (X : xCtx p l e s m args below meth c D cI cJ cD b base n0 scr M cs) {i a b9 : Nat} (hh : ∀ q ∈ cs, xHd q.1) (hc : xRb M cs a = true) (hw : xMw M cs i a b9) (hd : decode (mC M) pc = .ok (.invokespecial i, 3)) (hK : ∀ ls st k n I L P, K Q ls st k n I L P → xAt p l e s m args below meth c D cI cJ cD b base n0 scr M Z (pc + 3) ls st k n I L P)
    (h : xcall M cs a 2 k st n I L P fun m st' r n' I' L' P' => K Q ls (r.toList ++ st') (k + mN m) n' I' L' P') : xAt p l e s m args below meth c D cI cJ cD b base n0 scr M Z pc ls st k n I L P := by
  obtain ⟨q, hq, hkd, hkm, ar, st', rfl, har, hle, hrc, hsp⟩ := xcall_e h
  unfold xMw xcon at hw
  unfold xRb at hc
  simp only [hq] at hw hc
  have hqm := List.mem_of_getElem? hq
  have hhd := hh q hqm
  intro hn hk hI hl H locs lsA hP hS hL
  refine xsz fun hz => ?_
  have hz := xszE X hn hP hS hz
  have hM := (X.2.2.2.2.2.2.2.2.1 q hqm) D cI cJ cD b base n ar.reverse I L P _ hsp
  have hk2 := hhd.2.2.2
  rw [hkd] at hk2
  generalize har2 : ar.reverse = as at hrc hM hsp
  have har3 : ar = as.reverse := by rw [← har2, List.reverse_reverse]
  have hlen : as.length = mA q.1 + 1 := by rw [← har2, List.length_reverse]; exact har
  subst har3
  match as, hrc, hlen, hM with
  | .ref r :: as, hrc, hlen, hM =>
    cases b9 with
    | zero =>
      have hw : Cond.methodLink (mY M).cls i (mY q.1) ∈ xG := hw
      refine xbehind (q := q) (as := .ref r :: as) (st' := st') X hK hkm hn hI hl hS hL (va_runI (As := as.map (xv b base)) (b := xad b base r) ⟨X.1, X.2.1, X.2.2.1, X.2.2.2.1, X.2.2.2.2.1⟩ hM ⟨by have := xcb (n := n) X hhd hw (xand hc); rw [hk2.2.2] at this; exact this, hk2.2.1, X.2.2.2.2.1 _ hk2.1⟩ ⟨xPc_blind, xPc_at X hP hz⟩ rfl (by simpa using hlen) (hL.1.trans hl) ?_ (lv_room (xle_e hle)) hd (xroom X hn hkm))
      simp [xv]
    | succ b9 =>
      have hw : Cond.methodLinkNest (mY M).cls i (mY q.1) "SmellBurdens" ∈ xNest := hw
      refine xbehind (q := q) (as := .ref r :: as) (st' := st') X hK hkm hn hI hl hS hL (va_runIN (host := "SmellBurdens") (As := as.map (xv b base)) (b := xad b base r) ⟨X.1, X.2.1, X.2.2.1, X.2.2.2.1, X.2.2.2.2.1⟩ hM ⟨by have := xcn (n := n) X hhd hw (xand hc); rw [hk2.2.2] at this; exact this, hk2.2.1, X.2.2.2.2.1 _ hk2.1⟩ ⟨xPc_blind, xPc_at X hP hz⟩ rfl (by simpa using hlen) (hL.1.trans hl) ?_ (lv_room (xle_e hle)) hd (xroom X hn hkm))
      simp [xv]
end CALLS
end
section
/-! the JDK's own, switches, ends; a whole walk is sound; contracts -/
section ENDS
variable {p : Program} {l : Launch} {e : Env} {s : State} {m : MethodId} {args : Array Value} {below : List Frame} {meth : Method} {c : Code} {D : va_G} {cI cJ cD : ClassId} {b base n0 : Nat} {scr : Nat → Int32} {M : xM} {cs : xCs} {Q : xQ} {Z : State → Prop}
variable {pc : Nat} {K : xK} {J : Nat → xK} {ls : xV} {st : List Value} {k n : Nat} {I : xI} {L : xL} {P : xR}
theorem xcats {st : List Value} (h : xle 8 st = true) : ((st.map (xv b base)).map fun v => v.category).sum ≤ 8 := xle_e h
theorem xs_init (X : xCtx p l e s m args below meth c D cI cJ cD b base n0 scr M cs) {i : Nat} (hf : Nat.ble 1 (mF M) = true ∧ Nat.ble 20 (mW M) = true) (hw : Cond.methodLink (mY M).cls i Lib.objectInit ∈ xG ∧ Cond.instanceMethod Lib.objectInit ∈ xG ∧ Cond.code Lib.objectInit ⟨#[0xb1]⟩ 1 none ∈ xG) (hd : decode (mC M) pc = .ok (.invokespecial i, 3)) (hK : ∀ ls st k n I L P, K Q ls st k n I L P → xAt p l e s m args below meth c D cI cJ cD b base n0 scr M Z (pc + 3) ls st k n I L P)
    (h : xpR st fun _ st => xT (xle 8 st) (K Q ls st k n I L P)) : xAt p l e s m args below meth c D cI cJ cD b base n0 scr M Z pc ls st k n I L P := by
  obtain ⟨r, st', rfl, h2⟩ := xpR_e h
  obtain ⟨hle, h3⟩ := xT_e h2
  intro hn hk hI hl H locs lsA hP hS hL
  have go := hK _ _ _ _ _ _ _ h3 hn hk hI hl H locs lsA hP hS hL
  have h20 : 20 ≤ (mRoom M n0).locals := Nat.le_of_ble_eq_true hf.2
  have h8 := lv_room (m := m) (pc := pc) (ls := lsA) (rest := []) (st := st'.map (xv b base)) (xcats hle)
  exact W.objInit X.1 X.2.1 X.2.2.2.1 (X.2.2.2.2.1 _ hw.1) (X.2.2.2.2.1 _ hw.2.1) (X.2.2.2.2.1 _ hw.2.2) rfl (by rw [X.2.2.1]; exact hL.1.trans hl) rfl hd (Nat.le_of_ble_eq_true hf.1) (by have := xcats (b := b) (base := base) hle; show 2 * 0 + _ + 12 ≤ _; omega) go
theorem xs_max (X : xCtx p l e s m args below meth c D cI cJ cD b base n0 scr M cs) {i : Nat} (hf : Nat.ble 1 (mF M) = true ∧ Nat.ble 21 (mW M) = true) (hw : Cond.methodLink (mY M).cls i Lib.Math.max.name ∈ xG ∧ Cond.static Lib.Math.max.name ∈ xG ∧ Cond.initialized "java/lang/Math" ∈ xG ∧ Cond.code Lib.Math.max.name Lib.Math.max.code 2 (some .int) ∈ xG) (hd : decode (mC M) pc = .ok (.invokestatic i, 3)) (hK : ∀ ls st k n I L P, K Q ls st k n I L P → xAt p l e s m args below meth c D cI cJ cD b base n0 scr M Z (pc + 3) ls st k n I L P)
    (h : xpI st fun y st => xpI st fun x st => xT (xle 8 st) (K Q ls (.int (if x < y then y else x) :: st) k n I L P)) : xAt p l e s m args below meth c D cI cJ cD b base n0 scr M Z pc ls st k n I L P := by
  obtain ⟨y, st1, rfl, h1⟩ := xpI_e h
  obtain ⟨x, st2, e2, h2⟩ := xpI_e h1
  subst e2
  obtain ⟨hle, h3⟩ := xT_e h2
  intro hn hk hI hl H locs lsA hP hS hL
  have go := hK _ _ _ _ _ _ _ h3 hn hk hI hl H locs lsA hP hS hL
  have h21 : 21 ≤ (mRoom M n0).locals := Nat.le_of_ble_eq_true hf.2
  have hs : xS n - xS n0 ≤ (mRoom M n0).slots := by
    show _ ≤ xS (n0 + mN M) - xS n0
    have h2 : xS n ≤ xS (n0 + mN M) := xS_le (by omega)
    omega
  exact va_mmax X.1 X.2.1 (X.2.2.1.trans (hL.1.trans hl).symm) X.2.2.2.1 (X.2.2.2.2.1 _ hw.1) (X.2.2.2.2.1 _ hw.2.1) (X.2.2.2.2.1 _ hw.2.2.1) (X.2.2.2.2.1 _ hw.2.2.2) (Nat.le_of_ble_eq_true hf.1) (by have := xcats (b := b) (base := base) hle; omega) hk hs hd go
theorem xs_min (X : xCtx p l e s m args below meth c D cI cJ cD b base n0 scr M cs) {i : Nat} (hf : Nat.ble 1 (mF M) = true ∧ Nat.ble 21 (mW M) = true) (hw : Cond.methodLink (mY M).cls i Lib.Math.min.name ∈ xG ∧ Cond.static Lib.Math.min.name ∈ xG ∧ Cond.initialized "java/lang/Math" ∈ xG ∧ Cond.code Lib.Math.min.name Lib.Math.min.code 2 (some .int) ∈ xG) (hd : decode (mC M) pc = .ok (.invokestatic i, 3)) (hK : ∀ ls st k n I L P, K Q ls st k n I L P → xAt p l e s m args below meth c D cI cJ cD b base n0 scr M Z (pc + 3) ls st k n I L P)
    (h : xpI st fun y st => xpI st fun x st => xT (xle 8 st) (K Q ls (.int (if y < x then y else x) :: st) k n I L P)) : xAt p l e s m args below meth c D cI cJ cD b base n0 scr M Z pc ls st k n I L P := by
  obtain ⟨y, st1, rfl, h1⟩ := xpI_e h
  obtain ⟨x, st2, e2, h2⟩ := xpI_e h1
  subst e2
  obtain ⟨hle, h3⟩ := xT_e h2
  intro hn hk hI hl H locs lsA hP hS hL
  have go := hK _ _ _ _ _ _ _ h3 hn hk hI hl H locs lsA hP hS hL
  have h21 : 21 ≤ (mRoom M n0).locals := Nat.le_of_ble_eq_true hf.2
  have hs : xS n - xS n0 ≤ (mRoom M n0).slots := by
    show _ ≤ xS (n0 + mN M) - xS n0
    have h2 : xS n ≤ xS (n0 + mN M) := xS_le (by omega)
    omega
  exact va_mmin X.1 X.2.1 (X.2.2.1.trans (hL.1.trans hl).symm) X.2.2.2.1 (X.2.2.2.2.1 _ hw.1) (X.2.2.2.2.1 _ hw.2.1) (X.2.2.2.2.1 _ hw.2.2.1) (X.2.2.2.2.1 _ hw.2.2.2) (Nat.le_of_ble_eq_true hf.1) (by have := xcats (b := b) (base := base) hle; omega) hk hs hd go
theorem xs_copy (X : xCtx p l e s m args below meth c D cI cJ cD b base n0 scr M cs) {i : Nat} (hf : Nat.ble 1 (mF M) = true ∧ Nat.ble (8 + (nativeFrameWords "java/lang/System" "arraycopy" 5 + 11)) (mW M) = true) (hw : Cond.methodLink (mY M).cls i arraycopyName ∈ xG ∧ Cond.native arraycopyName ∈ xG ∧ Cond.static arraycopyName ∈ xG ∧ Cond.initialized "java/lang/System" ∈ xG) (hd : decode (mC M) pc = .ok (.invokestatic i, 3)) (hK : ∀ ls st k n I L P, K Q ls st k n I L P → xAt p l e s m args below meth c D cI cJ cD b base n0 scr M Z (pc + 3) ls st k n I L P)
    (h : xpI st fun mm st => xpI st fun dp st => xpR st fun r1 st => xpI st fun sp st => xpR st fun r0 st => xT (xle 8 st) (match r1, r0 with
          | r1 + 1, r0 + 1 => xT (Nat.blt r1 n && Nat.blt r0 n) (¬ sp < 0 ∧ ¬ dp < 0 ∧ ¬ mm < 0 ∧ sp.toNatClampNeg + mm.toNatClampNeg ≤ (xSh (r0 + 1)).2 ∧ dp.toNatClampNeg + mm.toNatClampNeg ≤ (xSh (r1 + 1)).2 ∧
              (match (xSh (r0 + 1)).1, (xSh (r1 + 1)).1 with
              | 1, 1 => K Q ls st k n (xrw I (r1 + 1) (va_cpy (I (r0 + 1)) (I (r1 + 1)) sp.toNatClampNeg dp.toNatClampNeg mm.toNatClampNeg)) L P
              | 2, 2 => K Q ls st k n I (xrw L (r1 + 1) (va_cpy (L (r0 + 1)) (L (r1 + 1)) sp.toNatClampNeg dp.toNatClampNeg mm.toNatClampNeg)) P
              | _, _ => False))
          | _, _ => False)) : xAt p l e s m args below meth c D cI cJ cD b base n0 scr M Z pc ls st k n I L P := by
  obtain ⟨mm, st1, rfl, h1⟩ := xpI_e h
  obtain ⟨dp, st2, e2, h2⟩ := xpI_e h1
  subst e2
  obtain ⟨r1, st3, e3, h3⟩ := xpR_e h2
  subst e3
  obtain ⟨sp, st4, e4, h4⟩ := xpI_e h3
  subst e4
  obtain ⟨r0, st5, e5, h5⟩ := xpR_e h4
  subst e5
  obtain ⟨hle, h6⟩ := xT_e h5
  match r1, r0, h6 with
  | 0, 0, h6 => exact absurd h6 (fun q => q)
  | 0, r0 + 1, h6 => exact absurd h6 (fun q => q)
  | r1 + 1, 0, h6 => exact absurd h6 (fun q => q)
  | r1 + 1, r0 + 1, h6 =>
    obtain ⟨hrr, g1, g2, g3, g4, g5, g6⟩ := xT_e h6
    obtain ⟨hr1, hr0⟩ := xand hrr
    have hr1 := xblt hr1
    have hr0 := xblt hr0
    intro hn hk hI hl H locs lsA hP hS hL
    have hfr : 1 ≤ (mRoom M n0).frames := Nat.le_of_ble_eq_true hf.1
    have hlo : ((st5.map (xv b base)).map fun v => v.category).sum + (nativeFrameWords "java/lang/System" "arraycopy" 5 + 11) ≤ (mRoom M n0).locals := by
      have h1 : 8 + (nativeFrameWords "java/lang/System" "arraycopy" 5 + 11) ≤ (mRoom M n0).locals := Nat.le_of_ble_eq_true hf.2
      have := xcats (b := b) (base := base) hle
      omega
    revert g6
    generalize e0 : (xSh (r0 + 1)).1 = z0
    generalize e1 : (xSh (r1 + 1)).1 = z1
    intro g6
    split at g6
    · 
      have hc0 : Nat.beq (xSh (r0 + 1)).1 1 = true := by rw [e0]; rfl
      have hc1 : Nat.beq (xSh (r1 + 1)).1 1 = true := by rw [e1]; rfl
      have hat0 := xws_at (b := b) (base := base) (cI := cI) (cJ := cJ) (cD := cD) hr0 I L P
      have hat1 := xws_at (b := b) (base := base) (cI := cI) (cJ := cJ) (cD := cD) hr1 I L P
      rw [xent1 hc0] at hat0
      rw [xent1 hc1] at hat1
      have hset := xws_set (b := b) (base := base) (cI := cI) (cJ := cJ) (cD := cD) hr1 (I := I) (L := L) (P := P) (I' := xrw I (r1 + 1) (va_cpy (I (r0 + 1)) (I (r1 + 1)) sp.toNatClampNeg dp.toNatClampNeg mm.toNatClampNeg)) (L' := L) (P' := P) (e := .inl (cI, (xSh (r1 + 1)).2, .inl (va_cpy (I (r0 + 1)) (I (r1 + 1)) sp.toNatClampNeg dp.toNatClampNeg mm.toNatClampNeg))) (by rw [xent1 hc1, xrw_s]) (fun q hq => ⟨xrw_c _ _ _ hq, rfl, rfl⟩)
      refine va_copyi (R := mRoom M n0) (A := xA base) (H0 := s.heap) (ty := .int) X.1 X.2.1 (X.2.2.1.trans (hL.1.trans hl).symm) X.2.2.2.1 (X.2.2.2.2.1 _ hw.1) (X.2.2.2.2.1 _ hw.2.1) (X.2.2.2.2.1 _ hw.2.2.1) (X.2.2.2.2.1 _ hw.2.2.2) X.2.2.2.2.2.1.1 hP (xws_D b base cI cJ cD n I L P) hS r0 r1 0 0 hat0 hat1 rfl rfl rfl g1 g2 g3 g4 g5 (fun _ _ => rfl) hfr hlo hd (fun H1 locs1 hP1 hD1 hS1 => ?_)
      exact hK _ _ _ _ _ _ _ g6 hn hk (by rw [xrw_c _ _ _ (by omega)]; exact hI) hl H1 locs1 lsA (hset ▸ hP1) hS1 hL
    · 
      have hc0 : Nat.beq (xSh (r0 + 1)).1 2 = true := by rw [e0]; rfl
      have hc1 : Nat.beq (xSh (r1 + 1)).1 2 = true := by rw [e1]; rfl
      have hat0 := xws_at (b := b) (base := base) (cI := cI) (cJ := cJ) (cD := cD) hr0 I L P
      have hat1 := xws_at (b := b) (base := base) (cI := cI) (cJ := cJ) (cD := cD) hr1 I L P
      rw [xent2 hc0] at hat0
      rw [xent2 hc1] at hat1
      have hset := xws_set (b := b) (base := base) (cI := cI) (cJ := cJ) (cD := cD) hr1 (I := I) (L := L) (P := P) (I' := I) (L' := xrw L (r1 + 1) (va_cpy (L (r0 + 1)) (L (r1 + 1)) sp.toNatClampNeg dp.toNatClampNeg mm.toNatClampNeg)) (P' := P) (e := .inl (cJ, (xSh (r1 + 1)).2, .inr (.inl (va_cpy (L (r0 + 1)) (L (r1 + 1)) sp.toNatClampNeg dp.toNatClampNeg mm.toNatClampNeg)))) (by rw [xent2 hc1, xrw_s]) (fun q hq => ⟨rfl, xrw_c _ _ _ hq, rfl⟩)
      refine va_copyl (R := mRoom M n0) (A := xA base) (H0 := s.heap) (ty := .long) X.1 X.2.1 (X.2.2.1.trans (hL.1.trans hl).symm) X.2.2.2.1 (X.2.2.2.2.1 _ hw.1) (X.2.2.2.2.1 _ hw.2.1) (X.2.2.2.2.1 _ hw.2.2.1) (X.2.2.2.2.1 _ hw.2.2.2) X.2.2.2.2.2.1.1 hP (xws_D b base cI cJ cD n I L P) hS r0 r1 1 1 hat0 hat1 rfl rfl rfl g1 g2 g3 g4 g5 (fun _ _ => rfl) hfr hlo hd (fun H1 locs1 hP1 hD1 hS1 => ?_)
      exact hK _ _ _ _ _ _ _ g6 hn hk hI hl H1 locs1 lsA (hset ▸ hP1) hS1 hL
    · exact absurd g6 (fun q => q)
theorem xsw_e {tb : List (Nat × Nat)} {x : Int32} {d : Nat} {J : Nat → Prop} (h : xsw x tb J d) : (∃ q ∈ tb, x = nI q.1 ∧ J q.2) ∨ ((∀ q ∈ tb, ¬ x = nI q.1) ∧ J d) := by
  induction tb with
  | nil => exact Or.inr ⟨fun q hq => absurd hq List.not_mem_nil, h⟩
  | cons q r ih =>
    have h : xbr (x = nI q.1) (J q.2) (xsw x r J d) := h
    by_cases hx : x = nI q.1
    · exact Or.inl ⟨q, List.mem_cons_self, hx, h.1 hx⟩
    · rcases ih (h.2 hx) with ⟨q', h1, h2⟩ | ⟨h1, h2⟩
      · exact Or.inl ⟨q', List.mem_cons_of_mem _ h1, h2⟩
      · refine Or.inr ⟨fun q' hq' => ?_, h2⟩
        rcases List.mem_cons.mp hq' with rfl | hq'
        · exact hx
        · exact h1 q' hq'
theorem xs_table (X : xCtx p l e s m args below meth c D cI cJ cD b base n0 scr M cs) {d lo hi : Int} {offs : Array Int} {len a : Nat} {tb : List (Nat × Nat)} (hc : (decide ((pc : Int) + d = (a : Int)) && (decide (hi = lo + (tb.length : Int) - 1) && (decide (0 ≤ lo) && decide (hi < 1000))) && (List.range tb.length).all fun j => (match tb[j]?, offs[j]? with
        | some q, some o => decide ((q.1 : Int) = lo + (j : Int)) && decide ((pc : Int) + o = (q.2 : Int))
        | _, _ => false)) = true) (hd : decode (mC M) pc = .ok (.tableswitch d lo hi offs, len)) (hJ : ∀ t ls st k n I L P, J t Q ls st k n I L P → xAt p l e s m args below meth c D cI cJ cD b base n0 scr M Z t ls st k n I L P)
    (h : xpI st fun x st => xsw x tb (fun t => J t Q ls st k n I L P) a) : xAt p l e s m args below meth c D cI cJ cD b base n0 scr M Z pc ls st k n I L P := by
  obtain ⟨x, st1, rfl, h1⟩ := xpI_e h
  obtain ⟨hc1, hc2⟩ := xand hc
  obtain ⟨ha, hc1⟩ := xand hc1
  obtain ⟨hhi, hc1⟩ := xand hc1
  obtain ⟨hlo, hhi2⟩ := xand hc1
  have ha := of_decide_eq_true ha
  have hhi := of_decide_eq_true hhi
  have hlo := of_decide_eq_true hlo
  have hhi2 := of_decide_eq_true hhi2
  have key : ∀ j, j < tb.length → ∃ q o, tb[j]? = some q ∧ offs[j]? = some o ∧ (q.1 : Int) = lo + (j : Int) ∧ (pc : Int) + o = (q.2 : Int) := fun j hj => by
    have h2 := List.all_eq_true.mp hc2 j (List.mem_range.mpr hj)
    split at h2
    · rename_i q o e1 e2
      obtain ⟨g1, g2⟩ := xand h2
      exact ⟨q, o, e1, e2, of_decide_eq_true g1, of_decide_eq_true g2⟩
    · cases h2
  intro hn hk hI hl H locs lsA hP hS hL
  rcases xsw_e h1 with ⟨q, hq, hx, h2⟩ | ⟨h3, h2⟩
  · obtain ⟨j, hjq⟩ := List.getElem?_of_mem hq
    have hj : j < tb.length := (List.getElem?_eq_some_iff.mp hjq).1
    obtain ⟨q', o, e1, e2, g1, g2⟩ := key j hj
    have hqq : q' = q := Option.some.inj (e1.symm.trans hjq)
    subst hqq
    have hxi : x.toInt = (q'.1 : Int) := by rw [hx]; exact nI_toInt (by omega)
    exact lv_tableIn X.1 X.2.1 hd (by omega) (by omega) (by rw [show (x.toInt - lo).toNat = j by omega]; exact e2) g2 (hJ _ _ _ _ _ _ _ _ h2 hn hk hI hl H locs lsA hP hS hL)
  · refine lv_tableOut X.1 X.2.1 hd ?_ ha (hJ _ _ _ _ _ _ _ _ h2 hn hk hI hl H locs lsA hP hS hL)
    by_cases g : x.toInt < lo
    · exact Or.inl g
    · right
      apply Classical.byContradiction
      intro g2
      have hj : (x.toInt - lo).toNat < tb.length := by omega
      obtain ⟨q, o, e1, -, g3, -⟩ := key _ hj
      refine h3 q (List.mem_of_getElem? e1) (Int32.toInt_inj.mp ?_)
      rw [nI_toInt (by omega)]
      omega
theorem xlo {pc : Nat} {d : Int} {a : Nat} (ha : (pc : Int) + d = (a : Int)) : ∀ {tb : List (Nat × Nat)} {x : Int32} {J : Nat → Prop}, (tb.all fun q => Nat.blt q.1 1000) = true → xsw x tb J a → ∃ t : Nat, (pc : Int) + Op.lookupswitch.offset (tb.map fun q => ((q.1 : Int), (q.2 : Int) - (pc : Int))) d x.toInt = (t : Int) ∧ J t
  | [], x, J, _, h => ⟨a, ha, h⟩
  | q :: r, x, J, hb, h => by
    have h : xbr (x = nI q.1) (J q.2) (xsw x r J a) := h
    simp only [List.all_cons, Bool.and_eq_true] at hb
    have hq := xblt hb.1
    by_cases hx : x = nI q.1
    · refine ⟨q.2, ?_, h.1 hx⟩
      rw [List.map_cons, Op.lookupswitch.offset_cons, if_pos (by rw [hx, nI_toInt (by omega)])]
      omega
    · obtain ⟨t, h1, h2⟩ := xlo ha (tb := r) hb.2 (h.2 hx)
      refine ⟨t, ?_, h2⟩
      rw [List.map_cons, lv_osw hx (nI_toInt (by omega))]
      exact h1
theorem xs_lookup (X : xCtx p l e s m args below meth c D cI cJ cD b base n0 scr M cs) {d : Int} {ps : Array (Int × Int)} {len a : Nat} {tb : List (Nat × Nat)} (hc : (decide ((pc : Int) + d = (a : Int)) && ((ps.toList.zip (ps.toList.drop 1)).all (fun (a, next) => a.1 < next.1) && decide (ps.toList = tb.map fun q => ((q.1 : Int), (q.2 : Int) - (pc : Int)))) && tb.all fun q => Nat.blt q.1 1000) = true) (hd : decode (mC M) pc = .ok (.lookupswitch d ps, len)) (hJ : ∀ t ls st k n I L P, J t Q ls st k n I L P → xAt p l e s m args below meth c D cI cJ cD b base n0 scr M Z t ls st k n I L P)
    (h : xpI st fun x st => xsw x tb (fun t => J t Q ls st k n I L P) a) : xAt p l e s m args below meth c D cI cJ cD b base n0 scr M Z pc ls st k n I L P := by
  obtain ⟨x, st1, rfl, h1⟩ := xpI_e h
  obtain ⟨hc1, hb⟩ := xand hc
  obtain ⟨ha, hc1⟩ := xand hc1
  obtain ⟨hs, hps⟩ := xand hc1
  have ha := of_decide_eq_true ha
  have hps := of_decide_eq_true hps
  obtain ⟨t, h2, h3⟩ := xlo ha hb h1
  intro hn hk hI hl H locs lsA hP hS hL
  exact lv_lookup X.1 X.2.1 hd hs rfl (by rw [hps]; exact h2) (hJ _ _ _ _ _ _ _ _ h3 hn hk hI hl H locs lsA hP hS hL)
/-- an end -/
theorem xs_end (X : xCtx p l e s m args below meth c D cI cJ cD b base n0 scr M cs) (R : xRt p l e s m args below meth c D cI cJ cD b base n0 scr M Q Z) {ins : Instr} (r : Option Value) (hd : decode (mC M) pc = .ok (ins, 1)) (hr : xRw M r ins) (h : xT (Nat.beq k (mN M)) (Q r n I L P)) : xAt p l e s m args below meth c D cI cJ cD b base n0 scr M Z pc ls r.toList k n I L P := by
  obtain ⟨hk, h2⟩ := xT_e h
  have hk := xbeq hk
  subst hk
  intro hn _ hI hl H locs lsA hP hS hL
  exact R r pc n ins I L P hd hr h2 hn hI H locs lsA hP hS
end ENDS
end
section
/-! a step, a walk, a contract: sound -/
section ALL
variable {p : Program} {l : Launch} {e : Env} {s : State} {m : MethodId} {args : Array Value} {below : List Frame} {meth : Method} {c : Code} {D : va_G} {cI cJ cD : ClassId} {b base n0 : Nat} {scr : Nat → Int32} {M : xM} {cs : xCs} {Q : xQ} {Z : State → Prop}
variable {pc : Nat} {K : xK} {J : Nat → xK} {ls : xV} {st : List Value} {k n : Nat} {I : xI} {L : xL} {P : xR}
set_option maxHeartbeats 4000000 in
theorem xstep_ok (X : xCtx p l e s m args below meth c D cI cJ cD b base n0 scr M cs) (R : xRt p l e s m args below meth c D cI cJ cD b base n0 scr M Q Z) (hh : ∀ q ∈ cs, xHd q.1) {ee : xE} (hd : decode (mC M) ee.1 = .ok (ee.2.2.1, ee.2.1)) (hc : xChk M cs ee = true) (hw : xWrd M cs ee) (hK : ∀ ls st k n I L P, K Q ls st k n I L P → xAt p l e s m args below meth c D cI cJ cD b base n0 scr M Z (ee.1 + ee.2.1) ls st k n I L P) (hJ : ∀ t ls st k n I L P, J t Q ls st k n I L P → xAt p l e s m args below meth c D cI cJ cD b base n0 scr M Z t ls st k n I L P)
    (h : xstep M cs Q ee K J ls st k n I L P) : xAt p l e s m args below meth c D cI cJ cD b base n0 scr M Z ee.1 ls st k n I L P := by
  obtain ⟨pc, len, ins, a9, b9, c9, tb⟩ := ee
  dsimp only at hd hK
  show xAt p l e s m args below meth c D cI cJ cD b base n0 scr M Z pc ls st k n I L P
  cases ins with
  | iadd =>
    have hlen := xbeq hc
    subst hlen
    exact xs_iadd X hd hK h
  | isub =>
    have hlen := xbeq hc
    subst hlen
    exact xs_isub X hd hK h
  | imul =>
    have hlen := xbeq hc
    subst hlen
    exact xs_imul X hd hK h
  | iand =>
    have hlen := xbeq hc
    subst hlen
    exact xs_iand X hd hK h
  | ior =>
    have hlen := xbeq hc
    subst hlen
    exact xs_ior X hd hK h
  | ixor =>
    have hlen := xbeq hc
    subst hlen
    exact xs_ixor X hd hK h
  | ishl =>
    have hlen := xbeq hc
    subst hlen
    exact xs_ishl X hd hK h
  | ishr =>
    have hlen := xbeq hc
    subst hlen
    exact xs_ishr X hd hK h
  | ladd =>
    have hlen := xbeq hc
    subst hlen
    exact xs_ladd X hd hK h
  | lsub =>
    have hlen := xbeq hc
    subst hlen
    exact xs_lsub X hd hK h
  | lmul =>
    have hlen := xbeq hc
    subst hlen
    exact xs_lmul X hd hK h
  | land =>
    have hlen := xbeq hc
    subst hlen
    exact xs_land X hd hK h
  | lor =>
    have hlen := xbeq hc
    subst hlen
    exact xs_lor X hd hK h
  | lxor =>
    have hlen := xbeq hc
    subst hlen
    exact xs_lxor X hd hK h
  | lcmp =>
    have hlen := xbeq hc
    subst hlen
    exact xs_lcmp X hd hK h
  | iushr =>
    have hlen := xbeq hc
    subst hlen
    exact xs_iushr X hd hK h
  | lushr =>
    have hlen := xbeq hc
    subst hlen
    exact xs_lushr X hd hK h
  | lshl =>
    have hlen := xbeq hc
    subst hlen
    exact xs_lshl X hd hK h
  | idiv =>
    have hlen := xbeq hc
    subst hlen
    exact xs_idiv X hd hK h
  | irem =>
    have hlen := xbeq hc
    subst hlen
    exact xs_irem X hd hK h
  | ldiv =>
    have hlen := xbeq hc
    subst hlen
    exact xs_ldiv X hd hK h
  | lrem =>
    have hlen := xbeq hc
    subst hlen
    exact xs_lrem X hd hK h
  | i2l =>
    have hlen := xbeq hc
    subst hlen
    exact xs_i2l X hd hK h
  | l2i =>
    have hlen := xbeq hc
    subst hlen
    exact xs_l2i X hd hK h
  | i2b =>
    have hlen := xbeq hc
    subst hlen
    exact xs_i2b X hd hK h
  | pop =>
    have hlen := xbeq hc
    subst hlen
    exact xs_pop X hd hK h
  | dup =>
    have hlen := xbeq hc
    subst hlen
    exact xs_dup X hd hK h
  | dup2 =>
    have hlen := xbeq hc
    subst hlen
    exact xs_dup2 X hd hK h
  | aconst_null =>
    have hlen := xbeq hc
    subst hlen
    exact xs_null X hd hK h
  | iconst i =>
    obtain ⟨hlen, hc2⟩ := xand hc
    have hlen := xbeq hlen
    subst hlen
    exact xs_iconst X (xbeq hc2) hd hK h
  | bipush i =>
    obtain ⟨hlen, hc2⟩ := xand hc
    have hlen := xbeq hlen
    subst hlen
    obtain ⟨h3, h5⟩ := xand hc2
    obtain ⟨h3, h4⟩ := xand h3
    exact xs_bipush X (xbeq h3) (xblt h4) (of_decide_eq_true h5) hd hK h
  | sipush i =>
    obtain ⟨hlen, hc2⟩ := xand hc
    have hlen := xbeq hlen
    subst hlen
    obtain ⟨h3, h5⟩ := xand hc2
    obtain ⟨h3, h4⟩ := xand h3
    exact xs_sipush X (xbeq h3) (xblt h4) (of_decide_eq_true h5) hd hK h
  | lconst i =>
    obtain ⟨hlen, hc2⟩ := xand hc
    have hlen := xbeq hlen
    subst hlen
    exact xs_lconst X (xbeq hc2) hd hK h
  | ldc i =>
    have hlen := xbeq hc
    subst hlen
    exact xs_ldc X hw hd hK h
  | ldc_w i =>
    have hlen := xbeq hc
    subst hlen
    exact xs_ldcw X hw hd hK h
  | ldc2_w i =>
    have hlen := xbeq hc
    subst hlen
    exact xs_ldc2 X hw hd hK h
  | iload i =>
    obtain ⟨hlen, hc2⟩ := xand hc
    have hlen := xbeq hlen
    subst hlen
    exact xs_iload X (xbeq hc2) hd hK h
  | iload_n i =>
    obtain ⟨hlen, hc2⟩ := xand hc
    have hlen := xbeq hlen
    subst hlen
    exact xs_iload_n X (xbeq hc2) hd hK h
  | lload i =>
    obtain ⟨hlen, hc2⟩ := xand hc
    have hlen := xbeq hlen
    subst hlen
    exact xs_lload X (xbeq hc2) hd hK h
  | lload_n i =>
    obtain ⟨hlen, hc2⟩ := xand hc
    have hlen := xbeq hlen
    subst hlen
    exact xs_lload_n X (xbeq hc2) hd hK h
  | aload i =>
    obtain ⟨hlen, hc2⟩ := xand hc
    have hlen := xbeq hlen
    subst hlen
    exact xs_aload X (xbeq hc2) hd hK h
  | aload_n i =>
    obtain ⟨hlen, hc2⟩ := xand hc
    have hlen := xbeq hlen
    subst hlen
    exact xs_aload_n X (xbeq hc2) hd hK h
  | istore i =>
    obtain ⟨hlen, hc2⟩ := xand hc
    have hlen := xbeq hlen
    subst hlen
    exact xs_istore X (xbeq hc2) hd hK h
  | istore_n i =>
    obtain ⟨hlen, hc2⟩ := xand hc
    have hlen := xbeq hlen
    subst hlen
    exact xs_istore_n X (xbeq hc2) hd hK h
  | lstore i =>
    obtain ⟨hlen, hc2⟩ := xand hc
    have hlen := xbeq hlen
    subst hlen
    exact xs_lstore X (xbeq hc2) hd hK h
  | lstore_n i =>
    obtain ⟨hlen, hc2⟩ := xand hc
    have hlen := xbeq hlen
    subst hlen
    exact xs_lstore_n X (xbeq hc2) hd hK h
  | astore i =>
    obtain ⟨hlen, hc2⟩ := xand hc
    have hlen := xbeq hlen
    subst hlen
    exact xs_astore X (xbeq hc2) hd hK h
  | astore_n i =>
    obtain ⟨hlen, hc2⟩ := xand hc
    have hlen := xbeq hlen
    subst hlen
    exact xs_astore_n X (xbeq hc2) hd hK h
  | iinc i d =>
    obtain ⟨hlen, hc2⟩ := xand hc
    have hlen := xbeq hlen
    subst hlen
    obtain ⟨h3, h4⟩ := xand hc2
    exact xs_iinc X (xbeq h3) (xbeq h4) hd hK h
  | goto off =>
    obtain ⟨hlen, hc2⟩ := xand hc
    have hlen := xbeq hlen
    subst hlen
    exact xs_goto X (of_decide_eq_true hc2) hd (hJ _) h
  | if_icmp cnd off =>
    obtain ⟨hlen, hc2⟩ := xand hc
    have hlen := xbeq hlen
    subst hlen
    exact xs_icmp X (of_decide_eq_true hc2) hd hK (hJ _) h
  | ifCond cnd off =>
    obtain ⟨hlen, hc2⟩ := xand hc
    have hlen := xbeq hlen
    subst hlen
    exact xs_if X (of_decide_eq_true hc2) hd hK (hJ _) h
  | ifnull off =>
    obtain ⟨hlen, hc2⟩ := xand hc
    have hlen := xbeq hlen
    subst hlen
    exact xs_ifnull X (of_decide_eq_true hc2) hd hK (hJ _) h
  | ifnonnull off =>
    obtain ⟨hlen, hc2⟩ := xand hc
    have hlen := xbeq hlen
    subst hlen
    exact xs_ifnonnull X (of_decide_eq_true hc2) hd hK (hJ _) h
  | tableswitch d lo hi offs =>
    exact xs_table X hc hd hJ h
  | lookupswitch d ps =>
    exact xs_lookup X hc hd hJ h
  | getfield i =>
    obtain ⟨hlen, hc2⟩ := xand hc
    have hlen := xbeq hlen
    subst hlen
    exact xs_getfield X (xblt hc2) hw hd hK h
  | putfield i =>
    obtain ⟨hlen, hc2⟩ := xand hc
    have hlen := xbeq hlen
    subst hlen
    obtain ⟨h3, h4⟩ := xand hc2
    exact xs_putfield X (xblt h3) hw hd hK h
  | arraylength =>
    have hlen := xbeq hc
    subst hlen
    exact xs_alen X hd hK h
  | iaload =>
    have hlen := xbeq hc
    subst hlen
    exact xs_iald X hd hK h
  | laload =>
    have hlen := xbeq hc
    subst hlen
    exact xs_lald X hd hK h
  | aaload =>
    have hlen := xbeq hc
    subst hlen
    exact xs_aald X hd hK h
  | iastore =>
    have hlen := xbeq hc
    subst hlen
    exact xs_iast X hd hK h
  | lastore =>
    have hlen := xbeq hc
    subst hlen
    exact xs_last X hd hK h
  | aastore =>
    have hlen := xbeq hc
    subst hlen
    exact xs_aast X hd hK h
  | new i =>
    have hlen := xbeq hc
    subst hlen
    exact xs_new X hw hd hK h
  | newarray t =>
    obtain ⟨hlen, hc2⟩ := xand hc
    have hlen := xbeq hlen
    subst hlen
    exact xs_newa X hc2 hw hd hK h
  | anewarray i =>
    have hlen := xbeq hc
    subst hlen
    exact xs_newq X hw hd hK h
  | invokevirtual i =>
    obtain ⟨hlen, hc2⟩ := xand hc
    have hlen := xbeq hlen
    subst hlen
    exact xs_virtual X hh hc2 hw hd hK h
  | invokespecial i =>
    obtain ⟨hlen, hc2⟩ := xand hc
    have hlen := xbeq hlen
    subst hlen
    match c9, hc2, hw, h with
    | 0, hc2, hw, h => exact xs_special X hh hc2 hw hd hK h
    | c9 + 1, hc2, hw, h => exact xs_init X (xand hc2) hw hd hK h
  | invokestatic i =>
    obtain ⟨hlen, hc2⟩ := xand hc
    have hlen := xbeq hlen
    subst hlen
    match c9, hc2, hw, h with
    | 0, hc2, hw, h => exact xs_static X hh hc2 hw hd hK h
    | 1, hc2, hw, h => exact xs_max X (xand hc2) hw hd hK h
    | 2, hc2, hw, h => exact xs_min X (xand hc2) hw hd hK h
    | c9 + 3, hc2, hw, h => exact xs_copy X (xand hc2) hw hd hK h
  | return_ =>
    have hlen := xbeq hc
    subst hlen
    match st, h with
    | [], h =>
      have h : (match mT M with
          | none => xT (Nat.beq k (mN M)) (Q none n I L P)
          | _ => False) := h
      split at h
      · rename_i ht
        exact xs_end X R none hd ht h
      · exact absurd h (fun q => q)
  | ireturn =>
    have hlen := xbeq hc
    subst hlen
    match st, h with
    | [.int x], h =>
      have h : (match mT M with
          | some .int => xT (Nat.beq k (mN M)) (Q (some (.int x)) n I L P)
          | some .boolean => (x = nI 0 ∨ x = nI 1) ∧ xT (Nat.beq k (mN M)) (Q (some (.int x)) n I L P)
          | _ => False) := h
      split at h
      · rename_i ht
        exact xs_end X R (some (.int x)) hd (Or.inl ht) h
      · rename_i ht
        exact xs_end X R (some (.int x)) hd (Or.inr ⟨ht, h.1⟩) h.2
      · exact absurd h (fun q => q)
  | lreturn =>
    have hlen := xbeq hc
    subst hlen
    match st, h with
    | [.long x], h =>
      have h : (match mT M with
          | some .long => xT (Nat.beq k (mN M)) (Q (some (.long x)) n I L P)
          | _ => False) := h
      split at h
      · rename_i ht
        exact xs_end X R (some (.long x)) hd ht h
      · exact absurd h (fun q => q)
  | areturn =>
    have hlen := xbeq hc
    subst hlen
    match st, h with
    | [.ref x], h =>
      have h : (match mT M with
          | some (.object _) => xT (Nat.beq k (mN M)) (Q (some (.ref x)) n I L P)
          | _ => False) := h
      split at h
      · rename_i C ht
        exact xs_end X R (some (.ref x)) hd ⟨C, ht⟩ h
      · exact absurd h (fun q => q)
    | [.null], h =>
      have h : (match mT M with
          | some (.object _) => xT (Nat.beq k (mN M)) (Q (some .null) n I L P)
          | _ => False) := h
      split at h
      · rename_i C ht
        exact xs_end X R (some .null) hd ⟨C, ht⟩ h
      · exact absurd h (fun q => q)
  | _ => exact absurd h (fun q => q)
end ALL
end
section
/-! a walk is sound; a contract out of a walk -/
def xChain : List xE → Bool
  | e :: r => (match r with
    | [] => true
    | e' :: _ => Nat.beq e'.1 (e.1 + e.2.1)) && xChain r
  | [] => true
def xNeed (i : Instr) : Bool := match i with
  | .ldc _ => true
  | .ldc_w _ => true
  | .ldc2_w _ => true
  | .getfield _ => true
  | .putfield _ => true
  | .new _ => true
  | .newarray _ => true
  | .anewarray _ => true
  | .invokevirtual _ => true
  | .invokespecial _ => true
  | .invokestatic _ => true
  | _ => false
def xWs (M : xM) (cs : xCs) : List xE → Prop
  | [] => True
  | e :: r => match xNeed e.2.2.1 with
    | true => xWrd M cs e ∧ xWs M cs r
    | false => xWs M cs r
def xDec (cc : ByteArray) (t : List xE) : Bool := t.all fun e => decide (decode cc e.1 = .ok (e.2.2.1, e.2.1))
def xOkM (M : xM) (cs : xCs) : Prop := xDec (mC M) (mP M) = true ∧ (mP M).all (xChk M cs) = true ∧ xChain (mP M) = true ∧ xWs M cs (mP M)
theorem xNeed_n {M : xM} {cs : xCs} {e : xE} (h : xNeed e.2.2.1 = false) : xWrd M cs e := by
  obtain ⟨pc, len, ins, a, b, c, tb⟩ := e
  cases ins <;> first | exact trivial | exact Bool.noConfusion h
theorem xWs_e {M : xM} {cs : xCs} : ∀ {t : List xE}, xWs M cs t → ∀ e ∈ t, xWrd M cs e
  | [], _, e, he => absurd he List.not_mem_nil
  | e0 :: r, h, e, he => by
    unfold xWs at h
    rcases List.mem_cons.mp he with rfl | he
    · cases hn : xNeed e.2.2.1 with
      | false => exact xNeed_n hn
      | true => rw [hn] at h; exact h.1
    · cases hn : xNeed e0.2.2.1 with
      | false => rw [hn] at h; exact xWs_e h e he
      | true => rw [hn] at h; exact xWs_e h.2 e he
theorem xChain_e {e e' : xE} {r : List xE} : ∀ {pre : List xE}, xChain (pre ++ e :: e' :: r) = true → e'.1 = e.1 + e.2.1
  | [], h => by
    unfold xChain at h
    exact xbeq (xand h).1
  | p :: pre, h => by
    have h : xChain (p :: (pre ++ e :: e' :: r)) = true := h
    unfold xChain at h
    exact xChain_e (xand h).2
section WALK
variable {p : Program} {l : Launch} {e : Env} {s : State} {m : MethodId} {args : Array Value} {below : List Frame} {meth : Method} {c : Code} {D : va_G} {cI cJ cD : ClassId} {b base n0 : Nat} {scr : Nat → Int32} {M : xM} {cs : xCs} {Q : xQ} {Z : State → Prop}
theorem xAt_mask {ls : xV} {st : List Value} {k n pc : Nat} {I : xI} {L : xL} {P : xR} {mk : List Bool} (h : xAt p l e s m args below meth c D cI cJ cD b base n0 scr M Z pc (xmask mk ls) st k n I L P) : xAt p l e s m args below meth c D cI cJ cD b base n0 scr M Z pc ls st k n I L P :=
  fun hn hk hI hl H locs lsA hP hS hL => h hn hk hI (by rw [xmask_len]; exact hl) H locs lsA hP hS ⟨by rw [xmask_len]; exact hL.1, hL.2.1, fun i v hv => hL.2.2 i v (xmask_e hv)⟩
theorem xfe_e {t : Nat} {k : xE → Option Nat → Prop} : ∀ {c : List xE}, xfe t c k → ∃ pre e r q, c = pre ++ e :: r ∧ e.1 = t ∧ k e q ∧ (∀ e' r', r = e' :: r' → q = some e'.1) ∧ (r = [] → q = none)
  | [], h => absurd h (fun q => q)
  | e0 :: r0, h => by
    unfold xfe at h
    cases hb : Nat.beq e0.1 t with
    | true =>
      rw [hb] at h
      cases r0 with
      | nil => exact ⟨[], e0, [], none, rfl, xbeq hb, h, fun e' r' q => (by cases q), fun _ => rfl⟩
      | cons e1 r1 => exact ⟨[], e0, e1 :: r1, some e1.1, rfl, xbeq hb, h, fun e' r' q => (by cases q; rfl), fun q => (by cases q)⟩
    | false =>
      rw [hb] at h
      obtain ⟨pre, e, r, q, h1, h2, h3, h4, h5⟩ := xfe_e (c := r0) h
      exact ⟨e0 :: pre, e, r, q, by rw [h1]; rfl, h2, h3, h4, h5⟩
theorem xnx_e {cut : List (Nat × List Bool)} {g : Nat → xK} {w : Nat → xK} {t : Nat} {ls : xV} {st : List Value} {k n : Nat} {I : xI} {L : xL} {P : xR} (hg : ∀ pc ls st k n I L P, g pc Q ls st k n I L P → xAt p l e s m args below meth c D cI cJ cD b base n0 scr M Z pc ls st k n I L P)
    (hw : ∀ t ls st k n I L P, w t Q ls st k n I L P → xAt p l e s m args below meth c D cI cJ cD b base n0 scr M Z t ls st k n I L P) (h : xnx cut g w t Q ls st k n I L P) : xAt p l e s m args below meth c D cI cJ cD b base n0 scr M Z t ls st k n I L P := by
  unfold xnx at h
  split at h
  · exact xAt_mask (hg _ _ _ _ _ _ _ _ h)
  · exact hw _ _ _ _ _ _ _ _ h
theorem xwp_ok (X : xCtx p l e s m args below meth c D cI cJ cD b base n0 scr M cs) (R : xRt p l e s m args below meth c D cI cJ cD b base n0 scr M Q Z) (hh : ∀ q ∈ cs, xHd q.1) (hM : xOkM M cs) {g : Nat → xK} {cut : List (Nat × List Bool)} (hg : ∀ pc ls st k n I L P, g pc Q ls st k n I L P → xAt p l e s m args below meth c D cI cJ cD b base n0 scr M Z pc ls st k n I L P) :
    ∀ (f t : Nat) (ls : xV) (st : List Value) (k n : Nat) (I : xI) (L : xL) (P : xR), xwp M cs g cut f t Q ls st k n I L P → xAt p l e s m args below meth c D cI cJ cD b base n0 scr M Z t ls st k n I L P := by
  intro f
  induction f with
  | zero =>
    intro t ls st k n I L P h
    exact hg _ _ _ _ _ _ _ _ h
  | succ f ih =>
    intro t ls st k n I L P h
    unfold xwp at h
    obtain ⟨pre, e0, r, q, hpre, ht, h9, hq, hq0⟩ := xfe_e h
    subst ht
    have hmem : e0 ∈ mP M := by rw [hpre]; exact List.mem_append_right _ List.mem_cons_self
    obtain ⟨h1, h2, h3, h4⟩ := hM
    have hd : decode (mC M) e0.1 = .ok (e0.2.2.1, e0.2.1) := of_decide_eq_true (List.all_eq_true.mp h1 e0 hmem)
    have hc : xChk M cs e0 = true := List.all_eq_true.mp h2 e0 hmem
    refine xstep_ok X R hh hd hc (xWs_e h4 e0 hmem) (fun ls st k n I L P h => ?_) (fun t ls st k n I L P h => ?_) h9
    · cases r with
      | nil =>
        rw [hq0 rfl] at h
        exact absurd h (fun q => q)
      | cons e1 r1 =>
        rw [hq e1 r1 rfl] at h
        have hat := xnx_e (M := M) (Z := Z) hg ih h
        rw [xChain_e (pre := pre) (by rw [← hpre]; exact h3)] at hat
        exact hat
    · exact xnx_e (M := M) (Z := Z) hg ih h
end WALK
/-- go on by computation -/
theorem xrun {M : xM} {cs : xCs} {Q : xQ} (hM : xOkM M cs) (hh : ∀ q ∈ cs, xHd q.1) (cut : List (Nat × List Bool)) (f : Nat) {pc : Nat} {ls : xV} {st : List Value} {k n : Nat} {I : xI} {L : xL} {P : xR} (h : xwp M cs (xGo M cs) cut f pc Q ls st k n I L P) : xGo M cs pc Q ls st k n I L P := by
  intro p l e s m args below meth c D cI cJ cD b base n0 scr Z X R
  exact xwp_ok X R hh hM (fun pc ls st k n I L P h => h p l e s m args below meth c D cI cJ cD b base n0 scr Z X R) f pc ls st k n I L P h
def xlay : List Value → xV
  | [] => []
  | v :: r => match v with
    | .long x => some (.long x) :: none :: xlay r
    | .double x => some (.double x) :: none :: xlay r
    | v => some v :: xlay r
def xpad (n : Nat) (as : List Value) : xV := xlay as ++ List.replicate (n - (xlay as).length) none
theorem xlay_at {b base : Nat} : ∀ {as : List Value} {o i : Nat} {v : Value}, (xlay as)[i]? = some (some v) → (o + i, xv b base v) ∈ lv_args o (as.map (xv b base))
  | [], o, i, v, h => by simp [xlay] at h
  | w :: r, o, i, v, h => by
    have one : w.category = 1 → (some w :: xlay r)[i]? = some (some v) → (o + i, xv b base v) ∈ lv_args o ((w :: r).map (xv b base)) := fun hc h => by
      rw [List.map_cons]
      unfold lv_args
      rw [xv_cat, hc]
      cases i with
      | zero => simp at h; subst h; exact List.mem_cons_self
      | succ i =>
        refine List.mem_cons_of_mem _ ?_
        have := xlay_at (b := b) (base := base) (as := r) (o := o + 1) (i := i) (v := v) (by simpa using h)
        rw [show o + (i + 1) = o + 1 + i by omega]
        simpa using this
    have two : w.category = 2 → (some w :: none :: xlay r)[i]? = some (some v) → (o + i, xv b base v) ∈ lv_args o ((w :: r).map (xv b base)) := fun hc h => by
      rw [List.map_cons]
      unfold lv_args
      rw [xv_cat, hc]
      match i, h with
      | 0, h => simp at h; subst h; exact List.mem_cons_self
      | 1, h => simp at h
      | i + 2, h =>
        refine List.mem_cons_of_mem _ ?_
        have := xlay_at (b := b) (base := base) (as := r) (o := o + 2) (i := i) (v := v) (by simpa using h)
        rw [show o + (i + 2) = o + 2 + i by omega]
        simpa using this
    cases w with
    | long x => exact two rfl h
    | double x => exact two rfl h
    | int x => exact one rfl h
    | float x => exact one rfl h
    | null => exact one rfl h
    | ref x => exact one rfl h
    | retAddr x => exact one rfl h
theorem xlay_len {b base : Nat} : ∀ {as : List Value}, (lg_sl (as.map (xv b base))).length = (xlay as).length
  | [] => rfl
  | w :: r => by
    have ih := xlay_len (b := b) (base := base) (as := r)
    cases w <;> (simp only [List.map_cons, lg_sl, List.flatMap_cons, List.length_append] at ih ⊢; rw [ih]; simp [xlay, xv, Value.category]; try omega)
theorem xentry {b base n : Nat} {as : List Value} (h : (xlay as).length ≤ n) : xLR b base ((lg_sl (as.map (xv b base)) ++ List.replicate (n - (lg_sl (as.map (xv b base))).length) Slot.unset).toArray) (xpad n as) := by
  have hl := lv_entry (as.map (xv b base)) (n := n) (by rw [xlay_len]; exact h)
  refine ⟨by rw [hl.1, xpad]; simp; omega, hl.2.1, fun i v hv => ?_⟩
  have hv2 : (xlay as)[i]? = some (some v) := by
    unfold xpad at hv
    by_cases hi : i < (xlay as).length
    · rwa [List.getElem?_append_left hi] at hv
    · rw [List.getElem?_append_right (by omega), List.getElem?_replicate] at hv
      split at hv <;> simp at hv
  have := hl.2.2 (0 + i, xv b base v) (xlay_at hv2)
  simpa using this
theorem xcon_of {M : xM} {cs : xCs} {sp : xSpec} (hM : xOkM M cs) (hd : xHd M) (hp : plainName (mY M).cls = true) (hk9 : mK M ≠ 9) (hh : ∀ q ∈ cs, xHd q.1) (hcs : ∀ q ∈ cs, ∀ l, xCon l q.1 q.2)
    (hgo : ∀ (as : List Value) (n : Nat) (I : xI) (L : xL) (P : xR) (Q : xQ), sp as n I L P Q → (xlay as).length ≤ mL M ∧ xGo M cs 0 Q (xpad (mL M) as) [] 0 n I L P) : ∀ l, xCon l M sp := by
  intro l D cI cJ cD b base n as I L P Q hsp
  obtain ⟨hlen, hgo⟩ := hgo as n I L P Q hsp
  refine Met.ofW (cc := mC M) (maxL := mL M) (ret := mT M) hp rfl ?_
  intro p e s m args below meth c s₁ B hml hv
  obtain ⟨rfl, hsz, hP, hK⟩ := hv
  have hts : ∀ w ∈ xG, w.before (as.map (xv b base)).toArray s = true := fun w hw => atoms_spec (ws := mWs M) B.pre w (List.mem_cons_of_mem _ hw)
  have hlocks := B.notSynchronized
  have hr := B.returns
  have X : xCtx p l e s m (as.map (xv b base)).toArray below meth c D cI cJ cD b base n (I 0) M cs := ⟨B.exec, B.bytes, hml, findClass_of_methodNamed B.named, hts, hK, hsz, fun hn => (name_of_methodNamed B.named B.method).1.trans hn, fun q hq => hcs q hq l, fun h => absurd h hk9⟩
  have R : xRt p l e s m (as.map (xv b base)).toArray below meth c D cI cJ cD b base n (I 0) M Q (MQ below (fun _ st oc t => (∃ (r : Option Value) (I' : xI) (L' : xL) (P' : xR), oc = .returned (r.map (xv b base)) ∧ Q r (n + mN M) I' L' P' ∧ I' 0 = I 0 ∧ va_P D vwCl (xws b base cI cJ cD (n + mN M) I' L' P') t.heap) ∧ va_F (xA base) st t) (as.map (xv b base)).toArray s (mN M) (xS (n + mN M) - xS n) (xA base)) := by
    intro r pc n1 ins I1 L1 P1 hdg hrw hq hn1 hI1 H locs lsA hP1 hS1
    subst hn1
    have post : ∀ t : State, t.heap = H → s.WarmedH t.vm → (∃ (r' : Option Value) (I' : xI) (L' : xL) (P' : xR), Outcome.returned (r.map (xv b base)) = .returned (r'.map (xv b base)) ∧ Q r' (n + mN M) I' L' P' ∧ I' 0 = I 0 ∧ va_P D vwCl (xws b base cI cJ cD (n + mN M) I' L' P') t.heap) ∧ va_F (xA base) s t := fun t ht hW => ⟨⟨r, I1, L1, P1, rfl, hq, hI1, by rw [ht]; exact hP1⟩, hS1.F ht⟩
    unfold xRw at hrw
    split at hrw
    · exact W.vret B.exec B.bytes (hr.trans hrw) post hS1.2.2 hdg
    · rename_i x
      rcases hrw with ht | ⟨ht, hx⟩
      · exact W.iret B.exec B.bytes (hr.trans ht) post hS1.2.2 hdg
      · exact W.zret B.exec B.bytes (hr.trans ht) (by rcases hx with rfl | rfl <;> rfl) post hS1.2.2 hdg
    · exact W.lret B.exec B.bytes (hr.trans hrw) post hS1.2.2 hdg
    · obtain ⟨C, ht⟩ := hrw
      exact W.aret B.exec B.bytes (hr.trans ht) (Or.inl ⟨C, rfl⟩) (Or.inr ⟨_, rfl⟩) post hS1.2.2 hdg
    · obtain ⟨C, ht⟩ := hrw
      exact W.aret B.exec B.bytes (hr.trans ht) (Or.inl ⟨C, rfl⟩) (Or.inl rfl) post hS1.2.2 hdg
    · exact absurd hrw (fun q => q)
  have hS : va_S (xA base) s.heap s.heap [] := va_S.rf
  rw [lg_entry_eq]
  have go := hgo p l e s m _ below meth c D cI cJ cD b base n (I 0) _ X R rfl (Nat.zero_le _) rfl (by unfold xpad; simp; omega) s.heap [] _ hP hS (xentry hlen)
  rw [Nat.sub_self] at go
  exact go
end
