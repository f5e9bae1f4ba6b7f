section
-- ===== PART A: goes FIRST, ahead of the names: the tables' words, and 'selects' of the private methods out of them =====
/-- a private method of a class that the tables say can be made, by its rows of tables_1 -/
def lw_okq (q : MethodName × Nat) : Prop := (q.1.cls ≠ "java/lang/invoke/MethodHandle" ∧ q.1.cls ≠ "java/lang/invoke/VarHandle") ∧ Cond.instantiable q.1.cls q.2 ∈ tables_1 ∧ Cond.privateMethod q.1 ∈ tables_1 ∧ Cond.instanceMethod q.1 ∈ tables_1
theorem lw_p0 : lw_okq (⟨"RodOwes$Tape", "passLetters", "()V"⟩, 6) := ⟨⟨by decide +kernel, by decide +kernel⟩, List.mem_of_getElem? (i := 205) (by decide +kernel), List.mem_of_getElem? (i := 417) (by decide +kernel), List.mem_of_getElem? (i := 418) (by decide +kernel)⟩
theorem lw_p1 : lw_okq (⟨"RodOwes$Tape", "passFigures", "()V"⟩, 6) := ⟨⟨by decide +kernel, by decide +kernel⟩, List.mem_of_getElem? (i := 205) (by decide +kernel), List.mem_of_getElem? (i := 424) (by decide +kernel), List.mem_of_getElem? (i := 425) (by decide +kernel)⟩
theorem lw_p2 : lw_okq (⟨"RodOwes$Reader", "readLine", "()Z"⟩, 7) := ⟨⟨by decide +kernel, by decide +kernel⟩, List.mem_of_getElem? (i := 199) (by decide +kernel), List.mem_of_getElem? (i := 428) (by decide +kernel), List.mem_of_getElem? (i := 429) (by decide +kernel)⟩
theorem lw_p3 : lw_okq (⟨"RodOwes$Reader", "isKind", "(I)Z"⟩, 7) := ⟨⟨by decide +kernel, by decide +kernel⟩, List.mem_of_getElem? (i := 199) (by decide +kernel), List.mem_of_getElem? (i := 432) (by decide +kernel), List.mem_of_getElem? (i := 433) (by decide +kernel)⟩
theorem lw_p4 : lw_okq (⟨"RodOwes$Reader", "isRefused", "(II)Z"⟩, 7) := ⟨⟨by decide +kernel, by decide +kernel⟩, List.mem_of_getElem? (i := 199) (by decide +kernel), List.mem_of_getElem? (i := 436) (by decide +kernel), List.mem_of_getElem? (i := 437) (by decide +kernel)⟩
theorem lw_p5 : lw_okq (⟨"RodOwes$Reader", "lineBegun", "()I"⟩, 7) := ⟨⟨by decide +kernel, by decide +kernel⟩, List.mem_of_getElem? (i := 199) (by decide +kernel), List.mem_of_getElem? (i := 440) (by decide +kernel), List.mem_of_getElem? (i := 441) (by decide +kernel)⟩
theorem lw_p6 : lw_okq (⟨"RodOwes$Reader", "readNature", "()Z"⟩, 7) := ⟨⟨by decide +kernel, by decide +kernel⟩, List.mem_of_getElem? (i := 199) (by decide +kernel), List.mem_of_getElem? (i := 512) (by decide +kernel), List.mem_of_getElem? (i := 513) (by decide +kernel)⟩
theorem lw_p7 : lw_okq (⟨"RodOwes$Reader", "natureNamed", "()I"⟩, 7) := ⟨⟨by decide +kernel, by decide +kernel⟩, List.mem_of_getElem? (i := 199) (by decide +kernel), List.mem_of_getElem? (i := 516) (by decide +kernel), List.mem_of_getElem? (i := 517) (by decide +kernel)⟩
theorem lw_p8 : lw_okq (⟨"RodOwes$Reader", "readNumber", "(II)Z"⟩, 7) := ⟨⟨by decide +kernel, by decide +kernel⟩, List.mem_of_getElem? (i := 199) (by decide +kernel), List.mem_of_getElem? (i := 529) (by decide +kernel), List.mem_of_getElem? (i := 530) (by decide +kernel)⟩
theorem lw_p9 : lw_okq (⟨"RodOwes$Reader", "tellLine", "(I)V"⟩, 7) := ⟨⟨by decide +kernel, by decide +kernel⟩, List.mem_of_getElem? (i := 199) (by decide +kernel), List.mem_of_getElem? (i := 540) (by decide +kernel), List.mem_of_getElem? (i := 541) (by decide +kernel)⟩
theorem lw_p10 : lw_okq (⟨"RodOwes$Reader", "tellsBeyondCounty", "()Z"⟩, 7) := ⟨⟨by decide +kernel, by decide +kernel⟩, List.mem_of_getElem? (i := 199) (by decide +kernel), List.mem_of_getElem? (i := 548) (by decide +kernel), List.mem_of_getElem? (i := 549) (by decide +kernel)⟩
theorem lw_p11 : lw_okq (⟨"RodOwes", "isSight", "(III)Z"⟩, 11) := ⟨⟨by decide +kernel, by decide +kernel⟩, List.mem_of_getElem? (i := 22) (by decide +kernel), List.mem_of_getElem? (i := 677) (by decide +kernel), List.mem_of_getElem? (i := 678) (by decide +kernel)⟩
theorem lw_p12 : lw_okq (⟨"RodOwes$Walks", "bestBeside", "(LRodOwes$Land;II)I"⟩, 2) := ⟨⟨by decide +kernel, by decide +kernel⟩, List.mem_of_getElem? (i := 265) (by decide +kernel), List.mem_of_getElem? (i := 747) (by decide +kernel), List.mem_of_getElem? (i := 748) (by decide +kernel)⟩
theorem lw_p13 : lw_okq (⟨"RodOwes$Plans", "commonDivisor", "()I"⟩, 3) := ⟨⟨by decide +kernel, by decide +kernel⟩, List.mem_of_getElem? (i := 281) (by decide +kernel), List.mem_of_getElem? (i := 798) (by decide +kernel), List.mem_of_getElem? (i := 799) (by decide +kernel)⟩
theorem lw_p14 : lw_okq (⟨"RodOwes$Beds", "listRows", "(LRodOwes$Land;)V"⟩, 8) := ⟨⟨by decide +kernel, by decide +kernel⟩, List.mem_of_getElem? (i := 299) (by decide +kernel), List.mem_of_getElem? (i := 816) (by decide +kernel), List.mem_of_getElem? (i := 817) (by decide +kernel)⟩
theorem lw_p15 : lw_okq (⟨"RodOwes$Beds", "listRowsAlong", "(III)V"⟩, 8) := ⟨⟨by decide +kernel, by decide +kernel⟩, List.mem_of_getElem? (i := 299) (by decide +kernel), List.mem_of_getElem? (i := 820) (by decide +kernel), List.mem_of_getElem? (i := 821) (by decide +kernel)⟩
def lw_privs_1 : List (MethodName × Nat) := [(⟨"RodOwes$Tape", "passLetters", "()V"⟩, 6), (⟨"RodOwes$Tape", "passFigures", "()V"⟩, 6), (⟨"RodOwes$Reader", "readLine", "()Z"⟩, 7), (⟨"RodOwes$Reader", "isKind", "(I)Z"⟩, 7), (⟨"RodOwes$Reader", "isRefused", "(II)Z"⟩, 7), (⟨"RodOwes$Reader", "lineBegun", "()I"⟩, 7), (⟨"RodOwes$Reader", "readNature", "()Z"⟩, 7), (⟨"RodOwes$Reader", "natureNamed", "()I"⟩, 7), (⟨"RodOwes$Reader", "readNumber", "(II)Z"⟩, 7), (⟨"RodOwes$Reader", "tellLine", "(I)V"⟩, 7), (⟨"RodOwes$Reader", "tellsBeyondCounty", "()Z"⟩, 7), (⟨"RodOwes", "isSight", "(III)Z"⟩, 11), (⟨"RodOwes$Walks", "bestBeside", "(LRodOwes$Land;II)I"⟩, 2), (⟨"RodOwes$Plans", "commonDivisor", "()I"⟩, 3), (⟨"RodOwes$Beds", "listRows", "(LRodOwes$Land;)V"⟩, 8), (⟨"RodOwes$Beds", "listRowsAlong", "(III)V"⟩, 8)]
theorem lw_r1 : ∀ q ∈ lw_privs_1, lw_okq q := List.forall_mem_cons.mpr ⟨lw_p0, List.forall_mem_cons.mpr ⟨lw_p1, List.forall_mem_cons.mpr ⟨lw_p2, List.forall_mem_cons.mpr ⟨lw_p3, List.forall_mem_cons.mpr ⟨lw_p4, List.forall_mem_cons.mpr ⟨lw_p5, List.forall_mem_cons.mpr ⟨lw_p6, List.forall_mem_cons.mpr ⟨lw_p7, List.forall_mem_cons.mpr ⟨lw_p8, List.forall_mem_cons.mpr ⟨lw_p9, List.forall_mem_cons.mpr ⟨lw_p10, List.forall_mem_cons.mpr ⟨lw_p11, List.forall_mem_cons.mpr ⟨lw_p12, List.forall_mem_cons.mpr ⟨lw_p13, List.forall_mem_cons.mpr ⟨lw_p14, List.forall_mem_cons.mpr ⟨lw_p15, fun _ h => absurd h List.not_mem_nil⟩⟩⟩⟩⟩⟩⟩⟩⟩⟩⟩⟩⟩⟩⟩⟩
theorem lw_p16 : lw_okq (⟨"RodOwes$Beds", "isFitting", "(II)Z"⟩, 8) := ⟨⟨by decide +kernel, by decide +kernel⟩, List.mem_of_getElem? (i := 299) (by decide +kernel), List.mem_of_getElem? (i := 830) (by decide +kernel), List.mem_of_getElem? (i := 831) (by decide +kernel)⟩
theorem lw_p17 : lw_okq (⟨"RodOwesModel", "firstDraft", "()V"⟩, 37) := ⟨⟨by decide +kernel, by decide +kernel⟩, List.mem_of_getElem? (i := 930) (by decide +kernel), List.mem_of_getElem? (i := 936) (by decide +kernel), List.mem_of_getElem? (i := 937) (by decide +kernel)⟩
theorem lw_p18 : lw_okq (⟨"RodOwesModel", "keepDraft", "()V"⟩, 37) := ⟨⟨by decide +kernel, by decide +kernel⟩, List.mem_of_getElem? (i := 930) (by decide +kernel), List.mem_of_getElem? (i := 940) (by decide +kernel), List.mem_of_getElem? (i := 941) (by decide +kernel)⟩
theorem lw_p19 : lw_okq (⟨"RodOwesModel", "next", "()V"⟩, 37) := ⟨⟨by decide +kernel, by decide +kernel⟩, List.mem_of_getElem? (i := 930) (by decide +kernel), List.mem_of_getElem? (i := 1072) (by decide +kernel), List.mem_of_getElem? (i := 1073) (by decide +kernel)⟩
theorem lw_p20 : lw_okq (⟨"RodOwesModel", "look", "(I)I"⟩, 37) := ⟨⟨by decide +kernel, by decide +kernel⟩, List.mem_of_getElem? (i := 930) (by decide +kernel), List.mem_of_getElem? (i := 1076) (by decide +kernel), List.mem_of_getElem? (i := 1077) (by decide +kernel)⟩
theorem lw_p21 : lw_okq (⟨"RodOwesModel", "needs", "(ZI)V"⟩, 37) := ⟨⟨by decide +kernel, by decide +kernel⟩, List.mem_of_getElem? (i := 930) (by decide +kernel), List.mem_of_getElem? (i := 1084) (by decide +kernel), List.mem_of_getElem? (i := 1085) (by decide +kernel)⟩
theorem lw_p22 : lw_okq (⟨"RodOwesModel", "readLine", "()V"⟩, 37) := ⟨⟨by decide +kernel, by decide +kernel⟩, List.mem_of_getElem? (i := 930) (by decide +kernel), List.mem_of_getElem? (i := 1088) (by decide +kernel), List.mem_of_getElem? (i := 1089) (by decide +kernel)⟩
theorem lw_p23 : lw_okq (⟨"RodOwesModel", "lineNow", "()I"⟩, 37) := ⟨⟨by decide +kernel, by decide +kernel⟩, List.mem_of_getElem? (i := 930) (by decide +kernel), List.mem_of_getElem? (i := 1092) (by decide +kernel), List.mem_of_getElem? (i := 1093) (by decide +kernel)⟩
theorem lw_p24 : lw_okq (⟨"RodOwesModel", "is", "(IIII)Z"⟩, 37) := ⟨⟨by decide +kernel, by decide +kernel⟩, List.mem_of_getElem? (i := 930) (by decide +kernel), List.mem_of_getElem? (i := 1096) (by decide +kernel), List.mem_of_getElem? (i := 1097) (by decide +kernel)⟩
theorem lw_p25 : lw_okq (⟨"RodOwesModel", "ends", "(III)Z"⟩, 37) := ⟨⟨by decide +kernel, by decide +kernel⟩, List.mem_of_getElem? (i := 930) (by decide +kernel), List.mem_of_getElem? (i := 1100) (by decide +kernel), List.mem_of_getElem? (i := 1101) (by decide +kernel)⟩
theorem lw_p26 : lw_okq (⟨"RodOwesModel", "ruleLine", "()I"⟩, 37) := ⟨⟨by decide +kernel, by decide +kernel⟩, List.mem_of_getElem? (i := 930) (by decide +kernel), List.mem_of_getElem? (i := 1104) (by decide +kernel), List.mem_of_getElem? (i := 1105) (by decide +kernel)⟩
theorem lw_p27 : lw_okq (⟨"RodOwesModel", "readLineOf", "(I)V"⟩, 37) := ⟨⟨by decide +kernel, by decide +kernel⟩, List.mem_of_getElem? (i := 930) (by decide +kernel), List.mem_of_getElem? (i := 1108) (by decide +kernel), List.mem_of_getElem? (i := 1109) (by decide +kernel)⟩
theorem lw_p28 : lw_okq (⟨"RodOwesModel", "readNumber", "(II)I"⟩, 37) := ⟨⟨by decide +kernel, by decide +kernel⟩, List.mem_of_getElem? (i := 930) (by decide +kernel), List.mem_of_getElem? (i := 1112) (by decide +kernel), List.mem_of_getElem? (i := 1113) (by decide +kernel)⟩
theorem lw_p29 : lw_okq (⟨"RodOwesModel", "looked", "(II)I"⟩, 37) := ⟨⟨by decide +kernel, by decide +kernel⟩, List.mem_of_getElem? (i := 930) (by decide +kernel), List.mem_of_getElem? (i := 1116) (by decide +kernel), List.mem_of_getElem? (i := 1117) (by decide +kernel)⟩
theorem lw_p30 : lw_okq (⟨"RodOwesModel", "readRod", "()V"⟩, 37) := ⟨⟨by decide +kernel, by decide +kernel⟩, List.mem_of_getElem? (i := 930) (by decide +kernel), List.mem_of_getElem? (i := 1120) (by decide +kernel), List.mem_of_getElem? (i := 1121) (by decide +kernel)⟩
theorem lw_p31 : lw_okq (⟨"RodOwesModel", "natureNow", "()I"⟩, 37) := ⟨⟨by decide +kernel, by decide +kernel⟩, List.mem_of_getElem? (i := 930) (by decide +kernel), List.mem_of_getElem? (i := 1124) (by decide +kernel), List.mem_of_getElem? (i := 1125) (by decide +kernel)⟩
def lw_privs_2 : List (MethodName × Nat) := [(⟨"RodOwes$Beds", "isFitting", "(II)Z"⟩, 8), (⟨"RodOwesModel", "firstDraft", "()V"⟩, 37), (⟨"RodOwesModel", "keepDraft", "()V"⟩, 37), (⟨"RodOwesModel", "next", "()V"⟩, 37), (⟨"RodOwesModel", "look", "(I)I"⟩, 37), (⟨"RodOwesModel", "needs", "(ZI)V"⟩, 37), (⟨"RodOwesModel", "readLine", "()V"⟩, 37), (⟨"RodOwesModel", "lineNow", "()I"⟩, 37), (⟨"RodOwesModel", "is", "(IIII)Z"⟩, 37), (⟨"RodOwesModel", "ends", "(III)Z"⟩, 37), (⟨"RodOwesModel", "ruleLine", "()I"⟩, 37), (⟨"RodOwesModel", "readLineOf", "(I)V"⟩, 37), (⟨"RodOwesModel", "readNumber", "(II)I"⟩, 37), (⟨"RodOwesModel", "looked", "(II)I"⟩, 37), (⟨"RodOwesModel", "readRod", "()V"⟩, 37), (⟨"RodOwesModel", "natureNow", "()I"⟩, 37)]
theorem lw_r2 : ∀ q ∈ lw_privs_2, lw_okq q := List.forall_mem_cons.mpr ⟨lw_p16, List.forall_mem_cons.mpr ⟨lw_p17, List.forall_mem_cons.mpr ⟨lw_p18, List.forall_mem_cons.mpr ⟨lw_p19, List.forall_mem_cons.mpr ⟨lw_p20, List.forall_mem_cons.mpr ⟨lw_p21, List.forall_mem_cons.mpr ⟨lw_p22, List.forall_mem_cons.mpr ⟨lw_p23, List.forall_mem_cons.mpr ⟨lw_p24, List.forall_mem_cons.mpr ⟨lw_p25, List.forall_mem_cons.mpr ⟨lw_p26, List.forall_mem_cons.mpr ⟨lw_p27, List.forall_mem_cons.mpr ⟨lw_p28, List.forall_mem_cons.mpr ⟨lw_p29, List.forall_mem_cons.mpr ⟨lw_p30, List.forall_mem_cons.mpr ⟨lw_p31, fun _ h => absurd h List.not_mem_nil⟩⟩⟩⟩⟩⟩⟩⟩⟩⟩⟩⟩⟩⟩⟩⟩
theorem lw_p32 : lw_okq (⟨"RodOwesModel", "readFresh", "(II)I"⟩, 37) := ⟨⟨by decide +kernel, by decide +kernel⟩, List.mem_of_getElem? (i := 930) (by decide +kernel), List.mem_of_getElem? (i := 1128) (by decide +kernel), List.mem_of_getElem? (i := 1129) (by decide +kernel)⟩
theorem lw_p33 : lw_okq (⟨"RodOwesModel", "readDebt", "()V"⟩, 37) := ⟨⟨by decide +kernel, by decide +kernel⟩, List.mem_of_getElem? (i := 930) (by decide +kernel), List.mem_of_getElem? (i := 1132) (by decide +kernel), List.mem_of_getElem? (i := 1133) (by decide +kernel)⟩
theorem lw_p34 : lw_okq (⟨"RodOwesModel", "readCellOf", "(I)V"⟩, 37) := ⟨⟨by decide +kernel, by decide +kernel⟩, List.mem_of_getElem? (i := 930) (by decide +kernel), List.mem_of_getElem? (i := 1136) (by decide +kernel), List.mem_of_getElem? (i := 1137) (by decide +kernel)⟩
theorem lw_p35 : lw_okq (⟨"RodOwesModel", "isCell", "(I)Z"⟩, 37) := ⟨⟨by decide +kernel, by decide +kernel⟩, List.mem_of_getElem? (i := 930) (by decide +kernel), List.mem_of_getElem? (i := 1152) (by decide +kernel), List.mem_of_getElem? (i := 1153) (by decide +kernel)⟩
theorem lw_p36 : lw_okq (⟨"RodOwesModel", "cellMany", "()I"⟩, 37) := ⟨⟨by decide +kernel, by decide +kernel⟩, List.mem_of_getElem? (i := 930) (by decide +kernel), List.mem_of_getElem? (i := 1156) (by decide +kernel), List.mem_of_getElem? (i := 1157) (by decide +kernel)⟩
theorem lw_p37 : lw_okq (⟨"RodOwesModel", "isWell", "(I)Z"⟩, 37) := ⟨⟨by decide +kernel, by decide +kernel⟩, List.mem_of_getElem? (i := 930) (by decide +kernel), List.mem_of_getElem? (i := 1161) (by decide +kernel), List.mem_of_getElem? (i := 1162) (by decide +kernel)⟩
theorem lw_p38 : lw_okq (⟨"RodOwesModel", "becomes", "(II)I"⟩, 37) := ⟨⟨by decide +kernel, by decide +kernel⟩, List.mem_of_getElem? (i := 930) (by decide +kernel), List.mem_of_getElem? (i := 1184) (by decide +kernel), List.mem_of_getElem? (i := 1185) (by decide +kernel)⟩
theorem lw_p39 : lw_okq (⟨"RodOwesModel", "wells", "()I"⟩, 37) := ⟨⟨by decide +kernel, by decide +kernel⟩, List.mem_of_getElem? (i := 930) (by decide +kernel), List.mem_of_getElem? (i := 1225) (by decide +kernel), List.mem_of_getElem? (i := 1226) (by decide +kernel)⟩
theorem lw_p40 : lw_okq (⟨"RodOwesModel", "isSeen", "(III)Z"⟩, 37) := ⟨⟨by decide +kernel, by decide +kernel⟩, List.mem_of_getElem? (i := 930) (by decide +kernel), List.mem_of_getElem? (i := 1233) (by decide +kernel), List.mem_of_getElem? (i := 1234) (by decide +kernel)⟩
theorem lw_p41 : lw_okq (⟨"RodOwesModel", "doesTwitch", "(IIIII)Z"⟩, 37) := ⟨⟨by decide +kernel, by decide +kernel⟩, List.mem_of_getElem? (i := 930) (by decide +kernel), List.mem_of_getElem? (i := 1237) (by decide +kernel), List.mem_of_getElem? (i := 1238) (by decide +kernel)⟩
theorem lw_p42 : lw_okq (⟨"RodOwesModel", "doesFit", "(II)Z"⟩, 37) := ⟨⟨by decide +kernel, by decide +kernel⟩, List.mem_of_getElem? (i := 930) (by decide +kernel), List.mem_of_getElem? (i := 1256) (by decide +kernel), List.mem_of_getElem? (i := 1257) (by decide +kernel)⟩
theorem lw_p43 : lw_okq (⟨"RodOwesModel", "rodsBy", "(IIIZ)I"⟩, 37) := ⟨⟨by decide +kernel, by decide +kernel⟩, List.mem_of_getElem? (i := 930) (by decide +kernel), List.mem_of_getElem? (i := 1268) (by decide +kernel), List.mem_of_getElem? (i := 1269) (by decide +kernel)⟩
theorem lw_p44 : lw_okq (⟨"RodOwesModel", "findShown", "(II)V"⟩, 37) := ⟨⟨by decide +kernel, by decide +kernel⟩, List.mem_of_getElem? (i := 930) (by decide +kernel), List.mem_of_getElem? (i := 1277) (by decide +kernel), List.mem_of_getElem? (i := 1278) (by decide +kernel)⟩
theorem lw_p45 : lw_okq (⟨"RodOwesModel", "bestBeside", "(II)I"⟩, 37) := ⟨⟨by decide +kernel, by decide +kernel⟩, List.mem_of_getElem? (i := 930) (by decide +kernel), List.mem_of_getElem? (i := 1281) (by decide +kernel), List.mem_of_getElem? (i := 1282) (by decide +kernel)⟩
theorem lw_p46 : lw_okq (⟨"RodOwesModel", "beside", "(II)I"⟩, 37) := ⟨⟨by decide +kernel, by decide +kernel⟩, List.mem_of_getElem? (i := 930) (by decide +kernel), List.mem_of_getElem? (i := 1285) (by decide +kernel), List.mem_of_getElem? (i := 1286) (by decide +kernel)⟩
theorem lw_p47 : lw_okq (⟨"RodOwesModel", "showsIn", "(III)I"⟩, 37) := ⟨⟨by decide +kernel, by decide +kernel⟩, List.mem_of_getElem? (i := 930) (by decide +kernel), List.mem_of_getElem? (i := 1289) (by decide +kernel), List.mem_of_getElem? (i := 1290) (by decide +kernel)⟩
def lw_privs_3 : List (MethodName × Nat) := [(⟨"RodOwesModel", "readFresh", "(II)I"⟩, 37), (⟨"RodOwesModel", "readDebt", "()V"⟩, 37), (⟨"RodOwesModel", "readCellOf", "(I)V"⟩, 37), (⟨"RodOwesModel", "isCell", "(I)Z"⟩, 37), (⟨"RodOwesModel", "cellMany", "()I"⟩, 37), (⟨"RodOwesModel", "isWell", "(I)Z"⟩, 37), (⟨"RodOwesModel", "becomes", "(II)I"⟩, 37), (⟨"RodOwesModel", "wells", "()I"⟩, 37), (⟨"RodOwesModel", "isSeen", "(III)Z"⟩, 37), (⟨"RodOwesModel", "doesTwitch", "(IIIII)Z"⟩, 37), (⟨"RodOwesModel", "doesFit", "(II)Z"⟩, 37), (⟨"RodOwesModel", "rodsBy", "(IIIZ)I"⟩, 37), (⟨"RodOwesModel", "findShown", "(II)V"⟩, 37), (⟨"RodOwesModel", "bestBeside", "(II)I"⟩, 37), (⟨"RodOwesModel", "beside", "(II)I"⟩, 37), (⟨"RodOwesModel", "showsIn", "(III)I"⟩, 37)]
theorem lw_r3 : ∀ q ∈ lw_privs_3, lw_okq q := List.forall_mem_cons.mpr ⟨lw_p32, List.forall_mem_cons.mpr ⟨lw_p33, List.forall_mem_cons.mpr ⟨lw_p34, List.forall_mem_cons.mpr ⟨lw_p35, List.forall_mem_cons.mpr ⟨lw_p36, List.forall_mem_cons.mpr ⟨lw_p37, List.forall_mem_cons.mpr ⟨lw_p38, List.forall_mem_cons.mpr ⟨lw_p39, List.forall_mem_cons.mpr ⟨lw_p40, List.forall_mem_cons.mpr ⟨lw_p41, List.forall_mem_cons.mpr ⟨lw_p42, List.forall_mem_cons.mpr ⟨lw_p43, List.forall_mem_cons.mpr ⟨lw_p44, List.forall_mem_cons.mpr ⟨lw_p45, List.forall_mem_cons.mpr ⟨lw_p46, List.forall_mem_cons.mpr ⟨lw_p47, fun _ h => absurd h List.not_mem_nil⟩⟩⟩⟩⟩⟩⟩⟩⟩⟩⟩⟩⟩⟩⟩⟩
theorem lw_p48 : lw_okq (⟨"RodOwesModel", "plansOf", "(III)V"⟩, 37) := ⟨⟨by decide +kernel, by decide +kernel⟩, List.mem_of_getElem? (i := 930) (by decide +kernel), List.mem_of_getElem? (i := 1303) (by decide +kernel), List.mem_of_getElem? (i := 1304) (by decide +kernel)⟩
theorem lw_p49 : lw_okq (⟨"RodOwesModel", "isFree", "(III)Z"⟩, 37) := ⟨⟨by decide +kernel, by decide +kernel⟩, List.mem_of_getElem? (i := 930) (by decide +kernel), List.mem_of_getElem? (i := 1307) (by decide +kernel), List.mem_of_getElem? (i := 1308) (by decide +kernel)⟩
theorem lw_p50 : lw_okq (⟨"RodOwesModel", "meanOf", "(II)J"⟩, 37) := ⟨⟨by decide +kernel, by decide +kernel⟩, List.mem_of_getElem? (i := 930) (by decide +kernel), List.mem_of_getElem? (i := 1311) (by decide +kernel), List.mem_of_getElem? (i := 1312) (by decide +kernel)⟩
theorem lw_p51 : lw_okq (⟨"RodOwesModel", "findBeds", "()V"⟩, 37) := ⟨⟨by decide +kernel, by decide +kernel⟩, List.mem_of_getElem? (i := 930) (by decide +kernel), List.mem_of_getElem? (i := 1324) (by decide +kernel), List.mem_of_getElem? (i := 1325) (by decide +kernel)⟩
theorem lw_p52 : lw_okq (⟨"RodOwesModel", "addBed", "(III)V"⟩, 37) := ⟨⟨by decide +kernel, by decide +kernel⟩, List.mem_of_getElem? (i := 930) (by decide +kernel), List.mem_of_getElem? (i := 1328) (by decide +kernel), List.mem_of_getElem? (i := 1329) (by decide +kernel)⟩
theorem lw_p53 : lw_okq (⟨"RodOwesModel", "doesBedFit", "(II)Z"⟩, 37) := ⟨⟨by decide +kernel, by decide +kernel⟩, List.mem_of_getElem? (i := 930) (by decide +kernel), List.mem_of_getElem? (i := 1332) (by decide +kernel), List.mem_of_getElem? (i := 1333) (by decide +kernel)⟩
theorem lw_p54 : lw_okq (⟨"RodOwesModel", "bedsBy", "(IIZ)I"⟩, 37) := ⟨⟨by decide +kernel, by decide +kernel⟩, List.mem_of_getElem? (i := 930) (by decide +kernel), List.mem_of_getElem? (i := 1340) (by decide +kernel), List.mem_of_getElem? (i := 1341) (by decide +kernel)⟩
theorem lw_p55 : lw_okq (⟨"RodOwesModel", "findCrash", "(II)I"⟩, 37) := ⟨⟨by decide +kernel, by decide +kernel⟩, List.mem_of_getElem? (i := 930) (by decide +kernel), List.mem_of_getElem? (i := 1348) (by decide +kernel), List.mem_of_getElem? (i := 1349) (by decide +kernel)⟩
theorem lw_p56 : lw_okq (⟨"RodOwesModel", "fails", "(II)Z"⟩, 37) := ⟨⟨by decide +kernel, by decide +kernel⟩, List.mem_of_getElem? (i := 930) (by decide +kernel), List.mem_of_getElem? (i := 1352) (by decide +kernel), List.mem_of_getElem? (i := 1353) (by decide +kernel)⟩
theorem lw_p57 : lw_okq (⟨"RodOwesModel", "copies", "(II)V"⟩, 37) := ⟨⟨by decide +kernel, by decide +kernel⟩, List.mem_of_getElem? (i := 930) (by decide +kernel), List.mem_of_getElem? (i := 1370) (by decide +kernel), List.mem_of_getElem? (i := 1371) (by decide +kernel)⟩
def lw_privs_4 : List (MethodName × Nat) := [(⟨"RodOwesModel", "plansOf", "(III)V"⟩, 37), (⟨"RodOwesModel", "isFree", "(III)Z"⟩, 37), (⟨"RodOwesModel", "meanOf", "(II)J"⟩, 37), (⟨"RodOwesModel", "findBeds", "()V"⟩, 37), (⟨"RodOwesModel", "addBed", "(III)V"⟩, 37), (⟨"RodOwesModel", "doesBedFit", "(II)Z"⟩, 37), (⟨"RodOwesModel", "bedsBy", "(IIZ)I"⟩, 37), (⟨"RodOwesModel", "findCrash", "(II)I"⟩, 37), (⟨"RodOwesModel", "fails", "(II)Z"⟩, 37), (⟨"RodOwesModel", "copies", "(II)V"⟩, 37)]
theorem lw_r4 : ∀ q ∈ lw_privs_4, lw_okq q := List.forall_mem_cons.mpr ⟨lw_p48, List.forall_mem_cons.mpr ⟨lw_p49, List.forall_mem_cons.mpr ⟨lw_p50, List.forall_mem_cons.mpr ⟨lw_p51, List.forall_mem_cons.mpr ⟨lw_p52, List.forall_mem_cons.mpr ⟨lw_p53, List.forall_mem_cons.mpr ⟨lw_p54, List.forall_mem_cons.mpr ⟨lw_p55, List.forall_mem_cons.mpr ⟨lw_p56, List.forall_mem_cons.mpr ⟨lw_p57, fun _ h => absurd h List.not_mem_nil⟩⟩⟩⟩⟩⟩⟩⟩⟩⟩
def lw_privs : List (MethodName × Nat) := lw_privs_1 ++ (lw_privs_2 ++ (lw_privs_3 ++ (lw_privs_4)))
def lw_tbl : List Cond := k2_sels lw_privs ++ tables_1
theorem lw_privs_ok : ∀ q ∈ lw_privs, lw_okq q := by
  show ∀ q ∈ lw_privs_1 ++ (lw_privs_2 ++ (lw_privs_3 ++ (lw_privs_4))), lw_okq q
  exact List.forall_mem_append.mpr ⟨lw_r1, List.forall_mem_append.mpr ⟨lw_r2, List.forall_mem_append.mpr ⟨lw_r3, lw_r4⟩⟩⟩
end
section
def R_Beds : String := "RodOwes$Beds"
def T_Beds : u_T := fun k => match k with
  | 0 => ("RodOwes$Beds", "rows", "[I", true)
  | 1 => ("RodOwes$Beds", "size", "I", false)
  | 2 => ("RodOwes$Beds", "reached", "[I", true)
  | 3 => ("RodOwes$Beds", "wells", "I", false)
  | 4 => ("RodOwes$Beds", "fitting", "I", false)
  | 5 => ("RodOwes$Beds", "wetByAll", "I", false)
  | 6 => ("RodOwes$Beds", "wetByOne", "I", false)
  | _ => ("RodOwes$Beds", "deepest", "I", false)
def t_Beds : Nat → FieldType := fun k => match k with
  | 0 => .array .int
  | 1 => .int
  | 2 => .array .int
  | 3 => .int
  | 4 => .int
  | 5 => .int
  | 6 => .int
  | _ => .int
theorem n_Beds : ∀ a, a < 8 → ∀ b, b < 8 → a ≠ b → (T_Beds a).2.1 ≠ (T_Beds b).2.1 := by decide +kernel
theorem t_Beds_ok : ∀ k, k < 8 → parseFieldDescriptor (T_Beds k).2.2.1 = some (t_Beds k) := by decide +kernel
def R_County : String := "RodOwes$County"
def T_County : u_T := fun k => match k with
  | 0 => ("RodOwes$County", "land", "LRodOwes$Land;", true)
  | 1 => ("RodOwes$County", "ledger", "LRodOwes$Ledger;", true)
  | 2 => ("RodOwes$County", "sights", "LRodOwes$Sights;", true)
  | 3 => ("RodOwes$County", "nature", "I", false)
  | _ => ("RodOwes$County", "reach", "I", false)
def t_County : Nat → FieldType := fun k => match k with
  | 0 => .object "RodOwes$Land"
  | 1 => .object "RodOwes$Ledger"
  | 2 => .object "RodOwes$Sights"
  | 3 => .int
  | _ => .int
theorem n_County : ∀ a, a < 5 → ∀ b, b < 5 → a ≠ b → (T_County a).2.1 ≠ (T_County b).2.1 := by decide +kernel
theorem t_County_ok : ∀ k, k < 5 → parseFieldDescriptor (T_County k).2.2.1 = some (t_County k) := by decide +kernel
def R_Land : String := "RodOwes$Land"
def T_Land : u_T := fun k => match k with
  | 0 => ("RodOwes$Land", "wide", "I", false)
  | 1 => ("RodOwes$Land", "high", "I", false)
  | 2 => ("RodOwes$Land", "cost", "I", false)
  | 3 => ("RodOwes$Land", "price", "I", false)
  | 4 => ("RodOwes$Land", "water", "[I", true)
  | 5 => ("RodOwes$Land", "iron", "[I", true)
  | 6 => ("RodOwes$Land", "odds", "[I", true)
  | 7 => ("RodOwes$Land", "claims", "[I", true)
  | _ => ("RodOwes$Land", "bored", "[I", true)
def t_Land : Nat → FieldType := fun k => match k with
  | 0 => .int
  | 1 => .int
  | 2 => .int
  | 3 => .int
  | 4 => .array .int
  | 5 => .array .int
  | 6 => .array .int
  | 7 => .array .int
  | _ => .array .int
theorem n_Land : ∀ a, a < 9 → ∀ b, b < 9 → a ≠ b → (T_Land a).2.1 ≠ (T_Land b).2.1 := by decide +kernel
theorem t_Land_ok : ∀ k, k < 9 → parseFieldDescriptor (T_Land k).2.2.1 = some (t_Land k) := by decide +kernel
def R_Ledger : String := "RodOwes$Ledger"
def T_Ledger : u_T := fun k => match k with
  | 0 => ("RodOwes$Ledger", "purses", "[I", true)
  | 1 => ("RodOwes$Ledger", "debtors", "[I", true)
  | 2 => ("RodOwes$Ledger", "creditors", "[I", true)
  | 3 => ("RodOwes$Ledger", "sums", "[I", true)
  | _ => ("RodOwes$Ledger", "debts", "I", false)
def t_Ledger : Nat → FieldType := fun k => match k with
  | 0 => .array .int
  | 1 => .array .int
  | 2 => .array .int
  | 3 => .array .int
  | _ => .int
theorem n_Ledger : ∀ a, a < 5 → ∀ b, b < 5 → a ≠ b → (T_Ledger a).2.1 ≠ (T_Ledger b).2.1 := by decide +kernel
theorem t_Ledger_ok : ∀ k, k < 5 → parseFieldDescriptor (T_Ledger k).2.2.1 = some (t_Ledger k) := by decide +kernel
def R_Plans : String := "RodOwes$Plans"
def T_Plans : u_T := fun k => match k with
  | 0 => ("RodOwes$Plans", "chosen", "[I", true)
  | 1 => ("RodOwes$Plans", "size", "I", false)
  | _ => ("RodOwes$Plans", "mean", "I", false)
def t_Plans : Nat → FieldType := fun k => match k with
  | 0 => .array .int
  | 1 => .int
  | _ => .int
theorem n_Plans : ∀ a, a < 3 → ∀ b, b < 3 → a ≠ b → (T_Plans a).2.1 ≠ (T_Plans b).2.1 := by decide +kernel
theorem t_Plans_ok : ∀ k, k < 3 → parseFieldDescriptor (T_Plans k).2.2.1 = some (t_Plans k) := by decide +kernel
def R_Reader : String := "RodOwes$Reader"
def T_Reader : u_T := fun k => match k with
  | 0 => ("RodOwes$Reader", "tape", "LRodOwes$Tape;", true)
  | 1 => ("RodOwes$Reader", "draft", "LRodOwes$County;", true)
  | 2 => ("RodOwes$Reader", "numbers", "[I", true)
  | 3 => ("RodOwes$Reader", "told", "[I", true)
  | 4 => ("RodOwes$Reader", "toldNature", "I", false)
  | 5 => ("RodOwes$Reader", "place", "I", false)
  | _ => ("RodOwes$Reader", "fault", "I", false)
def t_Reader : Nat → FieldType := fun k => match k with
  | 0 => .object "RodOwes$Tape"
  | 1 => .object "RodOwes$County"
  | 2 => .array .int
  | 3 => .array .int
  | 4 => .int
  | 5 => .int
  | _ => .int
theorem n_Reader : ∀ a, a < 7 → ∀ b, b < 7 → a ≠ b → (T_Reader a).2.1 ≠ (T_Reader b).2.1 := by decide +kernel
theorem t_Reader_ok : ∀ k, k < 7 → parseFieldDescriptor (T_Reader k).2.2.1 = some (t_Reader k) := by decide +kernel
def R_Sheet : String := "RodOwes$Sheet"
def T_Sheet : u_T := fun k => match k with
  | 0 => ("RodOwes$Sheet", "row", "[I", true)
  | 1 => ("RodOwes$Sheet", "lane", "I", false)
  | _ => ("RodOwes$Sheet", "size", "I", false)
def t_Sheet : Nat → FieldType := fun k => match k with
  | 0 => .array .int
  | 1 => .int
  | _ => .int
theorem n_Sheet : ∀ a, a < 3 → ∀ b, b < 3 → a ≠ b → (T_Sheet a).2.1 ≠ (T_Sheet b).2.1 := by decide +kernel
theorem t_Sheet_ok : ∀ k, k < 3 → parseFieldDescriptor (T_Sheet k).2.2.1 = some (t_Sheet k) := by decide +kernel
def R_Sights : String := "RodOwes$Sights"
def T_Sights : u_T := fun k => match k with
  | 0 => ("RodOwes$Sights", "cells", "[I", true)
  | 1 => ("RodOwes$Sights", "walkers", "[I", true)
  | 2 => ("RodOwes$Sights", "steps", "[I", true)
  | 3 => ("RodOwes$Sights", "twitched", "[I", true)
  | _ => ("RodOwes$Sights", "size", "I", false)
def t_Sights : Nat → FieldType := fun k => match k with
  | 0 => .array .int
  | 1 => .array .int
  | 2 => .array .int
  | 3 => .array .int
  | _ => .int
theorem n_Sights : ∀ a, a < 5 → ∀ b, b < 5 → a ≠ b → (T_Sights a).2.1 ≠ (T_Sights b).2.1 := by decide +kernel
theorem t_Sights_ok : ∀ k, k < 5 → parseFieldDescriptor (T_Sights k).2.2.1 = some (t_Sights k) := by decide +kernel
def R_Tape : String := "RodOwes$Tape"
def T_Tape : u_T := fun k => match k with
  | 0 => ("RodOwes$Tape", "bytes", "[B", true)
  | 1 => ("RodOwes$Tape", "size", "I", false)
  | 2 => ("RodOwes$Tape", "kind", "I", false)
  | 3 => ("RodOwes$Tape", "from", "I", false)
  | 4 => ("RodOwes$Tape", "to", "I", false)
  | _ => ("RodOwes$Tape", "value", "I", false)
def t_Tape : Nat → FieldType := fun k => match k with
  | 0 => .array .byte
  | 1 => .int
  | 2 => .int
  | 3 => .int
  | 4 => .int
  | _ => .int
theorem n_Tape : ∀ a, a < 6 → ∀ b, b < 6 → a ≠ b → (T_Tape a).2.1 ≠ (T_Tape b).2.1 := by decide +kernel
theorem t_Tape_ok : ∀ k, k < 6 → parseFieldDescriptor (T_Tape k).2.2.1 = some (t_Tape k) := by decide +kernel
def R_Walks : String := "RodOwes$Walks"
def T_Walks : u_T := fun k => match k with
  | 0 => ("RodOwes$Walks", "best", "[[I", true)
  | _ => ("RodOwes$Walks", "path", "[I", true)
def t_Walks : Nat → FieldType := fun k => match k with
  | 0 => .array (.array .int)
  | _ => .array .int
theorem n_Walks : ∀ a, a < 2 → ∀ b, b < 2 → a ≠ b → (T_Walks a).2.1 ≠ (T_Walks b).2.1 := by decide +kernel
theorem t_Walks_ok : ∀ k, k < 2 → parseFieldDescriptor (T_Walks k).2.2.1 = some (t_Walks k) := by decide +kernel
def R_Rod : String := "RodOwes"
def T_Rod : u_T := fun k => match k with
  | 0 => ("RodOwes", "county", "LRodOwes$County;", true)
  | 1 => ("RodOwes", "spare", "LRodOwes$County;", true)
  | 2 => ("RodOwes", "images", "[LRodOwes$County;", true)
  | 3 => ("RodOwes", "kept", "[Z", true)
  | 4 => ("RodOwes", "reader", "LRodOwes$Reader;", true)
  | 5 => ("RodOwes", "tape", "LRodOwes$Tape;", true)
  | 6 => ("RodOwes", "walks", "LRodOwes$Walks;", true)
  | 7 => ("RodOwes", "plans", "LRodOwes$Plans;", true)
  | 8 => ("RodOwes", "allBeds", "LRodOwes$Beds;", true)
  | 9 => ("RodOwes", "sheets", "[LRodOwes$Sheet;", true)
  | _ => ("RodOwes", "tornFault", "I", false)
def t_Rod : Nat → FieldType := fun k => match k with
  | 0 => .object "RodOwes$County"
  | 1 => .object "RodOwes$County"
  | 2 => .array (.object "RodOwes$County")
  | 3 => .array .boolean
  | 4 => .object "RodOwes$Reader"
  | 5 => .object "RodOwes$Tape"
  | 6 => .object "RodOwes$Walks"
  | 7 => .object "RodOwes$Plans"
  | 8 => .object "RodOwes$Beds"
  | 9 => .array (.object "RodOwes$Sheet")
  | _ => .int
theorem n_Rod : ∀ a, a < 11 → ∀ b, b < 11 → a ≠ b → (T_Rod a).2.1 ≠ (T_Rod b).2.1 := by decide +kernel
theorem t_Rod_ok : ∀ k, k < 11 → parseFieldDescriptor (T_Rod k).2.2.1 = some (t_Rod k) := by decide +kernel
def R_Mod : String := "RodOwesModel"
def T_Mod : u_T := fun k => match k with
  | 0 => ("RodOwesModel", "st", "[I", true)
  | 1 => ("RodOwesModel", "isKept", "[Z", true)
  | 2 => ("RodOwesModel", "wide", "I", false)
  | 3 => ("RodOwesModel", "high", "I", false)
  | 4 => ("RodOwesModel", "cost", "I", false)
  | 5 => ("RodOwesModel", "price", "I", false)
  | 6 => ("RodOwesModel", "draft", "[I", true)
  | 7 => ("RodOwesModel", "dWide", "I", false)
  | 8 => ("RodOwesModel", "dHigh", "I", false)
  | 9 => ("RodOwesModel", "dCost", "I", false)
  | 10 => ("RodOwesModel", "dPrice", "I", false)
  | 11 => ("RodOwesModel", "toldLines", "I", false)
  | 12 => ("RodOwesModel", "had", "[I", true)
  | 13 => ("RodOwesModel", "highest", "I", false)
  | 14 => ("RodOwesModel", "tape", "[I", true)
  | 15 => ("RodOwesModel", "taped", "I", false)
  | 16 => ("RodOwesModel", "pos", "I", false)
  | 17 => ("RodOwesModel", "from", "I", false)
  | 18 => ("RodOwesModel", "sort", "I", false)
  | 19 => ("RodOwesModel", "value", "I", false)
  | 20 => ("RodOwesModel", "fault", "I", false)
  | 21 => ("RodOwesModel", "wrongAt", "I", false)
  | 22 => ("RodOwesModel", "shown", "[I", true)
  | 23 => ("RodOwesModel", "row", "[I", true)
  | 24 => ("RodOwesModel", "bestPlan", "[I", true)
  | 25 => ("RodOwesModel", "bestLength", "I", false)
  | 26 => ("RodOwesModel", "bestMean", "J", false)
  | 27 => ("RodOwesModel", "bedRows", "[I", true)
  | 28 => ("RodOwesModel", "bedMany", "I", false)
  | 29 => ("RodOwesModel", "failed", "[I", true)
  | 30 => ("RodOwesModel", "rounds", "I", false)
  | 31 => ("RodOwesModel", "bored", "[I", true)
  | 32 => ("RodOwesModel", "lanes", "[I", true)
  | 33 => ("RodOwesModel", "sizes", "[I", true)
  | 34 => ("RodOwesModel", "cells", "[I", true)
  | 35 => ("RodOwesModel", "torn", "I", false)
  | _ => ("RodOwesModel", "ahead", "[I", true)
def t_Mod : Nat → FieldType := fun k => match k with
  | 0 => .array .int
  | 1 => .array .boolean
  | 2 => .int
  | 3 => .int
  | 4 => .int
  | 5 => .int
  | 6 => .array .int
  | 7 => .int
  | 8 => .int
  | 9 => .int
  | 10 => .int
  | 11 => .int
  | 12 => .array .int
  | 13 => .int
  | 14 => .array .int
  | 15 => .int
  | 16 => .int
  | 17 => .int
  | 18 => .int
  | 19 => .int
  | 20 => .int
  | 21 => .int
  | 22 => .array .int
  | 23 => .array .int
  | 24 => .array .int
  | 25 => .int
  | 26 => .long
  | 27 => .array .int
  | 28 => .int
  | 29 => .array .int
  | 30 => .int
  | 31 => .array .int
  | 32 => .array .int
  | 33 => .array .int
  | 34 => .array .int
  | 35 => .int
  | _ => .array .int
theorem n_Mod : ∀ a, a < 37 → ∀ b, b < 37 → a ≠ b → (T_Mod a).2.1 ≠ (T_Mod b).2.1 := by decide +kernel
theorem t_Mod_ok : ∀ k, k < 37 → parseFieldDescriptor (T_Mod k).2.2.1 = some (t_Mod k) := by decide +kernel
abbrev classes : List vw_C := [(R_Beds, T_Beds, 8), (R_County, T_County, 5), (R_Land, T_Land, 9), (R_Ledger, T_Ledger, 5), (R_Plans, T_Plans, 3), (R_Reader, T_Reader, 7), (R_Sheet, T_Sheet, 3), (R_Sights, T_Sights, 5), (R_Tape, T_Tape, 6), (R_Walks, T_Walks, 2), (R_Rod, T_Rod, 11), (R_Mod, T_Mod, 37)]
abbrev b_Beds_init : ByteArray := prog_2_method_1_code
def y_Beds_init : MethodName := ⟨R_Beds, "<init>", "()V"⟩
abbrev b_Beds_find : ByteArray := prog_2_method_2_code
def y_Beds_find : MethodName := ⟨R_Beds, "find", "(LRodOwes$Land;)V"⟩
abbrev b_Beds_fittingWithWell : ByteArray := prog_2_method_3_code
def y_Beds_fittingWithWell : MethodName := ⟨R_Beds, "fittingWithWell", "(II)I"⟩
abbrev b_Beds_isFitting : ByteArray := prog_2_method_4_code
def y_Beds_isFitting : MethodName := ⟨R_Beds, "isFitting", "(II)Z"⟩
abbrev b_Beds_listRows : ByteArray := prog_2_method_5_code
def y_Beds_listRows : MethodName := ⟨R_Beds, "listRows", "(LRodOwes$Land;)V"⟩
abbrev b_Beds_listRowsAlong : ByteArray := prog_2_method_6_code
def y_Beds_listRowsAlong : MethodName := ⟨R_Beds, "listRowsAlong", "(III)V"⟩
abbrev b_County_init : ByteArray := prog_3_method_1_code
def y_County_init : MethodName := ⟨R_County, "<init>", "()V"⟩
abbrev b_County_reset : ByteArray := prog_3_method_2_code
def y_County_reset : MethodName := ⟨R_County, "reset", "()V"⟩
abbrev b_County_copyFrom : ByteArray := prog_3_method_3_code
def y_County_copyFrom : MethodName := ⟨R_County, "copyFrom", "(LRodOwes$County;)V"⟩
abbrev b_County_twitches : ByteArray := prog_3_method_4_code
def y_County_twitches : MethodName := ⟨R_County, "twitches", "(III)Z"⟩
abbrev b_County_fittingRods : ByteArray := prog_3_method_5_code
def y_County_fittingRods : MethodName := ⟨R_County, "fittingRods", "()I"⟩
abbrev b_County_boreBy : ByteArray := prog_3_method_6_code
def y_County_boreBy : MethodName := ⟨R_County, "boreBy", "(III)I"⟩
abbrev b_Land_init : ByteArray := prog_4_method_1_code
def y_Land_init : MethodName := ⟨R_Land, "<init>", "()V"⟩
abbrev b_Land_reset : ByteArray := prog_4_method_2_code
def y_Land_reset : MethodName := ⟨R_Land, "reset", "()V"⟩
abbrev b_Land_copyFrom : ByteArray := prog_4_method_3_code
def y_Land_copyFrom : MethodName := ⟨R_Land, "copyFrom", "(LRodOwes$Land;)V"⟩
abbrev b_Land_cells : ByteArray := prog_4_method_4_code
def y_Land_cells : MethodName := ⟨R_Land, "cells", "()I"⟩
abbrev b_Land_has : ByteArray := prog_4_method_5_code
def y_Land_has : MethodName := ⟨R_Land, "has", "(I)Z"⟩
abbrev b_Land_allBits : ByteArray := prog_4_method_6_code
def y_Land_allBits : MethodName := ⟨R_Land, "allBits", "()I"⟩
abbrev b_Land_isWell : ByteArray := prog_4_method_7_code
def y_Land_isWell : MethodName := ⟨R_Land, "isWell", "(I)Z"⟩
abbrev b_Land_wellBits : ByteArray := prog_4_method_8_code
def y_Land_wellBits : MethodName := ⟨R_Land, "wellBits", "()I"⟩
abbrev b_Land_wells : ByteArray := prog_4_method_9_code
def y_Land_wells : MethodName := ⟨R_Land, "wells", "()I"⟩
abbrev b_Land_boredBits : ByteArray := prog_4_method_10_code
def y_Land_boredBits : MethodName := ⟨R_Land, "boredBits", "(I)I"⟩
abbrev b_Land_raiseWater : ByteArray := prog_4_method_11_code
def y_Land_raiseWater : MethodName := ⟨R_Land, "raiseWater", "(I)V"⟩
abbrev b_Land_beside : ByteArray := prog_4_method_12_code
def y_Land_beside : MethodName := ⟨R_Land, "beside", "(II)I"⟩
abbrev b_Land_twitches : ByteArray := prog_4_method_13_code
def y_Land_twitches : MethodName := ⟨R_Land, "twitches", "(IIIII)Z"⟩
abbrev b_Land_twitchingRods : ByteArray := prog_4_method_14_code
def y_Land_twitchingRods : MethodName := ⟨R_Land, "twitchingRods", "(III)I"⟩
abbrev b_Ledger_init : ByteArray := prog_5_method_1_code
def y_Ledger_init : MethodName := ⟨R_Ledger, "<init>", "()V"⟩
abbrev b_Ledger_reset : ByteArray := prog_5_method_2_code
def y_Ledger_reset : MethodName := ⟨R_Ledger, "reset", "()V"⟩
abbrev b_Ledger_copyFrom : ByteArray := prog_5_method_3_code
def y_Ledger_copyFrom : MethodName := ⟨R_Ledger, "copyFrom", "(LRodOwes$Ledger;)V"⟩
abbrev b_Ledger_addDebt : ByteArray := prog_5_method_4_code
def y_Ledger_addDebt : MethodName := ⟨R_Ledger, "addDebt", "(III)V"⟩
abbrev b_Ledger_allPurses : ByteArray := prog_5_method_5_code
def y_Ledger_allPurses : MethodName := ⟨R_Ledger, "allPurses", "()I"⟩
abbrev b_Ledger_lacking : ByteArray := prog_5_method_6_code
def y_Ledger_lacking : MethodName := ⟨R_Ledger, "lacking", "(II)I"⟩
abbrev b_Ledger_failingAfter : ByteArray := prog_5_method_7_code
def y_Ledger_failingAfter : MethodName := ⟨R_Ledger, "failingAfter", "(I)I"⟩
abbrev b_Plans_init : ByteArray := prog_6_method_1_code
def y_Plans_init : MethodName := ⟨R_Plans, "<init>", "()V"⟩
abbrev b_Plans_find : ByteArray := prog_6_method_2_code
def y_Plans_find : MethodName := ⟨R_Plans, "find", "(LRodOwes$Land;III)V"⟩
abbrev b_Plans_meanAbove : ByteArray := prog_6_method_3_code
def y_Plans_meanAbove : MethodName := ⟨R_Plans, "meanAbove", "()I"⟩
abbrev b_Plans_meanBelow : ByteArray := prog_6_method_4_code
def y_Plans_meanBelow : MethodName := ⟨R_Plans, "meanBelow", "()I"⟩
abbrev b_Plans_likeliest : ByteArray := prog_6_method_5_code
def y_Plans_likeliest : MethodName := ⟨R_Plans, "likeliest", "(LRodOwes$Land;II)I"⟩
abbrev b_Plans_commonDivisor : ByteArray := prog_6_method_6_code
def y_Plans_commonDivisor : MethodName := ⟨R_Plans, "commonDivisor", "()I"⟩
abbrev b_Reader_init : ByteArray := prog_7_method_1_code
def y_Reader_init : MethodName := ⟨R_Reader, "<init>", "()V"⟩
abbrev b_Reader_readAll : ByteArray := prog_7_method_2_code
def y_Reader_readAll : MethodName := ⟨R_Reader, "readAll", "()I"⟩
abbrev b_Reader_tellsBeyondCounty : ByteArray := prog_7_method_3_code
def y_Reader_tellsBeyondCounty : MethodName := ⟨R_Reader, "tellsBeyondCounty", "()Z"⟩
abbrev b_Reader_isRefused : ByteArray := prog_7_method_4_code
def y_Reader_isRefused : MethodName := ⟨R_Reader, "isRefused", "(II)Z"⟩
abbrev b_Reader_isKind : ByteArray := prog_7_method_5_code
def y_Reader_isKind : MethodName := ⟨R_Reader, "isKind", "(I)Z"⟩
abbrev b_Reader_readLine : ByteArray := prog_7_method_6_code
def y_Reader_readLine : MethodName := ⟨R_Reader, "readLine", "()Z"⟩
abbrev b_Reader_readNature : ByteArray := prog_7_method_7_code
def y_Reader_readNature : MethodName := ⟨R_Reader, "readNature", "()Z"⟩
abbrev b_Reader_readNumber : ByteArray := prog_7_method_8_code
def y_Reader_readNumber : MethodName := ⟨R_Reader, "readNumber", "(II)Z"⟩
abbrev b_Reader_isOnceOnly : ByteArray := prog_7_method_9_code
def y_Reader_isOnceOnly : MethodName := ⟨R_Reader, "isOnceOnly", "(I)Z"⟩
abbrev b_Reader_isOfOne : ByteArray := prog_7_method_10_code
def y_Reader_isOfOne : MethodName := ⟨R_Reader, "isOfOne", "(I)Z"⟩
abbrev b_Reader_tellLine : ByteArray := prog_7_method_11_code
def y_Reader_tellLine : MethodName := ⟨R_Reader, "tellLine", "(I)V"⟩
abbrev b_Reader_lineBegun : ByteArray := prog_7_method_12_code
def y_Reader_lineBegun : MethodName := ⟨R_Reader, "lineBegun", "()I"⟩
abbrev b_Reader_natureNamed : ByteArray := prog_7_method_13_code
def y_Reader_natureNamed : MethodName := ⟨R_Reader, "natureNamed", "()I"⟩
abbrev b_Reader_lineName : ByteArray := prog_7_method_14_code
def y_Reader_lineName : MethodName := ⟨R_Reader, "lineName", "(I)Ljava/lang/String;"⟩
abbrev b_Reader_natureName : ByteArray := prog_7_method_15_code
def y_Reader_natureName : MethodName := ⟨R_Reader, "natureName", "(I)Ljava/lang/String;"⟩
abbrev b_Sheet_init : ByteArray := prog_8_method_1_code
def y_Sheet_init : MethodName := ⟨R_Sheet, "<init>", "()V"⟩
abbrev b_Sheet_makeNew : ByteArray := prog_8_method_2_code
def y_Sheet_makeNew : MethodName := ⟨R_Sheet, "makeNew", "(II)V"⟩
abbrev b_Sheet_put : ByteArray := prog_8_method_3_code
def y_Sheet_put : MethodName := ⟨R_Sheet, "put", "(II)V"⟩
abbrev b_Sheet_wholeBores : ByteArray := prog_8_method_4_code
def y_Sheet_wholeBores : MethodName := ⟨R_Sheet, "wholeBores", "(III)I"⟩
abbrev b_Sheet_readFault : ByteArray := prog_8_method_5_code
def y_Sheet_readFault : MethodName := ⟨R_Sheet, "readFault", "(III)I"⟩
abbrev b_Sights_init : ByteArray := prog_9_method_1_code
def y_Sights_init : MethodName := ⟨R_Sights, "<init>", "()V"⟩
abbrev b_Sights_copyFrom : ByteArray := prog_9_method_2_code
def y_Sights_copyFrom : MethodName := ⟨R_Sights, "copyFrom", "(LRodOwes$Sights;)V"⟩
abbrev b_Sights_add : ByteArray := prog_9_method_3_code
def y_Sights_add : MethodName := ⟨R_Sights, "add", "(IIII)V"⟩
abbrev b_Tape_init : ByteArray := prog_10_method_1_code
def y_Tape_init : MethodName := ⟨R_Tape, "<init>", "()V"⟩
abbrev b_Tape_rewind : ByteArray := prog_10_method_2_code
def y_Tape_rewind : MethodName := ⟨R_Tape, "rewind", "()V"⟩
abbrev b_Tape_advance : ByteArray := prog_10_method_3_code
def y_Tape_advance : MethodName := ⟨R_Tape, "advance", "()V"⟩
abbrev b_Tape_isName : ByteArray := prog_10_method_4_code
def y_Tape_isName : MethodName := ⟨R_Tape, "isName", "(Ljava/lang/String;)Z"⟩
abbrev b_Tape_passLetters : ByteArray := prog_10_method_5_code
def y_Tape_passLetters : MethodName := ⟨R_Tape, "passLetters", "()V"⟩
abbrev b_Tape_passFigures : ByteArray := prog_10_method_6_code
def y_Tape_passFigures : MethodName := ⟨R_Tape, "passFigures", "()V"⟩
abbrev b_Tape_isLetter : ByteArray := prog_10_method_7_code
def y_Tape_isLetter : MethodName := ⟨R_Tape, "isLetter", "(I)Z"⟩
abbrev b_Tape_isFigure : ByteArray := prog_10_method_8_code
def y_Tape_isFigure : MethodName := ⟨R_Tape, "isFigure", "(I)Z"⟩
abbrev b_Walks_init : ByteArray := prog_11_method_1_code
def y_Walks_init : MethodName := ⟨R_Walks, "<init>", "()V"⟩
abbrev b_Walks_find : ByteArray := prog_11_method_2_code
def y_Walks_find : MethodName := ⟨R_Walks, "find", "(LRodOwes$County;III)V"⟩
abbrev b_Walks_most : ByteArray := prog_11_method_3_code
def y_Walks_most : MethodName := ⟨R_Walks, "most", "(I)I"⟩
abbrev b_Walks_shownIn : ByteArray := prog_11_method_4_code
def y_Walks_shownIn : MethodName := ⟨R_Walks, "shownIn", "(LRodOwes$County;III)I"⟩
abbrev b_Walks_bestBeside : ByteArray := prog_11_method_5_code
def y_Walks_bestBeside : MethodName := ⟨R_Walks, "bestBeside", "(LRodOwes$Land;II)I"⟩
abbrev b_Rod_init : ByteArray := prog_1_method_1_code
def y_Rod_init : MethodName := ⟨R_Rod, "<init>", "()V"⟩
abbrev b_Rod_feed : ByteArray := prog_1_method_2_code
def y_Rod_feed : MethodName := ⟨R_Rod, "feed", "(I)I"⟩
abbrev b_Rod_end : ByteArray := prog_1_method_3_code
def y_Rod_end : MethodName := ⟨R_Rod, "end", "(I)I"⟩
abbrev b_Rod_text : ByteArray := prog_1_method_4_code
def y_Rod_text : MethodName := ⟨R_Rod, "text", "()I"⟩
abbrev b_Rod_fault : ByteArray := prog_1_method_5_code
def y_Rod_fault : MethodName := ⟨R_Rod, "fault", "()I"⟩
abbrev b_Rod_rule : ByteArray := prog_1_method_6_code
def y_Rod_rule : MethodName := ⟨R_Rod, "rule", "(I)I"⟩
abbrev b_Rod_cell : ByteArray := prog_1_method_7_code
def y_Rod_cell : MethodName := ⟨R_Rod, "cell", "(II)I"⟩
abbrev b_Rod_purse : ByteArray := prog_1_method_8_code
def y_Rod_purse : MethodName := ⟨R_Rod, "purse", "(I)I"⟩
abbrev b_Rod_wet : ByteArray := prog_1_method_9_code
def y_Rod_wet : MethodName := ⟨R_Rod, "wet", "(II)I"⟩
abbrev b_Rod_iron : ByteArray := prog_1_method_10_code
def y_Rod_iron : MethodName := ⟨R_Rod, "iron", "(IZ)I"⟩
abbrev b_Rod_odd : ByteArray := prog_1_method_11_code
def y_Rod_odd : MethodName := ⟨R_Rod, "odd", "(II)I"⟩
abbrev b_Rod_claim : ByteArray := prog_1_method_12_code
def y_Rod_claim : MethodName := ⟨R_Rod, "claim", "(II)I"⟩
abbrev b_Rod_fund : ByteArray := prog_1_method_13_code
def y_Rod_fund : MethodName := ⟨R_Rod, "fund", "(II)I"⟩
abbrev b_Rod_cut : ByteArray := prog_1_method_14_code
def y_Rod_cut : MethodName := ⟨R_Rod, "cut", "(II)I"⟩
abbrev b_Rod_owe : ByteArray := prog_1_method_15_code
def y_Rod_owe : MethodName := ⟨R_Rod, "owe", "(III)I"⟩
abbrev b_Rod_pay : ByteArray := prog_1_method_16_code
def y_Rod_pay : MethodName := ⟨R_Rod, "pay", "(I)I"⟩
abbrev b_Rod_rain : ByteArray := prog_1_method_17_code
def y_Rod_rain : MethodName := ⟨R_Rod, "rain", "(I)I"⟩
abbrev b_Rod_twitch : ByteArray := prog_1_method_18_code
def y_Rod_twitch : MethodName := ⟨R_Rod, "twitch", "(III)I"⟩
abbrev b_Rod_see : ByteArray := prog_1_method_19_code
def y_Rod_see : MethodName := ⟨R_Rod, "see", "(IIIZ)I"⟩
abbrev b_Rod_forget : ByteArray := prog_1_method_20_code
def y_Rod_forget : MethodName := ⟨R_Rod, "forget", "(I)I"⟩
abbrev b_Rod_natures : ByteArray := prog_1_method_21_code
def y_Rod_natures : MethodName := ⟨R_Rod, "natures", "()I"⟩
abbrev b_Rod_reaches : ByteArray := prog_1_method_22_code
def y_Rod_reaches : MethodName := ⟨R_Rod, "reaches", "(I)I"⟩
abbrev b_Rod_test : ByteArray := prog_1_method_23_code
def y_Rod_test : MethodName := ⟨R_Rod, "test", "(II)I"⟩
abbrev b_Rod_show : ByteArray := prog_1_method_24_code
def y_Rod_show : MethodName := ⟨R_Rod, "show", "(IIII)I"⟩
abbrev b_Rod_bore : ByteArray := prog_1_method_25_code
def y_Rod_bore : MethodName := ⟨R_Rod, "bore", "(III)I"⟩
abbrev b_Rod_plan : ByteArray := prog_1_method_26_code
def y_Rod_plan : MethodName := ⟨R_Rod, "plan", "(IIII)J"⟩
abbrev b_Rod_beds : ByteArray := prog_1_method_27_code
def y_Rod_beds : MethodName := ⟨R_Rod, "beds", "(I)I"⟩
abbrev b_Rod_next : ByteArray := prog_1_method_28_code
def y_Rod_next : MethodName := ⟨R_Rod, "next", "(II)I"⟩
abbrev b_Rod_crash : ByteArray := prog_1_method_29_code
def y_Rod_crash : MethodName := ⟨R_Rod, "crash", "(I)I"⟩
abbrev b_Rod_save : ByteArray := prog_1_method_30_code
def y_Rod_save : MethodName := ⟨R_Rod, "save", "(I)I"⟩
abbrev b_Rod_luck : ByteArray := prog_1_method_31_code
def y_Rod_luck : MethodName := ⟨R_Rod, "luck", "(II)I"⟩
abbrev b_Rod_keep : ByteArray := prog_1_method_32_code
def y_Rod_keep : MethodName := ⟨R_Rod, "keep", "(I)I"⟩
abbrev b_Rod_back : ByteArray := prog_1_method_33_code
def y_Rod_back : MethodName := ⟨R_Rod, "back", "(I)I"⟩
abbrev b_Rod_sheet : ByteArray := prog_1_method_34_code
def y_Rod_sheet : MethodName := ⟨R_Rod, "sheet", "(III)I"⟩
abbrev b_Rod_lay : ByteArray := prog_1_method_35_code
def y_Rod_lay : MethodName := ⟨R_Rod, "lay", "(III)I"⟩
abbrev b_Rod_read : ByteArray := prog_1_method_36_code
def y_Rod_read : MethodName := ⟨R_Rod, "read", "(IIII)I"⟩
abbrev b_Rod_torn : ByteArray := prog_1_method_37_code
def y_Rod_torn : MethodName := ⟨R_Rod, "torn", "()I"⟩
abbrev b_Rod_count : ByteArray := prog_1_method_38_code
def y_Rod_count : MethodName := ⟨R_Rod, "count", "(I)I"⟩
abbrev b_Rod_oneIf : ByteArray := prog_1_method_39_code
def y_Rod_oneIf : MethodName := ⟨R_Rod, "oneIf", "(Z)I"⟩
abbrev b_Rod_isOwner : ByteArray := prog_1_method_40_code
def y_Rod_isOwner : MethodName := ⟨R_Rod, "isOwner", "(I)Z"⟩
abbrev b_Rod_isDepth : ByteArray := prog_1_method_41_code
def y_Rod_isDepth : MethodName := ⟨R_Rod, "isDepth", "(I)Z"⟩
abbrev b_Rod_isNature : ByteArray := prog_1_method_42_code
def y_Rod_isNature : MethodName := ⟨R_Rod, "isNature", "(I)Z"⟩
abbrev b_Rod_isSheet : ByteArray := prog_1_method_43_code
def y_Rod_isSheet : MethodName := ⟨R_Rod, "isSheet", "(I)Z"⟩
abbrev b_Rod_isLane : ByteArray := prog_1_method_44_code
def y_Rod_isLane : MethodName := ⟨R_Rod, "isLane", "(I)Z"⟩
abbrev b_Rod_isSight : ByteArray := prog_1_method_45_code
def y_Rod_isSight : MethodName := ⟨R_Rod, "isSight", "(III)Z"⟩
abbrev b_Rod_natureOf : ByteArray := prog_1_method_46_code
def y_Rod_natureOf : MethodName := ⟨R_Rod, "natureOf", "(I)I"⟩
abbrev b_Rod_reachOf : ByteArray := prog_1_method_47_code
def y_Rod_reachOf : MethodName := ⟨R_Rod, "reachOf", "(I)I"⟩
abbrev b_Rod_reachBits : ByteArray := prog_1_method_48_code
def y_Rod_reachBits : MethodName := ⟨R_Rod, "reachBits", "(I)I"⟩
abbrev b_Rod_stirred : ByteArray := prog_1_method_49_code
def y_Rod_stirred : MethodName := ⟨R_Rod, "stirred", "(I)I"⟩
abbrev b_Rod_drawnBits : ByteArray := prog_1_method_50_code
def y_Rod_drawnBits : MethodName := ⟨R_Rod, "drawnBits", "(I)I"⟩
abbrev b_Mod_init : ByteArray := prog_13_method_1_code
def y_Mod_init : MethodName := ⟨R_Mod, "<init>", "()V"⟩
abbrev b_Mod_in : ByteArray := prog_13_method_3_code
def y_Mod_in : MethodName := ⟨R_Mod, "in", "(JJJ)Z"⟩
abbrev b_Mod_flag : ByteArray := prog_13_method_4_code
def y_Mod_flag : MethodName := ⟨R_Mod, "flag", "(Z)I"⟩
abbrev b_Mod_firstDraft : ByteArray := prog_13_method_5_code
def y_Mod_firstDraft : MethodName := ⟨R_Mod, "firstDraft", "()V"⟩
abbrev b_Mod_keepDraft : ByteArray := prog_13_method_6_code
def y_Mod_keepDraft : MethodName := ⟨R_Mod, "keepDraft", "()V"⟩
abbrev b_Mod_feed : ByteArray := prog_13_method_7_code
def y_Mod_feed : MethodName := ⟨R_Mod, "feed", "(I)I"⟩
abbrev b_Mod_end : ByteArray := prog_13_method_8_code
def y_Mod_end : MethodName := ⟨R_Mod, "end", "(I)I"⟩
abbrev b_Mod_needs : ByteArray := prog_13_method_9_code
def y_Mod_needs : MethodName := ⟨R_Mod, "needs", "(ZI)V"⟩
abbrev b_Mod_look : ByteArray := prog_13_method_10_code
def y_Mod_look : MethodName := ⟨R_Mod, "look", "(I)I"⟩
abbrev b_Mod_is : ByteArray := prog_13_method_11_code
def y_Mod_is : MethodName := ⟨R_Mod, "is", "(IIII)Z"⟩
abbrev b_Mod_ends : ByteArray := prog_13_method_12_code
def y_Mod_ends : MethodName := ⟨R_Mod, "ends", "(III)Z"⟩
abbrev b_Mod_ruleLine : ByteArray := prog_13_method_13_code
def y_Mod_ruleLine : MethodName := ⟨R_Mod, "ruleLine", "()I"⟩
abbrev b_Mod_lineNow : ByteArray := prog_13_method_14_code
def y_Mod_lineNow : MethodName := ⟨R_Mod, "lineNow", "()I"⟩
abbrev b_Mod_natureNow : ByteArray := prog_13_method_15_code
def y_Mod_natureNow : MethodName := ⟨R_Mod, "natureNow", "()I"⟩
abbrev b_Mod_next : ByteArray := prog_13_method_16_code
def y_Mod_next : MethodName := ⟨R_Mod, "next", "()V"⟩
abbrev b_Mod_looked : ByteArray := prog_13_method_17_code
def y_Mod_looked : MethodName := ⟨R_Mod, "looked", "(II)I"⟩
abbrev b_Mod_readNumber : ByteArray := prog_13_method_18_code
def y_Mod_readNumber : MethodName := ⟨R_Mod, "readNumber", "(II)I"⟩
abbrev b_Mod_readFresh : ByteArray := prog_13_method_19_code
def y_Mod_readFresh : MethodName := ⟨R_Mod, "readFresh", "(II)I"⟩
abbrev b_Mod_readRod : ByteArray := prog_13_method_20_code
def y_Mod_readRod : MethodName := ⟨R_Mod, "readRod", "()V"⟩
abbrev b_Mod_readDebt : ByteArray := prog_13_method_21_code
def y_Mod_readDebt : MethodName := ⟨R_Mod, "readDebt", "()V"⟩
abbrev b_Mod_readCellOf : ByteArray := prog_13_method_22_code
def y_Mod_readCellOf : MethodName := ⟨R_Mod, "readCellOf", "(I)V"⟩
abbrev b_Mod_readLineOf : ByteArray := prog_13_method_23_code
def y_Mod_readLineOf : MethodName := ⟨R_Mod, "readLineOf", "(I)V"⟩
abbrev b_Mod_readLine : ByteArray := prog_13_method_24_code
def y_Mod_readLine : MethodName := ⟨R_Mod, "readLine", "()V"⟩
abbrev b_Mod_text : ByteArray := prog_13_method_25_code
def y_Mod_text : MethodName := ⟨R_Mod, "text", "()I"⟩
abbrev b_Mod_fault : ByteArray := prog_13_method_26_code
def y_Mod_fault : MethodName := ⟨R_Mod, "fault", "()I"⟩
abbrev b_Mod_cellMany : ByteArray := prog_13_method_27_code
def y_Mod_cellMany : MethodName := ⟨R_Mod, "cellMany", "()I"⟩
abbrev b_Mod_isCell : ByteArray := prog_13_method_28_code
def y_Mod_isCell : MethodName := ⟨R_Mod, "isCell", "(I)Z"⟩
abbrev b_Mod_isOwner : ByteArray := prog_13_method_29_code
def y_Mod_isOwner : MethodName := ⟨R_Mod, "isOwner", "(I)Z"⟩
abbrev b_Mod_isWellBy : ByteArray := prog_13_method_30_code
def y_Mod_isWellBy : MethodName := ⟨R_Mod, "isWellBy", "(II)Z"⟩
abbrev b_Mod_isWell : ByteArray := prog_13_method_31_code
def y_Mod_isWell : MethodName := ⟨R_Mod, "isWell", "(I)Z"⟩
abbrev b_Mod_wells : ByteArray := prog_13_method_32_code
def y_Mod_wells : MethodName := ⟨R_Mod, "wells", "()I"⟩
abbrev b_Mod_rule : ByteArray := prog_13_method_33_code
def y_Mod_rule : MethodName := ⟨R_Mod, "rule", "(I)I"⟩
abbrev b_Mod_cell : ByteArray := prog_13_method_34_code
def y_Mod_cell : MethodName := ⟨R_Mod, "cell", "(II)I"⟩
abbrev b_Mod_purse : ByteArray := prog_13_method_35_code
def y_Mod_purse : MethodName := ⟨R_Mod, "purse", "(I)I"⟩
abbrev b_Mod_becomes : ByteArray := prog_13_method_36_code
def y_Mod_becomes : MethodName := ⟨R_Mod, "becomes", "(II)I"⟩
abbrev b_Mod_wet : ByteArray := prog_13_method_37_code
def y_Mod_wet : MethodName := ⟨R_Mod, "wet", "(II)I"⟩
abbrev b_Mod_iron : ByteArray := prog_13_method_38_code
def y_Mod_iron : MethodName := ⟨R_Mod, "iron", "(IZ)I"⟩
abbrev b_Mod_odd : ByteArray := prog_13_method_39_code
def y_Mod_odd : MethodName := ⟨R_Mod, "odd", "(II)I"⟩
abbrev b_Mod_claim : ByteArray := prog_13_method_40_code
def y_Mod_claim : MethodName := ⟨R_Mod, "claim", "(II)I"⟩
abbrev b_Mod_fund : ByteArray := prog_13_method_41_code
def y_Mod_fund : MethodName := ⟨R_Mod, "fund", "(II)I"⟩
abbrev b_Mod_cut : ByteArray := prog_13_method_42_code
def y_Mod_cut : MethodName := ⟨R_Mod, "cut", "(II)I"⟩
abbrev b_Mod_owe : ByteArray := prog_13_method_43_code
def y_Mod_owe : MethodName := ⟨R_Mod, "owe", "(III)I"⟩
abbrev b_Mod_pay : ByteArray := prog_13_method_44_code
def y_Mod_pay : MethodName := ⟨R_Mod, "pay", "(I)I"⟩
abbrev b_Mod_rain : ByteArray := prog_13_method_45_code
def y_Mod_rain : MethodName := ⟨R_Mod, "rain", "(I)I"⟩
abbrev b_Mod_doesTwitch : ByteArray := prog_13_method_46_code
def y_Mod_doesTwitch : MethodName := ⟨R_Mod, "doesTwitch", "(IIIII)Z"⟩
abbrev b_Mod_isSeen : ByteArray := prog_13_method_47_code
def y_Mod_isSeen : MethodName := ⟨R_Mod, "isSeen", "(III)Z"⟩
abbrev b_Mod_twitch : ByteArray := prog_13_method_48_code
def y_Mod_twitch : MethodName := ⟨R_Mod, "twitch", "(III)I"⟩
abbrev b_Mod_see : ByteArray := prog_13_method_49_code
def y_Mod_see : MethodName := ⟨R_Mod, "see", "(IIIZ)I"⟩
abbrev b_Mod_forget : ByteArray := prog_13_method_50_code
def y_Mod_forget : MethodName := ⟨R_Mod, "forget", "(I)I"⟩
abbrev b_Mod_doesFit : ByteArray := prog_13_method_51_code
def y_Mod_doesFit : MethodName := ⟨R_Mod, "doesFit", "(II)Z"⟩
abbrev b_Mod_reachesOf : ByteArray := prog_13_method_52_code
def y_Mod_reachesOf : MethodName := ⟨R_Mod, "reachesOf", "(I)I"⟩
abbrev b_Mod_natures : ByteArray := prog_13_method_53_code
def y_Mod_natures : MethodName := ⟨R_Mod, "natures", "()I"⟩
abbrev b_Mod_reaches : ByteArray := prog_13_method_54_code
def y_Mod_reaches : MethodName := ⟨R_Mod, "reaches", "(I)I"⟩
abbrev b_Mod_rodsBy : ByteArray := prog_13_method_55_code
def y_Mod_rodsBy : MethodName := ⟨R_Mod, "rodsBy", "(IIIZ)I"⟩
abbrev b_Mod_test : ByteArray := prog_13_method_56_code
def y_Mod_test : MethodName := ⟨R_Mod, "test", "(II)I"⟩
abbrev b_Mod_beside : ByteArray := prog_13_method_57_code
def y_Mod_beside : MethodName := ⟨R_Mod, "beside", "(II)I"⟩
abbrev b_Mod_showsIn : ByteArray := prog_13_method_58_code
def y_Mod_showsIn : MethodName := ⟨R_Mod, "showsIn", "(III)I"⟩
abbrev b_Mod_bestBeside : ByteArray := prog_13_method_59_code
def y_Mod_bestBeside : MethodName := ⟨R_Mod, "bestBeside", "(II)I"⟩
abbrev b_Mod_findShown : ByteArray := prog_13_method_60_code
def y_Mod_findShown : MethodName := ⟨R_Mod, "findShown", "(II)V"⟩
abbrev b_Mod_show : ByteArray := prog_13_method_61_code
def y_Mod_show : MethodName := ⟨R_Mod, "show", "(IIII)I"⟩
abbrev b_Mod_bore : ByteArray := prog_13_method_62_code
def y_Mod_bore : MethodName := ⟨R_Mod, "bore", "(III)I"⟩
abbrev b_Mod_meanOf : ByteArray := prog_13_method_63_code
def y_Mod_meanOf : MethodName := ⟨R_Mod, "meanOf", "(II)J"⟩
abbrev b_Mod_isFree : ByteArray := prog_13_method_64_code
def y_Mod_isFree : MethodName := ⟨R_Mod, "isFree", "(III)Z"⟩
abbrev b_Mod_plansOf : ByteArray := prog_13_method_65_code
def y_Mod_plansOf : MethodName := ⟨R_Mod, "plansOf", "(III)V"⟩
abbrev b_Mod_common : ByteArray := prog_13_method_66_code
def y_Mod_common : MethodName := ⟨R_Mod, "common", "(JJ)J"⟩
abbrev b_Mod_plan : ByteArray := prog_13_method_67_code
def y_Mod_plan : MethodName := ⟨R_Mod, "plan", "(IIII)J"⟩
abbrev b_Mod_addBed : ByteArray := prog_13_method_68_code
def y_Mod_addBed : MethodName := ⟨R_Mod, "addBed", "(III)V"⟩
abbrev b_Mod_findBeds : ByteArray := prog_13_method_69_code
def y_Mod_findBeds : MethodName := ⟨R_Mod, "findBeds", "()V"⟩
abbrev b_Mod_doesBedFit : ByteArray := prog_13_method_70_code
def y_Mod_doesBedFit : MethodName := ⟨R_Mod, "doesBedFit", "(II)Z"⟩
abbrev b_Mod_beds : ByteArray := prog_13_method_71_code
def y_Mod_beds : MethodName := ⟨R_Mod, "beds", "(I)I"⟩
abbrev b_Mod_bedsBy : ByteArray := prog_13_method_72_code
def y_Mod_bedsBy : MethodName := ⟨R_Mod, "bedsBy", "(IIZ)I"⟩
abbrev b_Mod_next_ : ByteArray := prog_13_method_73_code
def y_Mod_next_ : MethodName := ⟨R_Mod, "next", "(II)I"⟩
abbrev b_Mod_fails : ByteArray := prog_13_method_74_code
def y_Mod_fails : MethodName := ⟨R_Mod, "fails", "(II)Z"⟩
abbrev b_Mod_findCrash : ByteArray := prog_13_method_75_code
def y_Mod_findCrash : MethodName := ⟨R_Mod, "findCrash", "(II)I"⟩
abbrev b_Mod_crash : ByteArray := prog_13_method_76_code
def y_Mod_crash : MethodName := ⟨R_Mod, "crash", "(I)I"⟩
abbrev b_Mod_save : ByteArray := prog_13_method_77_code
def y_Mod_save : MethodName := ⟨R_Mod, "save", "(I)I"⟩
abbrev b_Mod_luck : ByteArray := prog_13_method_78_code
def y_Mod_luck : MethodName := ⟨R_Mod, "luck", "(II)I"⟩
abbrev b_Mod_copies : ByteArray := prog_13_method_79_code
def y_Mod_copies : MethodName := ⟨R_Mod, "copies", "(II)V"⟩
abbrev b_Mod_keep : ByteArray := prog_13_method_80_code
def y_Mod_keep : MethodName := ⟨R_Mod, "keep", "(I)I"⟩
abbrev b_Mod_back : ByteArray := prog_13_method_81_code
def y_Mod_back : MethodName := ⟨R_Mod, "back", "(I)I"⟩
abbrev b_Mod_isSheet : ByteArray := prog_13_method_82_code
def y_Mod_isSheet : MethodName := ⟨R_Mod, "isSheet", "(II)Z"⟩
abbrev b_Mod_sheet : ByteArray := prog_13_method_83_code
def y_Mod_sheet : MethodName := ⟨R_Mod, "sheet", "(III)I"⟩
abbrev b_Mod_lay : ByteArray := prog_13_method_84_code
def y_Mod_lay : MethodName := ⟨R_Mod, "lay", "(III)I"⟩
abbrev b_Mod_read : ByteArray := prog_13_method_85_code
def y_Mod_read : MethodName := ⟨R_Mod, "read", "(IIII)I"⟩
abbrev b_Mod_torn : ByteArray := prog_13_method_86_code
def y_Mod_torn : MethodName := ⟨R_Mod, "torn", "()I"⟩
abbrev b_Mod_count : ByteArray := prog_13_method_87_code
def y_Mod_count : MethodName := ⟨R_Mod, "count", "(I)I"⟩
/-- the words that every method takes: those of the tables that stay -/
def vv_G : List Cond := lw_tbl.filter goodWord
theorem vv_Gin {w : Cond} (h : w ∈ lw_tbl) (g : goodWord w = true) : w ∈ vv_G := List.mem_filter.mpr ⟨h, g⟩
theorem vv_GG : GoodIn vv_G vv_G := fun w h => ⟨h, good_of_word (List.mem_filter.mp h).2⟩
theorem i_Beds : ∀ w ∈ u_ws R_Beds T_Beds 8, w ∈ vv_G := by decide +kernel
theorem i_County : ∀ w ∈ u_ws R_County T_County 5, w ∈ vv_G := by decide +kernel
theorem i_Land : ∀ w ∈ u_ws R_Land T_Land 9, w ∈ vv_G := by decide +kernel
theorem i_Ledger : ∀ w ∈ u_ws R_Ledger T_Ledger 5, w ∈ vv_G := by decide +kernel
theorem i_Plans : ∀ w ∈ u_ws R_Plans T_Plans 3, w ∈ vv_G := by decide +kernel
theorem i_Reader : ∀ w ∈ u_ws R_Reader T_Reader 7, w ∈ vv_G := by decide +kernel
theorem i_Sheet : ∀ w ∈ u_ws R_Sheet T_Sheet 3, w ∈ vv_G := by decide +kernel
theorem i_Sights : ∀ w ∈ u_ws R_Sights T_Sights 5, w ∈ vv_G := by decide +kernel
theorem i_Tape : ∀ w ∈ u_ws R_Tape T_Tape 6, w ∈ vv_G := by decide +kernel
theorem i_Walks : ∀ w ∈ u_ws R_Walks T_Walks 2, w ∈ vv_G := by decide +kernel
theorem i_Rod : ∀ w ∈ u_ws R_Rod T_Rod 11, w ∈ vv_G := by decide +kernel
theorem i_Mod : ∀ w ∈ u_ws R_Mod T_Mod 37, w ∈ vv_G := by decide +kernel
end
section
/-! decode by the bytes at a place -/
def dcb (code : ByteArray) (pc n : Nat) : List Nat := ((code.data.toList.drop pc).take n).map UInt8.toNat
def dcA (code : ByteArray) (p n : Nat) : Prop := ∃ h : p < code.size, (code[p]'h).toNat = n
theorem dcb_at {code : ByteArray} {pc n i x : Nat} {l : List Nat} (h : dcb code pc n = l) (hi : l[i]? = some x) : dcA code (pc + i) x := by
  rw [← h] at hi
  unfold dcb at hi
  rw [List.getElem?_map] at hi
  obtain ⟨y, hy, e⟩ := Option.map_eq_some_iff.mp hi
  have hy2 : code.data.toList[pc + i]? = some y := by
    rw [List.getElem?_take] at hy
    split at hy
    · rw [List.getElem?_drop] at hy; exact hy
    · cases hy
  obtain ⟨h1, h2⟩ := List.getElem?_eq_some_iff.mp hy2
  refine ⟨h1, ?_⟩
  show (code.data.toList[pc + i]'h1).toNat = x
  rw [h2, e]
theorem dc_u1 {code : ByteArray} {p n : Nat} (h : dcA code p n) : (Reader.u1 : Decoder Nat) code p = .ok (n, p + 1) := by
  obtain ⟨h1, h2⟩ := h
  have e : (Reader.u1 : Decoder Nat) code p = (dite (p < code.size) (fun h => (fun (_ : ByteArray) (_ : Nat) => (Except.ok ((code[p]'h).toNat, p + 1) : Except DecodeError (Nat × Nat)))) (fun _ => fun _ _ => Except.error (HasTruncated.truncated p))) code p := rfl
  rw [e, dif_pos h1, h2]
theorem dc_u2 {code : ByteArray} {p a b : Nat} (ha : dcA code p a) (hb : dcA code (p + 1) b) : (Reader.u2 : Decoder Nat) code p = .ok (a * 256 + b, p + 2) := by
  show Except.bind ((Reader.u1 : Decoder Nat) code p) _ = _
  rw [dc_u1 ha]
  show Except.bind ((Reader.u1 : Decoder Nat) code (p + 1)) _ = _
  rw [dc_u1 hb]
  rfl
theorem dc_of {code : ByteArray} {pc n : Nat} {I : Instr} (e : Decoder.instr pc code pc = .ok (I, pc + n)) : decode code pc = .ok (I, n) := by
  show Except.bind (Decoder.instr pc code pc) _ = _
  rw [e]
  show Except.ok (I, pc + n - pc) = _
  rw [Nat.add_sub_cancel_left]
theorem dc_2 {code : ByteArray} {pc : Nat} (h : dcb code pc 1 = [2]) : decode code pc = .ok (.iconst (-1), 1) := dc_of (by
  show Except.bind ((Reader.u1 : Decoder Nat) code pc) _ = _
  rw [dc_u1 (p := pc) (dcb_at (i := 0) h rfl)]
  rfl)
theorem dc_3 {code : ByteArray} {pc : Nat} (h : dcb code pc 1 = [3]) : decode code pc = .ok (.iconst 0, 1) := dc_of (by
  show Except.bind ((Reader.u1 : Decoder Nat) code pc) _ = _
  rw [dc_u1 (p := pc) (dcb_at (i := 0) h rfl)]
  rfl)
theorem dc_4 {code : ByteArray} {pc : Nat} (h : dcb code pc 1 = [4]) : decode code pc = .ok (.iconst 1, 1) := dc_of (by
  show Except.bind ((Reader.u1 : Decoder Nat) code pc) _ = _
  rw [dc_u1 (p := pc) (dcb_at (i := 0) h rfl)]
  rfl)
theorem dc_5 {code : ByteArray} {pc : Nat} (h : dcb code pc 1 = [5]) : decode code pc = .ok (.iconst 2, 1) := dc_of (by
  show Except.bind ((Reader.u1 : Decoder Nat) code pc) _ = _
  rw [dc_u1 (p := pc) (dcb_at (i := 0) h rfl)]
  rfl)
theorem dc_6 {code : ByteArray} {pc : Nat} (h : dcb code pc 1 = [6]) : decode code pc = .ok (.iconst 3, 1) := dc_of (by
  show Except.bind ((Reader.u1 : Decoder Nat) code pc) _ = _
  rw [dc_u1 (p := pc) (dcb_at (i := 0) h rfl)]
  rfl)
theorem dc_7 {code : ByteArray} {pc : Nat} (h : dcb code pc 1 = [7]) : decode code pc = .ok (.iconst 4, 1) := dc_of (by
  show Except.bind ((Reader.u1 : Decoder Nat) code pc) _ = _
  rw [dc_u1 (p := pc) (dcb_at (i := 0) h rfl)]
  rfl)
theorem dc_8 {code : ByteArray} {pc : Nat} (h : dcb code pc 1 = [8]) : decode code pc = .ok (.iconst 5, 1) := dc_of (by
  show Except.bind ((Reader.u1 : Decoder Nat) code pc) _ = _
  rw [dc_u1 (p := pc) (dcb_at (i := 0) h rfl)]
  rfl)
theorem dc_9 {code : ByteArray} {pc : Nat} (h : dcb code pc 1 = [9]) : decode code pc = .ok (.lconst 0, 1) := dc_of (by
  show Except.bind ((Reader.u1 : Decoder Nat) code pc) _ = _
  rw [dc_u1 (p := pc) (dcb_at (i := 0) h rfl)]
  rfl)
theorem dc_10 {code : ByteArray} {pc : Nat} (h : dcb code pc 1 = [10]) : decode code pc = .ok (.lconst 1, 1) := dc_of (by
  show Except.bind ((Reader.u1 : Decoder Nat) code pc) _ = _
  rw [dc_u1 (p := pc) (dcb_at (i := 0) h rfl)]
  rfl)
theorem dc_16 {code : ByteArray} {pc a : Nat} {v : Int} (h : dcb code pc 2 = [16, a]) (e : Reader.signed 8 a = v) : decode code pc = .ok (.bipush v, 2) := dc_of (by
  subst e
  show Except.bind ((Reader.u1 : Decoder Nat) code pc) _ = _
  rw [dc_u1 (p := pc) (dcb_at (i := 0) h rfl)]
  show Except.bind ((Reader.s1 : Decoder Int) code (pc + 1)) _ = _
  rw [show (Reader.s1 : Decoder Int) code (pc + 1) = Except.map (fun q => (Reader.signed 8 q.1, q.2)) ((Reader.u1 : Decoder Nat) code (pc + 1)) from by show Except.bind _ _ = _; cases (Reader.u1 : Decoder Nat) code (pc + 1) <;> rfl, dc_u1 (p := pc + 1) (dcb_at (i := 1) h rfl)]
  rfl)
theorem dc_17 {code : ByteArray} {pc a b : Nat} {v : Int} (h : dcb code pc 3 = [17, a, b]) (e : Reader.signed 16 (a * 256 + b) = v) : decode code pc = .ok (.sipush v, 3) := dc_of (by
  subst e
  show Except.bind ((Reader.u1 : Decoder Nat) code pc) _ = _
  rw [dc_u1 (p := pc) (dcb_at (i := 0) h rfl)]
  show Except.bind ((Reader.s2 : Decoder Int) code (pc + 1)) _ = _
  rw [show (Reader.s2 : Decoder Int) code (pc + 1) = Except.map (fun q => (Reader.signed 16 q.1, q.2)) ((Reader.u2 : Decoder Nat) code (pc + 1)) from by show Except.bind _ _ = _; cases (Reader.u2 : Decoder Nat) code (pc + 1) <;> rfl, dc_u2 (p := pc + 1) (dcb_at (i := 1) h rfl) (dcb_at (i := 2) h rfl)]
  rfl)
theorem dc_18 {code : ByteArray} {pc a : Nat} {v : Nat} (h : dcb code pc 2 = [18, a]) (e : a = v) : decode code pc = .ok (.ldc v, 2) := dc_of (by
  subst e
  show Except.bind ((Reader.u1 : Decoder Nat) code pc) _ = _
  rw [dc_u1 (p := pc) (dcb_at (i := 0) h rfl)]
  show Except.bind ((Reader.u1 : Decoder Nat) code (pc + 1)) _ = _
  rw [dc_u1 (p := pc + 1) (dcb_at (i := 1) h rfl)]
  rfl)
theorem dc_19 {code : ByteArray} {pc a b : Nat} {v : Nat} (h : dcb code pc 3 = [19, a, b]) (e : a * 256 + b = v) : decode code pc = .ok (.ldc_w v, 3) := dc_of (by
  subst e
  show Except.bind ((Reader.u1 : Decoder Nat) code pc) _ = _
  rw [dc_u1 (p := pc) (dcb_at (i := 0) h rfl)]
  show Except.bind ((Reader.u2 : Decoder Nat) code (pc + 1)) _ = _
  rw [dc_u2 (p := pc + 1) (dcb_at (i := 1) h rfl) (dcb_at (i := 2) h rfl)]
  rfl)
theorem dc_20 {code : ByteArray} {pc a b : Nat} {v : Nat} (h : dcb code pc 3 = [20, a, b]) (e : a * 256 + b = v) : decode code pc = .ok (.ldc2_w v, 3) := dc_of (by
  subst e
  show Except.bind ((Reader.u1 : Decoder Nat) code pc) _ = _
  rw [dc_u1 (p := pc) (dcb_at (i := 0) h rfl)]
  show Except.bind ((Reader.u2 : Decoder Nat) code (pc + 1)) _ = _
  rw [dc_u2 (p := pc + 1) (dcb_at (i := 1) h rfl) (dcb_at (i := 2) h rfl)]
  rfl)
theorem dc_21 {code : ByteArray} {pc a : Nat} {v : Nat} (h : dcb code pc 2 = [21, a]) (e : a = v) : decode code pc = .ok (.iload v, 2) := dc_of (by
  subst e
  show Except.bind ((Reader.u1 : Decoder Nat) code pc) _ = _
  rw [dc_u1 (p := pc) (dcb_at (i := 0) h rfl)]
  show Except.bind ((Reader.u1 : Decoder Nat) code (pc + 1)) _ = _
  rw [dc_u1 (p := pc + 1) (dcb_at (i := 1) h rfl)]
  rfl)
theorem dc_22 {code : ByteArray} {pc a : Nat} {v : Nat} (h : dcb code pc 2 = [22, a]) (e : a = v) : decode code pc = .ok (.lload v, 2) := dc_of (by
  subst e
  show Except.bind ((Reader.u1 : Decoder Nat) code pc) _ = _
  rw [dc_u1 (p := pc) (dcb_at (i := 0) h rfl)]
  show Except.bind ((Reader.u1 : Decoder Nat) code (pc + 1)) _ = _
  rw [dc_u1 (p := pc + 1) (dcb_at (i := 1) h rfl)]
  rfl)
theorem dc_25 {code : ByteArray} {pc a : Nat} {v : Nat} (h : dcb code pc 2 = [25, a]) (e : a = v) : decode code pc = .ok (.aload v, 2) := dc_of (by
  subst e
  show Except.bind ((Reader.u1 : Decoder Nat) code pc) _ = _
  rw [dc_u1 (p := pc) (dcb_at (i := 0) h rfl)]
  show Except.bind ((Reader.u1 : Decoder Nat) code (pc + 1)) _ = _
  rw [dc_u1 (p := pc + 1) (dcb_at (i := 1) h rfl)]
  rfl)
theorem dc_26 {code : ByteArray} {pc : Nat} (h : dcb code pc 1 = [26]) : decode code pc = .ok (.iload_n 0, 1) := dc_of (by
  show Except.bind ((Reader.u1 : Decoder Nat) code pc) _ = _
  rw [dc_u1 (p := pc) (dcb_at (i := 0) h rfl)]
  rfl)
theorem dc_27 {code : ByteArray} {pc : Nat} (h : dcb code pc 1 = [27]) : decode code pc = .ok (.iload_n 1, 1) := dc_of (by
  show Except.bind ((Reader.u1 : Decoder Nat) code pc) _ = _
  rw [dc_u1 (p := pc) (dcb_at (i := 0) h rfl)]
  rfl)
theorem dc_28 {code : ByteArray} {pc : Nat} (h : dcb code pc 1 = [28]) : decode code pc = .ok (.iload_n 2, 1) := dc_of (by
  show Except.bind ((Reader.u1 : Decoder Nat) code pc) _ = _
  rw [dc_u1 (p := pc) (dcb_at (i := 0) h rfl)]
  rfl)
theorem dc_29 {code : ByteArray} {pc : Nat} (h : dcb code pc 1 = [29]) : decode code pc = .ok (.iload_n 3, 1) := dc_of (by
  show Except.bind ((Reader.u1 : Decoder Nat) code pc) _ = _
  rw [dc_u1 (p := pc) (dcb_at (i := 0) h rfl)]
  rfl)
theorem dc_30 {code : ByteArray} {pc : Nat} (h : dcb code pc 1 = [30]) : decode code pc = .ok (.lload_n 0, 1) := dc_of (by
  show Except.bind ((Reader.u1 : Decoder Nat) code pc) _ = _
  rw [dc_u1 (p := pc) (dcb_at (i := 0) h rfl)]
  rfl)
theorem dc_32 {code : ByteArray} {pc : Nat} (h : dcb code pc 1 = [32]) : decode code pc = .ok (.lload_n 2, 1) := dc_of (by
  show Except.bind ((Reader.u1 : Decoder Nat) code pc) _ = _
  rw [dc_u1 (p := pc) (dcb_at (i := 0) h rfl)]
  rfl)
theorem dc_33 {code : ByteArray} {pc : Nat} (h : dcb code pc 1 = [33]) : decode code pc = .ok (.lload_n 3, 1) := dc_of (by
  show Except.bind ((Reader.u1 : Decoder Nat) code pc) _ = _
  rw [dc_u1 (p := pc) (dcb_at (i := 0) h rfl)]
  rfl)
theorem dc_42 {code : ByteArray} {pc : Nat} (h : dcb code pc 1 = [42]) : decode code pc = .ok (.aload_n 0, 1) := dc_of (by
  show Except.bind ((Reader.u1 : Decoder Nat) code pc) _ = _
  rw [dc_u1 (p := pc) (dcb_at (i := 0) h rfl)]
  rfl)
theorem dc_43 {code : ByteArray} {pc : Nat} (h : dcb code pc 1 = [43]) : decode code pc = .ok (.aload_n 1, 1) := dc_of (by
  show Except.bind ((Reader.u1 : Decoder Nat) code pc) _ = _
  rw [dc_u1 (p := pc) (dcb_at (i := 0) h rfl)]
  rfl)
theorem dc_44 {code : ByteArray} {pc : Nat} (h : dcb code pc 1 = [44]) : decode code pc = .ok (.aload_n 2, 1) := dc_of (by
  show Except.bind ((Reader.u1 : Decoder Nat) code pc) _ = _
  rw [dc_u1 (p := pc) (dcb_at (i := 0) h rfl)]
  rfl)
theorem dc_45 {code : ByteArray} {pc : Nat} (h : dcb code pc 1 = [45]) : decode code pc = .ok (.aload_n 3, 1) := dc_of (by
  show Except.bind ((Reader.u1 : Decoder Nat) code pc) _ = _
  rw [dc_u1 (p := pc) (dcb_at (i := 0) h rfl)]
  rfl)
theorem dc_46 {code : ByteArray} {pc : Nat} (h : dcb code pc 1 = [46]) : decode code pc = .ok (.iaload, 1) := dc_of (by
  show Except.bind ((Reader.u1 : Decoder Nat) code pc) _ = _
  rw [dc_u1 (p := pc) (dcb_at (i := 0) h rfl)]
  rfl)
theorem dc_50 {code : ByteArray} {pc : Nat} (h : dcb code pc 1 = [50]) : decode code pc = .ok (.aaload, 1) := dc_of (by
  show Except.bind ((Reader.u1 : Decoder Nat) code pc) _ = _
  rw [dc_u1 (p := pc) (dcb_at (i := 0) h rfl)]
  rfl)
theorem dc_51 {code : ByteArray} {pc : Nat} (h : dcb code pc 1 = [51]) : decode code pc = .ok (.baload, 1) := dc_of (by
  show Except.bind ((Reader.u1 : Decoder Nat) code pc) _ = _
  rw [dc_u1 (p := pc) (dcb_at (i := 0) h rfl)]
  rfl)
theorem dc_54 {code : ByteArray} {pc a : Nat} {v : Nat} (h : dcb code pc 2 = [54, a]) (e : a = v) : decode code pc = .ok (.istore v, 2) := dc_of (by
  subst e
  show Except.bind ((Reader.u1 : Decoder Nat) code pc) _ = _
  rw [dc_u1 (p := pc) (dcb_at (i := 0) h rfl)]
  show Except.bind ((Reader.u1 : Decoder Nat) code (pc + 1)) _ = _
  rw [dc_u1 (p := pc + 1) (dcb_at (i := 1) h rfl)]
  rfl)
theorem dc_55 {code : ByteArray} {pc a : Nat} {v : Nat} (h : dcb code pc 2 = [55, a]) (e : a = v) : decode code pc = .ok (.lstore v, 2) := dc_of (by
  subst e
  show Except.bind ((Reader.u1 : Decoder Nat) code pc) _ = _
  rw [dc_u1 (p := pc) (dcb_at (i := 0) h rfl)]
  show Except.bind ((Reader.u1 : Decoder Nat) code (pc + 1)) _ = _
  rw [dc_u1 (p := pc + 1) (dcb_at (i := 1) h rfl)]
  rfl)
theorem dc_58 {code : ByteArray} {pc a : Nat} {v : Nat} (h : dcb code pc 2 = [58, a]) (e : a = v) : decode code pc = .ok (.astore v, 2) := dc_of (by
  subst e
  show Except.bind ((Reader.u1 : Decoder Nat) code pc) _ = _
  rw [dc_u1 (p := pc) (dcb_at (i := 0) h rfl)]
  show Except.bind ((Reader.u1 : Decoder Nat) code (pc + 1)) _ = _
  rw [dc_u1 (p := pc + 1) (dcb_at (i := 1) h rfl)]
  rfl)
theorem dc_59 {code : ByteArray} {pc : Nat} (h : dcb code pc 1 = [59]) : decode code pc = .ok (.istore_n 0, 1) := dc_of (by
  show Except.bind ((Reader.u1 : Decoder Nat) code pc) _ = _
  rw [dc_u1 (p := pc) (dcb_at (i := 0) h rfl)]
  rfl)
theorem dc_60 {code : ByteArray} {pc : Nat} (h : dcb code pc 1 = [60]) : decode code pc = .ok (.istore_n 1, 1) := dc_of (by
  show Except.bind ((Reader.u1 : Decoder Nat) code pc) _ = _
  rw [dc_u1 (p := pc) (dcb_at (i := 0) h rfl)]
  rfl)
theorem dc_61 {code : ByteArray} {pc : Nat} (h : dcb code pc 1 = [61]) : decode code pc = .ok (.istore_n 2, 1) := dc_of (by
  show Except.bind ((Reader.u1 : Decoder Nat) code pc) _ = _
  rw [dc_u1 (p := pc) (dcb_at (i := 0) h rfl)]
  rfl)
theorem dc_62 {code : ByteArray} {pc : Nat} (h : dcb code pc 1 = [62]) : decode code pc = .ok (.istore_n 3, 1) := dc_of (by
  show Except.bind ((Reader.u1 : Decoder Nat) code pc) _ = _
  rw [dc_u1 (p := pc) (dcb_at (i := 0) h rfl)]
  rfl)
theorem dc_66 {code : ByteArray} {pc : Nat} (h : dcb code pc 1 = [66]) : decode code pc = .ok (.lstore_n 3, 1) := dc_of (by
  show Except.bind ((Reader.u1 : Decoder Nat) code pc) _ = _
  rw [dc_u1 (p := pc) (dcb_at (i := 0) h rfl)]
  rfl)
theorem dc_76 {code : ByteArray} {pc : Nat} (h : dcb code pc 1 = [76]) : decode code pc = .ok (.astore_n 1, 1) := dc_of (by
  show Except.bind ((Reader.u1 : Decoder Nat) code pc) _ = _
  rw [dc_u1 (p := pc) (dcb_at (i := 0) h rfl)]
  rfl)
theorem dc_77 {code : ByteArray} {pc : Nat} (h : dcb code pc 1 = [77]) : decode code pc = .ok (.astore_n 2, 1) := dc_of (by
  show Except.bind ((Reader.u1 : Decoder Nat) code pc) _ = _
  rw [dc_u1 (p := pc) (dcb_at (i := 0) h rfl)]
  rfl)
theorem dc_78 {code : ByteArray} {pc : Nat} (h : dcb code pc 1 = [78]) : decode code pc = .ok (.astore_n 3, 1) := dc_of (by
  show Except.bind ((Reader.u1 : Decoder Nat) code pc) _ = _
  rw [dc_u1 (p := pc) (dcb_at (i := 0) h rfl)]
  rfl)
theorem dc_79 {code : ByteArray} {pc : Nat} (h : dcb code pc 1 = [79]) : decode code pc = .ok (.iastore, 1) := dc_of (by
  show Except.bind ((Reader.u1 : Decoder Nat) code pc) _ = _
  rw [dc_u1 (p := pc) (dcb_at (i := 0) h rfl)]
  rfl)
theorem dc_83 {code : ByteArray} {pc : Nat} (h : dcb code pc 1 = [83]) : decode code pc = .ok (.aastore, 1) := dc_of (by
  show Except.bind ((Reader.u1 : Decoder Nat) code pc) _ = _
  rw [dc_u1 (p := pc) (dcb_at (i := 0) h rfl)]
  rfl)
theorem dc_84 {code : ByteArray} {pc : Nat} (h : dcb code pc 1 = [84]) : decode code pc = .ok (.bastore, 1) := dc_of (by
  show Except.bind ((Reader.u1 : Decoder Nat) code pc) _ = _
  rw [dc_u1 (p := pc) (dcb_at (i := 0) h rfl)]
  rfl)
theorem dc_87 {code : ByteArray} {pc : Nat} (h : dcb code pc 1 = [87]) : decode code pc = .ok (.pop, 1) := dc_of (by
  show Except.bind ((Reader.u1 : Decoder Nat) code pc) _ = _
  rw [dc_u1 (p := pc) (dcb_at (i := 0) h rfl)]
  rfl)
theorem dc_88 {code : ByteArray} {pc : Nat} (h : dcb code pc 1 = [88]) : decode code pc = .ok (.pop2, 1) := dc_of (by
  show Except.bind ((Reader.u1 : Decoder Nat) code pc) _ = _
  rw [dc_u1 (p := pc) (dcb_at (i := 0) h rfl)]
  rfl)
theorem dc_89 {code : ByteArray} {pc : Nat} (h : dcb code pc 1 = [89]) : decode code pc = .ok (.dup, 1) := dc_of (by
  show Except.bind ((Reader.u1 : Decoder Nat) code pc) _ = _
  rw [dc_u1 (p := pc) (dcb_at (i := 0) h rfl)]
  rfl)
theorem dc_92 {code : ByteArray} {pc : Nat} (h : dcb code pc 1 = [92]) : decode code pc = .ok (.dup2, 1) := dc_of (by
  show Except.bind ((Reader.u1 : Decoder Nat) code pc) _ = _
  rw [dc_u1 (p := pc) (dcb_at (i := 0) h rfl)]
  rfl)
theorem dc_96 {code : ByteArray} {pc : Nat} (h : dcb code pc 1 = [96]) : decode code pc = .ok (.iadd, 1) := dc_of (by
  show Except.bind ((Reader.u1 : Decoder Nat) code pc) _ = _
  rw [dc_u1 (p := pc) (dcb_at (i := 0) h rfl)]
  rfl)
theorem dc_97 {code : ByteArray} {pc : Nat} (h : dcb code pc 1 = [97]) : decode code pc = .ok (.ladd, 1) := dc_of (by
  show Except.bind ((Reader.u1 : Decoder Nat) code pc) _ = _
  rw [dc_u1 (p := pc) (dcb_at (i := 0) h rfl)]
  rfl)
theorem dc_100 {code : ByteArray} {pc : Nat} (h : dcb code pc 1 = [100]) : decode code pc = .ok (.isub, 1) := dc_of (by
  show Except.bind ((Reader.u1 : Decoder Nat) code pc) _ = _
  rw [dc_u1 (p := pc) (dcb_at (i := 0) h rfl)]
  rfl)
theorem dc_101 {code : ByteArray} {pc : Nat} (h : dcb code pc 1 = [101]) : decode code pc = .ok (.lsub, 1) := dc_of (by
  show Except.bind ((Reader.u1 : Decoder Nat) code pc) _ = _
  rw [dc_u1 (p := pc) (dcb_at (i := 0) h rfl)]
  rfl)
theorem dc_104 {code : ByteArray} {pc : Nat} (h : dcb code pc 1 = [104]) : decode code pc = .ok (.imul, 1) := dc_of (by
  show Except.bind ((Reader.u1 : Decoder Nat) code pc) _ = _
  rw [dc_u1 (p := pc) (dcb_at (i := 0) h rfl)]
  rfl)
theorem dc_105 {code : ByteArray} {pc : Nat} (h : dcb code pc 1 = [105]) : decode code pc = .ok (.lmul, 1) := dc_of (by
  show Except.bind ((Reader.u1 : Decoder Nat) code pc) _ = _
  rw [dc_u1 (p := pc) (dcb_at (i := 0) h rfl)]
  rfl)
theorem dc_108 {code : ByteArray} {pc : Nat} (h : dcb code pc 1 = [108]) : decode code pc = .ok (.idiv, 1) := dc_of (by
  show Except.bind ((Reader.u1 : Decoder Nat) code pc) _ = _
  rw [dc_u1 (p := pc) (dcb_at (i := 0) h rfl)]
  rfl)
theorem dc_109 {code : ByteArray} {pc : Nat} (h : dcb code pc 1 = [109]) : decode code pc = .ok (.ldiv, 1) := dc_of (by
  show Except.bind ((Reader.u1 : Decoder Nat) code pc) _ = _
  rw [dc_u1 (p := pc) (dcb_at (i := 0) h rfl)]
  rfl)
theorem dc_112 {code : ByteArray} {pc : Nat} (h : dcb code pc 1 = [112]) : decode code pc = .ok (.irem, 1) := dc_of (by
  show Except.bind ((Reader.u1 : Decoder Nat) code pc) _ = _
  rw [dc_u1 (p := pc) (dcb_at (i := 0) h rfl)]
  rfl)
theorem dc_113 {code : ByteArray} {pc : Nat} (h : dcb code pc 1 = [113]) : decode code pc = .ok (.lrem, 1) := dc_of (by
  show Except.bind ((Reader.u1 : Decoder Nat) code pc) _ = _
  rw [dc_u1 (p := pc) (dcb_at (i := 0) h rfl)]
  rfl)
theorem dc_116 {code : ByteArray} {pc : Nat} (h : dcb code pc 1 = [116]) : decode code pc = .ok (.ineg, 1) := dc_of (by
  show Except.bind ((Reader.u1 : Decoder Nat) code pc) _ = _
  rw [dc_u1 (p := pc) (dcb_at (i := 0) h rfl)]
  rfl)
theorem dc_120 {code : ByteArray} {pc : Nat} (h : dcb code pc 1 = [120]) : decode code pc = .ok (.ishl, 1) := dc_of (by
  show Except.bind ((Reader.u1 : Decoder Nat) code pc) _ = _
  rw [dc_u1 (p := pc) (dcb_at (i := 0) h rfl)]
  rfl)
theorem dc_122 {code : ByteArray} {pc : Nat} (h : dcb code pc 1 = [122]) : decode code pc = .ok (.ishr, 1) := dc_of (by
  show Except.bind ((Reader.u1 : Decoder Nat) code pc) _ = _
  rw [dc_u1 (p := pc) (dcb_at (i := 0) h rfl)]
  rfl)
theorem dc_124 {code : ByteArray} {pc : Nat} (h : dcb code pc 1 = [124]) : decode code pc = .ok (.iushr, 1) := dc_of (by
  show Except.bind ((Reader.u1 : Decoder Nat) code pc) _ = _
  rw [dc_u1 (p := pc) (dcb_at (i := 0) h rfl)]
  rfl)
theorem dc_126 {code : ByteArray} {pc : Nat} (h : dcb code pc 1 = [126]) : decode code pc = .ok (.iand, 1) := dc_of (by
  show Except.bind ((Reader.u1 : Decoder Nat) code pc) _ = _
  rw [dc_u1 (p := pc) (dcb_at (i := 0) h rfl)]
  rfl)
theorem dc_128 {code : ByteArray} {pc : Nat} (h : dcb code pc 1 = [128]) : decode code pc = .ok (.ior, 1) := dc_of (by
  show Except.bind ((Reader.u1 : Decoder Nat) code pc) _ = _
  rw [dc_u1 (p := pc) (dcb_at (i := 0) h rfl)]
  rfl)
theorem dc_130 {code : ByteArray} {pc : Nat} (h : dcb code pc 1 = [130]) : decode code pc = .ok (.ixor, 1) := dc_of (by
  show Except.bind ((Reader.u1 : Decoder Nat) code pc) _ = _
  rw [dc_u1 (p := pc) (dcb_at (i := 0) h rfl)]
  rfl)
theorem dc_132 {code : ByteArray} {pc a b : Nat} {v : Int} (h : dcb code pc 3 = [132, a, b]) (e : Reader.signed 8 b = v) : decode code pc = .ok (.iinc a v, 3) := dc_of (by
  subst e
  show Except.bind ((Reader.u1 : Decoder Nat) code pc) _ = _
  rw [dc_u1 (p := pc) (dcb_at (i := 0) h rfl)]
  show Except.bind ((Reader.u1 : Decoder Nat) code (pc + 1)) _ = _
  rw [dc_u1 (p := pc + 1) (dcb_at (i := 1) h rfl)]
  show Except.bind ((Reader.s1 : Decoder Int) code (pc + 2)) _ = _
  rw [show (Reader.s1 : Decoder Int) code (pc + 2) = Except.map (fun q => (Reader.signed 8 q.1, q.2)) ((Reader.u1 : Decoder Nat) code (pc + 2)) from by show Except.bind _ _ = _; cases (Reader.u1 : Decoder Nat) code (pc + 2) <;> rfl, dc_u1 (p := pc + 2) (dcb_at (i := 2) h rfl)]
  rfl)
theorem dc_133 {code : ByteArray} {pc : Nat} (h : dcb code pc 1 = [133]) : decode code pc = .ok (.i2l, 1) := dc_of (by
  show Except.bind ((Reader.u1 : Decoder Nat) code pc) _ = _
  rw [dc_u1 (p := pc) (dcb_at (i := 0) h rfl)]
  rfl)
theorem dc_145 {code : ByteArray} {pc : Nat} (h : dcb code pc 1 = [145]) : decode code pc = .ok (.i2b, 1) := dc_of (by
  show Except.bind ((Reader.u1 : Decoder Nat) code pc) _ = _
  rw [dc_u1 (p := pc) (dcb_at (i := 0) h rfl)]
  rfl)
theorem dc_146 {code : ByteArray} {pc : Nat} (h : dcb code pc 1 = [146]) : decode code pc = .ok (.i2c, 1) := dc_of (by
  show Except.bind ((Reader.u1 : Decoder Nat) code pc) _ = _
  rw [dc_u1 (p := pc) (dcb_at (i := 0) h rfl)]
  rfl)
theorem dc_147 {code : ByteArray} {pc : Nat} (h : dcb code pc 1 = [147]) : decode code pc = .ok (.i2s, 1) := dc_of (by
  show Except.bind ((Reader.u1 : Decoder Nat) code pc) _ = _
  rw [dc_u1 (p := pc) (dcb_at (i := 0) h rfl)]
  rfl)
theorem dc_148 {code : ByteArray} {pc : Nat} (h : dcb code pc 1 = [148]) : decode code pc = .ok (.lcmp, 1) := dc_of (by
  show Except.bind ((Reader.u1 : Decoder Nat) code pc) _ = _
  rw [dc_u1 (p := pc) (dcb_at (i := 0) h rfl)]
  rfl)
theorem dc_153 {code : ByteArray} {pc a b : Nat} {v : Int} (h : dcb code pc 3 = [153, a, b]) (e : Reader.signed 16 (a * 256 + b) = v) : decode code pc = .ok (.ifCond .eq v, 3) := dc_of (by
  subst e
  show Except.bind ((Reader.u1 : Decoder Nat) code pc) _ = _
  rw [dc_u1 (p := pc) (dcb_at (i := 0) h rfl)]
  show Except.bind ((Reader.s2 : Decoder Int) code (pc + 1)) _ = _
  rw [show (Reader.s2 : Decoder Int) code (pc + 1) = Except.map (fun q => (Reader.signed 16 q.1, q.2)) ((Reader.u2 : Decoder Nat) code (pc + 1)) from by show Except.bind _ _ = _; cases (Reader.u2 : Decoder Nat) code (pc + 1) <;> rfl, dc_u2 (p := pc + 1) (dcb_at (i := 1) h rfl) (dcb_at (i := 2) h rfl)]
  rfl)
theorem dc_154 {code : ByteArray} {pc a b : Nat} {v : Int} (h : dcb code pc 3 = [154, a, b]) (e : Reader.signed 16 (a * 256 + b) = v) : decode code pc = .ok (.ifCond .ne v, 3) := dc_of (by
  subst e
  show Except.bind ((Reader.u1 : Decoder Nat) code pc) _ = _
  rw [dc_u1 (p := pc) (dcb_at (i := 0) h rfl)]
  show Except.bind ((Reader.s2 : Decoder Int) code (pc + 1)) _ = _
  rw [show (Reader.s2 : Decoder Int) code (pc + 1) = Except.map (fun q => (Reader.signed 16 q.1, q.2)) ((Reader.u2 : Decoder Nat) code (pc + 1)) from by show Except.bind _ _ = _; cases (Reader.u2 : Decoder Nat) code (pc + 1) <;> rfl, dc_u2 (p := pc + 1) (dcb_at (i := 1) h rfl) (dcb_at (i := 2) h rfl)]
  rfl)
theorem dc_155 {code : ByteArray} {pc a b : Nat} {v : Int} (h : dcb code pc 3 = [155, a, b]) (e : Reader.signed 16 (a * 256 + b) = v) : decode code pc = .ok (.ifCond .lt v, 3) := dc_of (by
  subst e
  show Except.bind ((Reader.u1 : Decoder Nat) code pc) _ = _
  rw [dc_u1 (p := pc) (dcb_at (i := 0) h rfl)]
  show Except.bind ((Reader.s2 : Decoder Int) code (pc + 1)) _ = _
  rw [show (Reader.s2 : Decoder Int) code (pc + 1) = Except.map (fun q => (Reader.signed 16 q.1, q.2)) ((Reader.u2 : Decoder Nat) code (pc + 1)) from by show Except.bind _ _ = _; cases (Reader.u2 : Decoder Nat) code (pc + 1) <;> rfl, dc_u2 (p := pc + 1) (dcb_at (i := 1) h rfl) (dcb_at (i := 2) h rfl)]
  rfl)
theorem dc_156 {code : ByteArray} {pc a b : Nat} {v : Int} (h : dcb code pc 3 = [156, a, b]) (e : Reader.signed 16 (a * 256 + b) = v) : decode code pc = .ok (.ifCond .ge v, 3) := dc_of (by
  subst e
  show Except.bind ((Reader.u1 : Decoder Nat) code pc) _ = _
  rw [dc_u1 (p := pc) (dcb_at (i := 0) h rfl)]
  show Except.bind ((Reader.s2 : Decoder Int) code (pc + 1)) _ = _
  rw [show (Reader.s2 : Decoder Int) code (pc + 1) = Except.map (fun q => (Reader.signed 16 q.1, q.2)) ((Reader.u2 : Decoder Nat) code (pc + 1)) from by show Except.bind _ _ = _; cases (Reader.u2 : Decoder Nat) code (pc + 1) <;> rfl, dc_u2 (p := pc + 1) (dcb_at (i := 1) h rfl) (dcb_at (i := 2) h rfl)]
  rfl)
theorem dc_157 {code : ByteArray} {pc a b : Nat} {v : Int} (h : dcb code pc 3 = [157, a, b]) (e : Reader.signed 16 (a * 256 + b) = v) : decode code pc = .ok (.ifCond .gt v, 3) := dc_of (by
  subst e
  show Except.bind ((Reader.u1 : Decoder Nat) code pc) _ = _
  rw [dc_u1 (p := pc) (dcb_at (i := 0) h rfl)]
  show Except.bind ((Reader.s2 : Decoder Int) code (pc + 1)) _ = _
  rw [show (Reader.s2 : Decoder Int) code (pc + 1) = Except.map (fun q => (Reader.signed 16 q.1, q.2)) ((Reader.u2 : Decoder Nat) code (pc + 1)) from by show Except.bind _ _ = _; cases (Reader.u2 : Decoder Nat) code (pc + 1) <;> rfl, dc_u2 (p := pc + 1) (dcb_at (i := 1) h rfl) (dcb_at (i := 2) h rfl)]
  rfl)
theorem dc_158 {code : ByteArray} {pc a b : Nat} {v : Int} (h : dcb code pc 3 = [158, a, b]) (e : Reader.signed 16 (a * 256 + b) = v) : decode code pc = .ok (.ifCond .le v, 3) := dc_of (by
  subst e
  show Except.bind ((Reader.u1 : Decoder Nat) code pc) _ = _
  rw [dc_u1 (p := pc) (dcb_at (i := 0) h rfl)]
  show Except.bind ((Reader.s2 : Decoder Int) code (pc + 1)) _ = _
  rw [show (Reader.s2 : Decoder Int) code (pc + 1) = Except.map (fun q => (Reader.signed 16 q.1, q.2)) ((Reader.u2 : Decoder Nat) code (pc + 1)) from by show Except.bind _ _ = _; cases (Reader.u2 : Decoder Nat) code (pc + 1) <;> rfl, dc_u2 (p := pc + 1) (dcb_at (i := 1) h rfl) (dcb_at (i := 2) h rfl)]
  rfl)
theorem dc_159 {code : ByteArray} {pc a b : Nat} {v : Int} (h : dcb code pc 3 = [159, a, b]) (e : Reader.signed 16 (a * 256 + b) = v) : decode code pc = .ok (.if_icmp .eq v, 3) := dc_of (by
  subst e
  show Except.bind ((Reader.u1 : Decoder Nat) code pc) _ = _
  rw [dc_u1 (p := pc) (dcb_at (i := 0) h rfl)]
  show Except.bind ((Reader.s2 : Decoder Int) code (pc + 1)) _ = _
  rw [show (Reader.s2 : Decoder Int) code (pc + 1) = Except.map (fun q => (Reader.signed 16 q.1, q.2)) ((Reader.u2 : Decoder Nat) code (pc + 1)) from by show Except.bind _ _ = _; cases (Reader.u2 : Decoder Nat) code (pc + 1) <;> rfl, dc_u2 (p := pc + 1) (dcb_at (i := 1) h rfl) (dcb_at (i := 2) h rfl)]
  rfl)
theorem dc_160 {code : ByteArray} {pc a b : Nat} {v : Int} (h : dcb code pc 3 = [160, a, b]) (e : Reader.signed 16 (a * 256 + b) = v) : decode code pc = .ok (.if_icmp .ne v, 3) := dc_of (by
  subst e
  show Except.bind ((Reader.u1 : Decoder Nat) code pc) _ = _
  rw [dc_u1 (p := pc) (dcb_at (i := 0) h rfl)]
  show Except.bind ((Reader.s2 : Decoder Int) code (pc + 1)) _ = _
  rw [show (Reader.s2 : Decoder Int) code (pc + 1) = Except.map (fun q => (Reader.signed 16 q.1, q.2)) ((Reader.u2 : Decoder Nat) code (pc + 1)) from by show Except.bind _ _ = _; cases (Reader.u2 : Decoder Nat) code (pc + 1) <;> rfl, dc_u2 (p := pc + 1) (dcb_at (i := 1) h rfl) (dcb_at (i := 2) h rfl)]
  rfl)
theorem dc_161 {code : ByteArray} {pc a b : Nat} {v : Int} (h : dcb code pc 3 = [161, a, b]) (e : Reader.signed 16 (a * 256 + b) = v) : decode code pc = .ok (.if_icmp .lt v, 3) := dc_of (by
  subst e
  show Except.bind ((Reader.u1 : Decoder Nat) code pc) _ = _
  rw [dc_u1 (p := pc) (dcb_at (i := 0) h rfl)]
  show Except.bind ((Reader.s2 : Decoder Int) code (pc + 1)) _ = _
  rw [show (Reader.s2 : Decoder Int) code (pc + 1) = Except.map (fun q => (Reader.signed 16 q.1, q.2)) ((Reader.u2 : Decoder Nat) code (pc + 1)) from by show Except.bind _ _ = _; cases (Reader.u2 : Decoder Nat) code (pc + 1) <;> rfl, dc_u2 (p := pc + 1) (dcb_at (i := 1) h rfl) (dcb_at (i := 2) h rfl)]
  rfl)
theorem dc_162 {code : ByteArray} {pc a b : Nat} {v : Int} (h : dcb code pc 3 = [162, a, b]) (e : Reader.signed 16 (a * 256 + b) = v) : decode code pc = .ok (.if_icmp .ge v, 3) := dc_of (by
  subst e
  show Except.bind ((Reader.u1 : Decoder Nat) code pc) _ = _
  rw [dc_u1 (p := pc) (dcb_at (i := 0) h rfl)]
  show Except.bind ((Reader.s2 : Decoder Int) code (pc + 1)) _ = _
  rw [show (Reader.s2 : Decoder Int) code (pc + 1) = Except.map (fun q => (Reader.signed 16 q.1, q.2)) ((Reader.u2 : Decoder Nat) code (pc + 1)) from by show Except.bind _ _ = _; cases (Reader.u2 : Decoder Nat) code (pc + 1) <;> rfl, dc_u2 (p := pc + 1) (dcb_at (i := 1) h rfl) (dcb_at (i := 2) h rfl)]
  rfl)
theorem dc_163 {code : ByteArray} {pc a b : Nat} {v : Int} (h : dcb code pc 3 = [163, a, b]) (e : Reader.signed 16 (a * 256 + b) = v) : decode code pc = .ok (.if_icmp .gt v, 3) := dc_of (by
  subst e
  show Except.bind ((Reader.u1 : Decoder Nat) code pc) _ = _
  rw [dc_u1 (p := pc) (dcb_at (i := 0) h rfl)]
  show Except.bind ((Reader.s2 : Decoder Int) code (pc + 1)) _ = _
  rw [show (Reader.s2 : Decoder Int) code (pc + 1) = Except.map (fun q => (Reader.signed 16 q.1, q.2)) ((Reader.u2 : Decoder Nat) code (pc + 1)) from by show Except.bind _ _ = _; cases (Reader.u2 : Decoder Nat) code (pc + 1) <;> rfl, dc_u2 (p := pc + 1) (dcb_at (i := 1) h rfl) (dcb_at (i := 2) h rfl)]
  rfl)
theorem dc_164 {code : ByteArray} {pc a b : Nat} {v : Int} (h : dcb code pc 3 = [164, a, b]) (e : Reader.signed 16 (a * 256 + b) = v) : decode code pc = .ok (.if_icmp .le v, 3) := dc_of (by
  subst e
  show Except.bind ((Reader.u1 : Decoder Nat) code pc) _ = _
  rw [dc_u1 (p := pc) (dcb_at (i := 0) h rfl)]
  show Except.bind ((Reader.s2 : Decoder Int) code (pc + 1)) _ = _
  rw [show (Reader.s2 : Decoder Int) code (pc + 1) = Except.map (fun q => (Reader.signed 16 q.1, q.2)) ((Reader.u2 : Decoder Nat) code (pc + 1)) from by show Except.bind _ _ = _; cases (Reader.u2 : Decoder Nat) code (pc + 1) <;> rfl, dc_u2 (p := pc + 1) (dcb_at (i := 1) h rfl) (dcb_at (i := 2) h rfl)]
  rfl)
theorem dc_167 {code : ByteArray} {pc a b : Nat} {v : Int} (h : dcb code pc 3 = [167, a, b]) (e : Reader.signed 16 (a * 256 + b) = v) : decode code pc = .ok (.goto v, 3) := dc_of (by
  subst e
  show Except.bind ((Reader.u1 : Decoder Nat) code pc) _ = _
  rw [dc_u1 (p := pc) (dcb_at (i := 0) h rfl)]
  show Except.bind ((Reader.s2 : Decoder Int) code (pc + 1)) _ = _
  rw [show (Reader.s2 : Decoder Int) code (pc + 1) = Except.map (fun q => (Reader.signed 16 q.1, q.2)) ((Reader.u2 : Decoder Nat) code (pc + 1)) from by show Except.bind _ _ = _; cases (Reader.u2 : Decoder Nat) code (pc + 1) <;> rfl, dc_u2 (p := pc + 1) (dcb_at (i := 1) h rfl) (dcb_at (i := 2) h rfl)]
  rfl)
theorem dc_172 {code : ByteArray} {pc : Nat} (h : dcb code pc 1 = [172]) : decode code pc = .ok (.ireturn, 1) := dc_of (by
  show Except.bind ((Reader.u1 : Decoder Nat) code pc) _ = _
  rw [dc_u1 (p := pc) (dcb_at (i := 0) h rfl)]
  rfl)
theorem dc_173 {code : ByteArray} {pc : Nat} (h : dcb code pc 1 = [173]) : decode code pc = .ok (.lreturn, 1) := dc_of (by
  show Except.bind ((Reader.u1 : Decoder Nat) code pc) _ = _
  rw [dc_u1 (p := pc) (dcb_at (i := 0) h rfl)]
  rfl)
theorem dc_176 {code : ByteArray} {pc : Nat} (h : dcb code pc 1 = [176]) : decode code pc = .ok (.areturn, 1) := dc_of (by
  show Except.bind ((Reader.u1 : Decoder Nat) code pc) _ = _
  rw [dc_u1 (p := pc) (dcb_at (i := 0) h rfl)]
  rfl)
theorem dc_177 {code : ByteArray} {pc : Nat} (h : dcb code pc 1 = [177]) : decode code pc = .ok (.return_, 1) := dc_of (by
  show Except.bind ((Reader.u1 : Decoder Nat) code pc) _ = _
  rw [dc_u1 (p := pc) (dcb_at (i := 0) h rfl)]
  rfl)
theorem dc_178 {code : ByteArray} {pc a b : Nat} {v : Nat} (h : dcb code pc 3 = [178, a, b]) (e : a * 256 + b = v) : decode code pc = .ok (.getstatic v, 3) := dc_of (by
  subst e
  show Except.bind ((Reader.u1 : Decoder Nat) code pc) _ = _
  rw [dc_u1 (p := pc) (dcb_at (i := 0) h rfl)]
  show Except.bind ((Reader.u2 : Decoder Nat) code (pc + 1)) _ = _
  rw [dc_u2 (p := pc + 1) (dcb_at (i := 1) h rfl) (dcb_at (i := 2) h rfl)]
  rfl)
theorem dc_180 {code : ByteArray} {pc a b : Nat} {v : Nat} (h : dcb code pc 3 = [180, a, b]) (e : a * 256 + b = v) : decode code pc = .ok (.getfield v, 3) := dc_of (by
  subst e
  show Except.bind ((Reader.u1 : Decoder Nat) code pc) _ = _
  rw [dc_u1 (p := pc) (dcb_at (i := 0) h rfl)]
  show Except.bind ((Reader.u2 : Decoder Nat) code (pc + 1)) _ = _
  rw [dc_u2 (p := pc + 1) (dcb_at (i := 1) h rfl) (dcb_at (i := 2) h rfl)]
  rfl)
theorem dc_181 {code : ByteArray} {pc a b : Nat} {v : Nat} (h : dcb code pc 3 = [181, a, b]) (e : a * 256 + b = v) : decode code pc = .ok (.putfield v, 3) := dc_of (by
  subst e
  show Except.bind ((Reader.u1 : Decoder Nat) code pc) _ = _
  rw [dc_u1 (p := pc) (dcb_at (i := 0) h rfl)]
  show Except.bind ((Reader.u2 : Decoder Nat) code (pc + 1)) _ = _
  rw [dc_u2 (p := pc + 1) (dcb_at (i := 1) h rfl) (dcb_at (i := 2) h rfl)]
  rfl)
theorem dc_182 {code : ByteArray} {pc a b : Nat} {v : Nat} (h : dcb code pc 3 = [182, a, b]) (e : a * 256 + b = v) : decode code pc = .ok (.invokevirtual v, 3) := dc_of (by
  subst e
  show Except.bind ((Reader.u1 : Decoder Nat) code pc) _ = _
  rw [dc_u1 (p := pc) (dcb_at (i := 0) h rfl)]
  show Except.bind ((Reader.u2 : Decoder Nat) code (pc + 1)) _ = _
  rw [dc_u2 (p := pc + 1) (dcb_at (i := 1) h rfl) (dcb_at (i := 2) h rfl)]
  rfl)
theorem dc_183 {code : ByteArray} {pc a b : Nat} {v : Nat} (h : dcb code pc 3 = [183, a, b]) (e : a * 256 + b = v) : decode code pc = .ok (.invokespecial v, 3) := dc_of (by
  subst e
  show Except.bind ((Reader.u1 : Decoder Nat) code pc) _ = _
  rw [dc_u1 (p := pc) (dcb_at (i := 0) h rfl)]
  show Except.bind ((Reader.u2 : Decoder Nat) code (pc + 1)) _ = _
  rw [dc_u2 (p := pc + 1) (dcb_at (i := 1) h rfl) (dcb_at (i := 2) h rfl)]
  rfl)
theorem dc_184 {code : ByteArray} {pc a b : Nat} {v : Nat} (h : dcb code pc 3 = [184, a, b]) (e : a * 256 + b = v) : decode code pc = .ok (.invokestatic v, 3) := dc_of (by
  subst e
  show Except.bind ((Reader.u1 : Decoder Nat) code pc) _ = _
  rw [dc_u1 (p := pc) (dcb_at (i := 0) h rfl)]
  show Except.bind ((Reader.u2 : Decoder Nat) code (pc + 1)) _ = _
  rw [dc_u2 (p := pc + 1) (dcb_at (i := 1) h rfl) (dcb_at (i := 2) h rfl)]
  rfl)
theorem dc_187 {code : ByteArray} {pc a b : Nat} {v : Nat} (h : dcb code pc 3 = [187, a, b]) (e : a * 256 + b = v) : decode code pc = .ok (.new v, 3) := dc_of (by
  subst e
  show Except.bind ((Reader.u1 : Decoder Nat) code pc) _ = _
  rw [dc_u1 (p := pc) (dcb_at (i := 0) h rfl)]
  show Except.bind ((Reader.u2 : Decoder Nat) code (pc + 1)) _ = _
  rw [dc_u2 (p := pc + 1) (dcb_at (i := 1) h rfl) (dcb_at (i := 2) h rfl)]
  rfl)
theorem dc_189 {code : ByteArray} {pc a b : Nat} {v : Nat} (h : dcb code pc 3 = [189, a, b]) (e : a * 256 + b = v) : decode code pc = .ok (.anewarray v, 3) := dc_of (by
  subst e
  show Except.bind ((Reader.u1 : Decoder Nat) code pc) _ = _
  rw [dc_u1 (p := pc) (dcb_at (i := 0) h rfl)]
  show Except.bind ((Reader.u2 : Decoder Nat) code (pc + 1)) _ = _
  rw [dc_u2 (p := pc + 1) (dcb_at (i := 1) h rfl) (dcb_at (i := 2) h rfl)]
  rfl)
theorem dc_190 {code : ByteArray} {pc : Nat} (h : dcb code pc 1 = [190]) : decode code pc = .ok (.arraylength, 1) := dc_of (by
  show Except.bind ((Reader.u1 : Decoder Nat) code pc) _ = _
  rw [dc_u1 (p := pc) (dcb_at (i := 0) h rfl)]
  rfl)
end
section
abbrev Hp : Type := (Nat → Nat → Int32) × Int64
abbrev Sl : Type := Nat ⊕ Bool
abbrev Sk : Type := (Nat × Nat × Option (List Nat)) ⊕ (Nat × List Sl)
abbrev Xc : Type := va_G × (Nat → Nat) × (Nat → ClassId)
abbrev Pl : Type := List (Option Value)
def vv_ar (n : Nat) : Sk := .inl (0, n, none)
/-- a county at place k: 17 places -/
def vv_cty (k : Nat) : List Sk := [.inr (1, [.inl (k + 1), .inl (k + 7), .inl (k + 12), .inr false, .inr false]), .inr (2, [.inr false, .inr false, .inr false, .inr false, .inl (k + 2), .inl (k + 3), .inl (k + 4), .inl (k + 5), .inl (k + 6)]), vv_ar 16, vv_ar 16, vv_ar 16, vv_ar 16, vv_ar 16, .inr (3, [.inl (k + 8), .inl (k + 9), .inl (k + 10), .inl (k + 11), .inr false]), vv_ar 4, vv_ar 8, vv_ar 8, vv_ar 8, .inr (7, [.inl (k + 13), .inl (k + 14), .inl (k + 15), .inl (k + 16), .inr false]), vv_ar 8, vv_ar 8, vv_ar 8, vv_ar 8]
def vv_sk : List Sk := vv_cty 0 ++ vv_cty 17 ++ vv_cty 34 ++ vv_cty 51 ++ vv_cty 68 ++ [.inr (10, [.inl 0, .inl 17, .inl 86, .inl 87, .inl 88, .inl 89, .inl 93, .inl 102, .inl 104, .inl 107, .inr false]), .inl (3, 2, some [34, 51]), .inl (2, 2, none), .inr (5, [.inl 89, .inl 68, .inl 91, .inl 92, .inr false, .inr false, .inr false]), .inr (8, [.inl 90, .inr false, .inr false, .inr false, .inr false, .inr false]), .inl (1, 160, none), vv_ar 3, vv_ar 10, .inr (9, [.inl 94, .inl 101]), .inl (5, 6, some [95, 96, 97, 98, 99, 100]), vv_ar 16, vv_ar 16, vv_ar 16, vv_ar 16, vv_ar 16, vv_ar 16, vv_ar 6, .inr (4, [.inl 103, .inr false, .inr false]), vv_ar 4, .inr (0, [.inl 105, .inr false, .inl 106, .inr false, .inr false, .inr false, .inr false, .inr false]), vv_ar 48, vv_ar 10, .inl (4, 4, some [108, 110, 112, 114]), .inr (6, [.inl 109, .inr false, .inr false]), vv_ar 40, .inr (6, [.inl 111, .inr false, .inr false]), vv_ar 40, .inr (6, [.inl 113, .inr false, .inr false]), vv_ar 40, .inr (6, [.inl 115, .inr false, .inr false]), vv_ar 40, .inr (11, [.inl 117, .inl 118, .inr false, .inr false, .inr false, .inr false, .inl 119, .inr false, .inr false, .inr false, .inr false, .inr false, .inl 120, .inr false, .inl 121, .inr false, .inr false, .inr false, .inr false, .inr false, .inr false, .inr false, .inl 122, .inl 123, .inl 124, .inr false, .inr true, .inl 125, .inr false, .inl 126, .inr false, .inl 127, .inl 128, .inl 129, .inl 130, .inr false, .inl 131]), vv_ar 432, .inl (2, 2, none), vv_ar 144, vv_ar 6, vv_ar 160, vv_ar 128, vv_ar 4, vv_ar 4, vv_ar 48, vv_ar 4, vv_ar 16, vv_ar 4, vv_ar 4, vv_ar 160, vv_ar 20]
theorem vv_skN : vv_sk.length = 132 := by decide +kernel
def rv (ad : Nat → Nat) (v : Value) : Value := match v with
  | .ref k => .ref (ad k)
  | w => w
theorem rv_cat (ad : Nat → Nat) (v : Value) : (rv ad v).category = v.category := by cases v <;> rfl
/-- what a slot holds, by places -/
def slP (h : Hp) (k i : Nat) (sl : Sl) : Value := match sl with
  | .inl r => .ref r
  | .inr false => .int (h.1 k i)
  | .inr true => .long h.2
def clE (X : Xc) (h : Hp) (k : Nat) (q : Sk) : va_E := match q with
  | .inl (t, n, none) => .inl (X.2.2 t, n, .inl (h.1 k))
  | .inl (t, n, some f) => .inl (X.2.2 t, n, .inr (.inr (.inr (.inr (fun j => (f[j]?).map X.2.1)))))
  | .inr (ci, ss) => .inr (ci, ss.mapIdx (fun i sl => rv X.2.1 (slP h k i sl)))
def wsX (X : Xc) (h : Hp) : va_W := vv_sk.mapIdx (fun k q => (X.2.1 k, clE X h k q))
def tysX (X : Xc) : List (ClassId × FieldType) := [(X.2.2 0, .int), (X.2.2 1, .byte), (X.2.2 2, .boolean), (X.2.2 3, .object "RodOwes$County"), (X.2.2 4, .object "RodOwes$Sheet"), (X.2.2 5, .array .int)]
theorem wsX_get {X : Xc} {h : Hp} {k : Nat} {q : Sk} (hs : vv_sk[k]? = some q) : (wsX X h)[k]? = some (X.2.1 k, clE X h k q) := by
  unfold wsX
  rw [List.getElem?_mapIdx, hs]
  rfl
theorem wsX_inv {X : Xc} {h : Hp} {k : Nat} {q : Nat × va_E} (hs : (wsX X h)[k]? = some q) : k < 132 ∧ q.1 = X.2.1 k := by
  unfold wsX at hs
  rw [List.getElem?_mapIdx] at hs
  cases hq : vv_sk[k]? with
  | none => rw [hq] at hs; cases hs
  | some z =>
    rw [hq] at hs
    cases hs
    exact ⟨by have := (List.getElem?_eq_some_iff.mp hq).1; rw [vv_skN] at this; exact this, rfl⟩
def adOk (X : Xc) (A : Nat → Prop) : Prop := (∀ i j : Nat, i < 132 → j < 132 → X.2.1 i = X.2.1 j → i = j) ∧ ∀ k : Nat, k < 132 → A (X.2.1 k)
theorem adOk.D {X : Xc} {A : Nat → Prop} (h : adOk X A) (g : Hp) : va_D A (wsX X g) := by
  refine ⟨fun i j p q hi hj e => ?_, fun k q hk => ?_⟩
  · obtain ⟨a1, a2⟩ := wsX_inv hi
    obtain ⟨b1, b2⟩ := wsX_inv hj
    exact h.1 i j a1 b1 (by rw [← a2, ← b2]; exact e)
  · obtain ⟨a1, a2⟩ := wsX_inv hk
    rw [a2]
    exact h.2 k a1
/-- a row of a place replaced; one element; the long -/
def pR (h : Hp) (k : Nat) (f : Nat → Int32) : Hp := (fun a => if a = k then f else h.1 a, h.2)
def pI (h : Hp) (k i : Nat) (x : Int32) : Hp := pR h k (upd (h.1 k) i x)
def pL (h : Hp) (x : Int64) : Hp := (h.1, x)
theorem pR_eq (h : Hp) (k : Nat) (f : Nat → Int32) : (pR h k f).1 k = f := if_pos rfl
theorem pR_ne {h : Hp} {k j : Nat} {f : Nat → Int32} (e : j ≠ k) : (pR h k f).1 j = h.1 j := if_neg e
theorem pI_eq (h : Hp) (k i : Nat) (x : Int32) : (pI h k i x).1 k i = x := by rw [pI, pR_eq]; exact if_pos rfl
theorem pI_ne {h : Hp} {k j i : Nat} {x : Int32} (e : j ≠ k) : (pI h k i x).1 j = h.1 j := if_neg e
theorem pI_nei {h : Hp} {k i j : Nat} {x : Int32} (e : j ≠ i) : (pI h k i x).1 k j = h.1 k j := by rw [pI, pR_eq]; exact if_neg e
theorem clE_ne {X : Xc} {h : Hp} {k j : Nat} {f : Nat → Int32} (q : Sk) (e : j ≠ k) : clE X (pR h k f) j q = clE X h j q := by
  have e1 : (pR h k f).1 j = h.1 j := pR_ne e
  match q with
  | .inl (t, n, none) => simp only [clE, e1]
  | .inl (t, n, some f) => rfl
  | .inr (ci, ss) =>
    have e2 : (fun (i : Nat) (sl : Sl) => rv X.2.1 (slP (pR h k f) j i sl)) = (fun (i : Nat) (sl : Sl) => rv X.2.1 (slP h j i sl)) := by
      funext i sl
      match sl with
      | .inl r => rfl
      | .inr false => simp only [slP, e1]
      | .inr true => rfl
    simp only [clE, e2]
theorem wsX_upd {X : Xc} {h : Hp} {k : Nat} {q : Sk} {f : Nat → Int32} {E : va_E} (hs : vv_sk[k]? = some q) (hE : E = clE X (pR h k f) k q) : (wsX X h).set k (X.2.1 k, E) = wsX X (pR h k f) := by
  apply List.ext_getElem?
  intro j
  by_cases hj : j = k
  · subst hj
    rw [wsX_get (h := pR h j f) hs, hE]
    have hl : j < (wsX X h).length := by
      have := (List.getElem?_eq_some_iff.mp (wsX_get (X := X) (h := h) hs)).1
      exact this
    rw [List.getElem?_set_self hl]
  · rw [List.getElem?_set_ne (fun e => hj e.symm)]
    unfold wsX
    rw [List.getElem?_mapIdx, List.getElem?_mapIdx]
    cases hq : vv_sk[j]? with
    | none => rfl
    | some z =>
      show some (X.2.1 j, clE X h j z) = some (X.2.1 j, clE X (pR h k f) j z)
      rw [clE_ne z hj]
theorem wsX_row {X : Xc} {h : Hp} {k t n : Nat} {f : Nat → Int32} (hs : vv_sk[k]? = some (.inl (t, n, none))) : (wsX X h).set k (X.2.1 k, .inl (X.2.2 t, n, .inl f)) = wsX X (pR h k f) :=
  wsX_upd hs (by simp only [clE, pR_eq])
theorem wsX_fld {X : Xc} {h : Hp} {k ci i : Nat} {ss : List Sl} {x : Int32} (hs : vv_sk[k]? = some (.inr (ci, ss))) (hi : ss[i]? = some (.inr false)) : (wsX X h).set k (X.2.1 k, .inr (ci, (ss.mapIdx (fun i sl => rv X.2.1 (slP h k i sl))).set i (.int x))) = wsX X (pI h k i x) := by
  refine wsX_upd hs ?_
  simp only [clE]
  congr 2
  apply List.ext_getElem?
  intro j
  by_cases hj : j = i
  · subst hj
    have hl : j < (ss.mapIdx (fun i sl => rv X.2.1 (slP h k i sl))).length := by
      rw [List.length_mapIdx]
      exact (List.getElem?_eq_some_iff.mp hi).1
    rw [List.getElem?_set_self hl, List.getElem?_mapIdx, hi]
    show some _ = some _
    have : (pR h k (upd (h.1 k) j x)).1 k j = x := by rw [pR_eq]; exact if_pos rfl
    simp only [slP, rv, this]
  · rw [List.getElem?_set_ne (fun e => hj e.symm), List.getElem?_mapIdx, List.getElem?_mapIdx]
    cases hq : ss[j]? with
    | none => rfl
    | some z =>
      show some _ = some _
      have : (pR h k (upd (h.1 k) i x)).1 k j = h.1 k j := by rw [pR_eq]; exact if_neg hj
      match z with
      | .inl r => rfl
      | .inr false => simp only [slP, rv, this]
      | .inr true => rfl
def vv_noL (q : Sk) : Bool := match q with
  | .inl _ => true
  | .inr (_, ss) => ss.all (fun s => match s with | .inr true => false | _ => true)
theorem vv_oneL : ∀ k, k < 132 → k ≠ 116 → (vv_sk[k]?.map vv_noL) = some true := by decide +kernel
theorem clE_noL {X : Xc} {h : Hp} {k : Nat} {x : Int64} {q : Sk} (hq : vv_noL q = true) : clE X (pL h x) k q = clE X h k q := by
  match q with
  | .inl (t, n, none) => rfl
  | .inl (t, n, some f) => rfl
  | .inr (ci, ss) =>
    simp only [clE]
    congr 2
    apply List.ext_getElem?
    intro j
    rw [List.getElem?_mapIdx, List.getElem?_mapIdx]
    cases hz : ss[j]? with
    | none => rfl
    | some z =>
      have := List.all_eq_true.mp hq z (List.mem_of_getElem? hz)
      match z with
      | .inl r => rfl
      | .inr false => rfl
      | .inr true => cases this
theorem wsX_long {X : Xc} {h : Hp} {ci : Nat} {ss : List Sl} {x : Int64} (hs : vv_sk[116]? = some (.inr (ci, ss))) (hi : ss[26]? = some (.inr true)) (ho : ∀ j, j ≠ 26 → ss[j]? ≠ some (.inr true)) : (wsX X h).set 116 (X.2.1 116, .inr (ci, (ss.mapIdx (fun i sl => rv X.2.1 (slP h 116 i sl))).set 26 (.long x))) = wsX X (pL h x) := by
  apply List.ext_getElem?
  intro j
  by_cases hj : j = 116
  · subst hj
    rw [wsX_get (h := pL h x) hs]
    rw [List.getElem?_set_self (List.getElem?_eq_some_iff.mp (wsX_get (X := X) (h := h) hs)).1]
    congr 2
    simp only [clE]
    congr 2
    apply List.ext_getElem?
    intro j
    by_cases hj : j = 26
    · subst hj
      rw [List.getElem?_set_self (by rw [List.length_mapIdx]; exact (List.getElem?_eq_some_iff.mp hi).1), List.getElem?_mapIdx, hi]
      rfl
    · rw [List.getElem?_set_ne (fun e => hj e.symm), List.getElem?_mapIdx, List.getElem?_mapIdx]
      cases hq : ss[j]? with
      | none => rfl
      | some z =>
        show some _ = some _
        match z with
        | .inl r => rfl
        | .inr false => rfl
        | .inr true => exact absurd hq (ho j hj)
  · rw [List.getElem?_set_ne (fun e => hj e.symm)]
    unfold wsX
    rw [List.getElem?_mapIdx, List.getElem?_mapIdx]
    cases hq : vv_sk[j]? with
    | none => rfl
    | some z =>
      show some (X.2.1 j, clE X h j z) = some (X.2.1 j, clE X (pL h x) j z)
      have hl : j < 132 := by have := (List.getElem?_eq_some_iff.mp hq).1; rw [vv_skN] at this; exact this
      have h1 := vv_oneL j hl hj
      rw [hq] at h1
      rw [clE_noL (by simpa using h1)]
/-- what may be written: the world's cells, and what comes new -/
def vv_A (X : Xc) (sz : Nat) : Nat → Prop := fun q => (∃ k : Nat, k < 132 ∧ q = X.2.1 k) ∨ sz ≤ q
def vv_numL : List Int32 := [2, 2, 1, 2, 2, 2, 1, 1, 1, 3]
def vv_leastL : List Int32 := [2, 2, 0, 0, 1, 0, 0, 0, 0, 0, 0, 0, 0, 0, 0, 0, 0, 0, 1, 0, 0, 1, 0, 0, 1, 0, 0, 0, 0, 1]
def vv_mostL : List Int32 := [4, 4, 0, 15, 9, 0, 15, 0, 0, 15, 10, 0, 15, 3, 0, 3, 99, 0, 9, 0, 0, 99, 0, 0, 9, 0, 0, 3, 3, 99]
def vv_txI : List Nat := [182, 184, 186, 187, 188, 190, 192, 193, 194, 196, 198, 199, 201, 203]
def vv_txS : List String := ["county", "wet", "iron", "odds", "claim", "purse", "cost", "price", "rod", "owe", "water", "steps", "wishes", "both"]
def vv_txL : List Nat := [6, 3, 4, 4, 5, 5, 4, 5, 3, 3, 5, 5, 6, 4]
def vv_txB : List (List Int32) := [[99, 111, 117, 110, 116, 121], [119, 101, 116], [105, 114, 111, 110], [111, 100, 100, 115], [99, 108, 97, 105, 109], [112, 117, 114, 115, 101], [99, 111, 115, 116], [112, 114, 105, 99, 101], [114, 111, 100], [111, 119, 101], [119, 97, 116, 101, 114], [115, 116, 101, 112, 115], [119, 105, 115, 104, 101, 115], [98, 111, 116, 104]]
def vv_nest : List (String × Nat × MethodName) := [(R_County, 116, y_Rod_oneIf), (R_County, 79, y_Rod_isOwner), (R_County, 86, y_Rod_isDepth), (R_Land, 78, y_Rod_natureOf), (R_Land, 81, y_Rod_reachOf)]
def vv_ro (X : Xc) (A : Nat → Prop) (U : State) (H : Heap) (nm : String) (k : Nat) (l : List Int32) : Prop := va_Z R_Reader nm "[I" (.ref (X.2.1 k)) A U H ∧ va_T .int (X.2.1 k) l.length (fun j => .int (l.getD j 0)) A U H
/-- the formatter: null, or at place 163 -/
def vv_fm (X : Xc) (A : Nat → Prop) (U : State) (H : Heap) : Prop := va_Z "jdk/internal/util/Preconditions" "SIOOBE_FORMATTER" "Ljava/util/function/BiFunction;" .null A U H ∨ va_Z "jdk/internal/util/Preconditions" "SIOOBE_FORMATTER" "Ljava/util/function/BiFunction;" (.ref (X.2.1 163)) A U H
/-- read alone: NUMBERS at 132, LEAST at 133, MOST at 134, the texts at 135 .. 148, their bytes at 149 .. 162 -/
def Ro (X : Xc) (A : Nat → Prop) (U : State) (H : Heap) : Prop :=
  vv_ro X A U H "NUMBERS" 132 vv_numL ∧ vv_ro X A U H "LEAST" 133 vv_leastL ∧ vv_ro X A U H "MOST" 134 vv_mostL ∧
  va_Z "java/lang/String" "COMPACT_STRINGS" "Z" (.int 1) A U H ∧ vv_fm X A U H ∧
  vk_S 14 vv_txL vv_txB (fun i => X.2.1 (135 + i)) (fun i => X.2.1 (149 + i)) A U H ∧
  (∀ i : Nat, i < 14 → vk_R R_Reader (vv_txI.getD i 0) (vv_txS.getD i "") (X.2.1 (135 + i)) U) ∧
  ∀ q ∈ vv_nest, va_Nw (.methodLinkNest q.1 q.2.1 q.2.2 R_Rod) U
theorem vv_ro.to {X : Xc} {A B : Nat → Prop} {s U : State} {H H1 : Heap} {nm : String} {k : Nat} {l : List Int32} (hvm : s.vm.Alike U.vm) (hq : ∀ a : Nat, a < H.size → ¬ A a → H1[a]? = H[a]?) (hAB : ∀ q, B q → A q) (h : vv_ro X A s H nm k l) : vv_ro X B U H1 nm k l :=
  ⟨((h.1.moved hvm).kept hq).narrow hAB, ((h.2.moved hvm).kept hq).narrow hAB⟩
theorem Ro.to {X : Xc} {A B : Nat → Prop} {s U : State} {H H1 : Heap} (hW : s.WarmedH U.vm) (hq : ∀ a : Nat, a < H.size → ¬ A a → H1[a]? = H[a]?) (hAB : ∀ q, B q → A q) (h : Ro X A s H) : Ro X B U H1 := by
  obtain ⟨h1, h2, h3, h4, h5, h6, h7, h8⟩ := h
  have hvm := hW.alike
  exact ⟨h1.to hvm hq hAB, h2.to hvm hq hAB, h3.to hvm hq hAB, ((h4.moved hvm).kept hq).narrow hAB, h5.imp (fun q => ((q.moved hvm).kept hq).narrow hAB) (fun q => ((q.moved hvm).kept hq).narrow hAB), ((h6.moved hvm).kept hq).narrow hAB, fun i hi => (h7 i hi).warm hW, fun q hm => va_Nw.warmM hW (h8 q hm)⟩
theorem Ro.blind {X : Xc} {A : Nat → Prop} {U : State} {H : Heap} (g : JFrame) (mk : MethodId) (a : Array Value) (h : Ro X A U H) : Ro X A (U.calling g mk a) H := by
  obtain ⟨h1, h2, h3, h4, h5, h6, h7, h8⟩ := h
  have hvm : U.vm.Alike (U.calling g mk a).vm := Vm.Alike.refl U.vm
  exact ⟨⟨h1.1.moved hvm, h1.2.moved hvm⟩, ⟨h2.1.moved hvm, h2.2.moved hvm⟩, ⟨h3.1.moved hvm, h3.2.moved hvm⟩, h4.moved hvm, h5.imp (fun q => q.moved hvm) (fun q => q.moved hvm), h6.moved hvm, fun i hi => vk_R.same (u := U) rfl (h7 i hi), fun q hm => va_Nw.same (u := U) rfl rfl (h8 q hm)⟩
end
section
def lh (ad : Nat → Nat) (lsA : Array Slot) (nL : Nat) (ls : Pl) : Prop := lsA.size = nL ∧ lv_wf lsA ∧ ∀ (i : Nat) (v : Value), ls[i]? = some (some v) → lsA[i]? = some (.val (rv ad v))
def rmOf (F L : Nat) : Room := { frames := F, cells := 0, slots := 0, locals := L }
def QcOf (X : Xc) (A : Nat → Prop) (post : Option Value → Hp → Prop) : Array Value → State → Outcome → State → Prop := fun _ st oc t => (∃ (r : Option Value) (h : Hp), oc = .returned (r.map (rv X.2.1)) ∧ post r h ∧ va_P X.1 classes (wsX X h) t.heap) ∧ va_F A st t
def Cx (own : String) (cc : ByteArray) (nL : Nat) (ret : Option FieldType) (p : Program) (s : State) (m : MethodId) (args : Array Value) (meth : Method) (c : Code) (X : Xc) (A : Nat → Prop) : Prop :=
  p.tables.exec = Jvm.exec ∧ c.code = cc ∧ c.maxLocals = nL ∧ s.vm.findClass own = some m.cls ∧ (∀ w ∈ vv_G, w.before args s = true) ∧ meth.locks = false ∧ meth.sig.returnType = ret ∧ va_K X.1 classes (tysX X) s ∧ adOk X A ∧ (∀ q : Nat, s.heap.size ≤ q → A q) ∧ Ro X A s s.heap
def V (own : String) (cc : ByteArray) (nL : Nat) (ret : Option FieldType) (F L : Nat) (post : Option Value → Hp → Prop) (h : Hp) (pc : Nat) (ls : Pl) (st : List Value) : Prop :=
  ∀ (p : Program) (l : Launch) (e : Env) (s : State) (m : MethodId) (args : Array Value) (below : List Frame) (meth : Method) (c : Code) (X : Xc) (A : Nat → Prop) (H : Heap) (locs : List Loc) (lsA : Array Slot),
    Cx own cc nL ret p s m args meth c X A → va_P X.1 classes (wsX X h) H → va_S A s.heap H locs → lh X.2.1 lsA nL ls →
    W p l e (rmOf F L) s m args below meth c H locs 0 0 (MQ below (QcOf X A post) args s 0 0 A) (F0 m pc lsA (st.map (rv X.2.1)))
/-- a method's contract at these arguments and this heap -/
def Ct (y : MethodName) (cc : ByteArray) (nL : Nat) (ret : Option FieldType) (F L : Nat) (As : List Value) (h : Hp) (post : Option Value → Hp → Prop) : Prop :=
  ∀ (l : Launch) (X : Xc) (sz : Nat), Met l y (.code y cc nL ret :: vv_G) (rmOf F L) (va_Pc (As.map (rv X.2.1)) (fun U => U.heap.size = sz ∧ va_P X.1 classes (wsX X h) U.heap ∧ va_K X.1 classes (tysX X) U ∧ adOk X (vv_A X sz) ∧ Ro X (vv_A X sz) U U.heap)) (QcOf X (vv_A X sz) post) 0 0 (vv_A X sz)
def argLs : List Value → Pl
  | [] => []
  | v :: vs => if v.category = 2 then some v :: none :: argLs vs else some v :: argLs vs
theorem argLs_in (ad : Nat → Nat) : ∀ (vs : List Value) (k i : Nat) (v : Value), (argLs vs)[i]? = some (some v) → (k + i, rv ad v) ∈ lv_args k (vs.map (rv ad)) := by
  intro vs
  induction vs with
  | nil => intro k i v h; cases h
  | cons w vs ih =>
    intro k i v h
    by_cases hc : w.category = 2
    · have e : argLs (w :: vs) = some w :: none :: argLs vs := by simp [argLs, hc]
      have e2 : lv_args k ((w :: vs).map (rv ad)) = (k, rv ad w) :: lv_args (k + 2) (vs.map (rv ad)) := by
        show (k, rv ad w) :: lv_args (if (rv ad w).category = 2 then k + 2 else k + 1) (vs.map (rv ad)) = _
        rw [rv_cat, if_pos hc]
      rw [e] at h
      rw [e2]
      match i, h with
      | 0, h => cases h; exact List.mem_cons_self
      | i + 2, h => 
        have := ih (k + 2) i v h
        rw [show k + (i + 2) = k + 2 + i by omega]
        exact List.mem_cons_of_mem _ this
    · have e : argLs (w :: vs) = some w :: argLs vs := by simp [argLs, hc]
      have e2 : lv_args k ((w :: vs).map (rv ad)) = (k, rv ad w) :: lv_args (k + 1) (vs.map (rv ad)) := by
        show (k, rv ad w) :: lv_args (if (rv ad w).category = 2 then k + 2 else k + 1) (vs.map (rv ad)) = _
        rw [rv_cat, if_neg hc]
      rw [e] at h
      rw [e2]
      match i, h with
      | 0, h => cases h; exact List.mem_cons_self
      | i + 1, h =>
        have := ih (k + 1) i v h
        rw [show k + (i + 1) = k + 1 + i by omega]
        exact List.mem_cons_of_mem _ this
theorem argLs_len (ad : Nat → Nat) (vs : List Value) : (lg_sl (vs.map (rv ad))).length = (argLs vs).length := by
  induction vs with
  | nil => rfl
  | cons w vs ih =>
    have e : lg_sl ((w :: vs).map (rv ad)) = lg_sl [rv ad w] ++ lg_sl (vs.map (rv ad)) := by simp [lg_sl]
    rw [e, List.length_append, ih]
    by_cases hc : w.category = 2
    · have h1 : (lg_sl [rv ad w]).length = 2 := by simp [lg_sl, rv_cat, hc]
      have h2 : argLs (w :: vs) = some w :: none :: argLs vs := by simp [argLs, hc]
      rw [h1, h2, List.length_cons, List.length_cons]; omega
    · have h1 : (lg_sl [rv ad w]).length = 1 := by simp [lg_sl, rv_cat, hc]
      have h2 : argLs (w :: vs) = some w :: argLs vs := by simp [argLs, hc]
      rw [h1, h2, List.length_cons]; omega
/-- a contract out of a walk from the entry -/
theorem ct_of {y : MethodName} {cc : ByteArray} {nL : Nat} {ret : Option FieldType} {F L : Nat} {As : List Value} {h : Hp} {post : Option Value → Hp → Prop} (ls : Pl) (hy : plainName y.cls = true) (hls : argLs As ++ List.replicate (nL - (argLs As).length) none = ls) (hn : (argLs As).length ≤ nL)
    (hV : V y.cls cc nL ret F L post h 0 ls []) : Ct y cc nL ret F L As h post := by
  intro l X sz
  refine Met.ofW (cc := cc) (maxL := nL) (ret := ret) hy rfl ?_
  intro p e s m args below meth c s₁ B hml hv
  obtain ⟨rfl, hsz, hP, hK, hA, hRo⟩ := hv
  have hts := atoms_spec (ws := .code y cc nL ret :: vv_G) B.pre
  subst hsz
  have hl := lv_entry (As.map (rv X.2.1)) (n := nL) (by rw [argLs_len]; exact hn)
  rw [lg_entry_eq]
  refine hV p l e s m _ below meth c X (vv_A X s.heap.size) s.heap [] _ ⟨B.exec, B.bytes, hml, findClass_of_methodNamed B.named, fun w hw => hts w (List.mem_cons_of_mem _ hw), B.notSynchronized, B.returns, hK, hA, fun q hq => Or.inr hq, hRo⟩ hP va_S.rf ⟨hl.1, hl.2.1, fun i v hi => ?_⟩
  rw [← hls] at hi
  by_cases hlt : i < (argLs As).length
  · rw [List.getElem?_append_left hlt] at hi
    have := hl.2.2 (i, rv X.2.1 v) (by have := argLs_in X.2.1 As 0 i v hi; rwa [Nat.zero_add] at this)
    exact this
  · rw [List.getElem?_append_right (by omega)] at hi
    have := List.eq_of_mem_replicate (List.mem_of_getElem? hi)
    cases this
theorem Ct.mono {y : MethodName} {cc : ByteArray} {nL : Nat} {ret : Option FieldType} {F L : Nat} {As : List Value} {h : Hp} {post post' : Option Value → Hp → Prop} (hc : Ct y cc nL ret F L As h post) (hp : ∀ r h', post r h' → post' r h') : Ct y cc nL ret F L As h post' := by
  intro l X sz p e ha hcx hk s m args below hf happ hpre hPc
  obtain ⟨t, o, a1, a2, a3, ⟨⟨⟨r, h', b1, b2, b3⟩, b4⟩, b5⟩⟩ := hc l X sz p e ha hcx hk s m args below hf happ hpre hPc
  exact ⟨t, o, a1, a2, a3, ⟨⟨⟨r, h', b1, hp r h' b2, b3⟩, b4⟩, b5⟩⟩
end
section
theorem ti_add {x y : Int32} {A B : Int} (ha : x.toInt = A) (hb : y.toInt = B) (h : -2147483648 ≤ A + B ∧ A + B ≤ 2147483647) : (x + y).toInt = A + B := by
  rw [Int32.toInt_add, ha, hb, Int.bmod_eq_of_le] <;> omega
theorem ti_sub {x y : Int32} {A B : Int} (ha : x.toInt = A) (hb : y.toInt = B) (h : -2147483648 ≤ A - B ∧ A - B ≤ 2147483647) : (x - y).toInt = A - B := by
  rw [Int32.toInt_sub, ha, hb, Int.bmod_eq_of_le] <;> omega
theorem ti_mul {x y : Int32} {A B : Int} (ha : x.toInt = A) (hb : y.toInt = B) (h : -2147483648 ≤ A * B ∧ A * B ≤ 2147483647) : (x * y).toInt = A * B := by
  rw [Int32.toInt_mul, ha, hb, Int.bmod_eq_of_le] <;> omega
theorem ti_lo (x : Int32) : -2147483648 ≤ x.toInt := by have := x.le_toInt; omega
theorem ti_hi (x : Int32) : x.toInt ≤ 2147483647 := by have := x.toInt_lt; omega
theorem ti_cl (x : Int32) : x.toNatClampNeg = x.toInt.toNat := rfl
theorem vp_in_of_ti {x : Int32} {A : Int} {n : Nat} (ha : x.toInt = A) (h : 0 ≤ A ∧ A < n) : vp_in x n := vp_in_iff.mpr (by rw [ha]; exact h)
theorem ti_lt {x y : Int32} {A B : Int} (ha : x.toInt = A) (hb : y.toInt = B) : x < y ↔ A < B := by rw [Int32.lt_iff_toInt_lt, ha, hb]
theorem ti_le {x y : Int32} {A B : Int} (ha : x.toInt = A) (hb : y.toInt = B) : x ≤ y ↔ A ≤ B := by rw [Int32.le_iff_toInt_le, ha, hb]
theorem ti_eq {x y : Int32} {A B : Int} (ha : x.toInt = A) (hb : y.toInt = B) : x = y ↔ A = B := by rw [← Int32.toInt_inj, ha, hb]
theorem ti_0 : (0 : Int32).toInt = 0 := rfl
theorem ti_div {x y : Int32} {A B : Int} (ha : x.toInt = A) (hb : y.toInt = B) (h0 : 0 ≤ A) (hB : 0 < B) : (x / y).toInt = A / B := by
  have h2 := x.toInt_lt
  have h3 := Int.ediv_le_self B h0
  have h4 := Int.ediv_nonneg h0 (Int.le_of_lt hB)
  rw [Int32.toInt_div, ha, hb, Int.tdiv_eq_ediv_of_nonneg h0, Int.bmod_eq_of_le] <;> omega
theorem ti_rem {x y : Int32} {A B : Int} (ha : x.toInt = A) (hb : y.toInt = B) (h0 : 0 ≤ A) (hB : 0 < B) : (x - x / y * y).toInt = A % B := by
  have h2 := x.toInt_lt
  have h3 := Int.mul_ediv_add_emod A B
  have h4 := Int.emod_nonneg A (Int.ne_of_gt hB)
  have h5 := Int.emod_lt_of_pos A hB
  have h6 : A / B * B = A - A % B := by rw [Int.mul_comm]; omega
  have h7 := Int.mul_nonneg (Int.ediv_nonneg h0 (Int.le_of_lt hB)) (Int.le_of_lt hB)
  rw [ti_sub (A := A) (B := A / B * B) ha (ti_mul (ti_div ha hb h0 hB) hb (by omega)) (by omega)]
  omega

section VR
variable {own : String} {cc : ByteArray} {nL : Nat} {ret : Option FieldType} {F L : Nat} {post : Option Value → Hp → Prop} {h : Hp} {pc : Nat} {ls : Pl} {st : List Value}
theorem V_iconst {n : Int} (v : Int32) (d : decode cc pc = .ok (.iconst n, 1)) (hv : Int32.ofInt n = v) (k : V own cc nL ret F L post h (pc + 1) ls (.int v :: st)) : V own cc nL ret F L post h pc ls (st) := fun p l e s m args below meth c X A H locs lsA C hP hS hl => lv_iconst C.1 C.2.1 d hv (k p l e s m args below meth c X A H locs lsA C hP hS hl)
theorem V_bipush {n : Int} (v : Int32) (d : decode cc pc = .ok (.bipush n, 2)) (hv : (Int8.ofInt n).toInt32 = v) (k : V own cc nL ret F L post h (pc + 2) ls (.int v :: st)) : V own cc nL ret F L post h pc ls (st) := fun p l e s m args below meth c X A H locs lsA C hP hS hl => lv_bipush C.1 C.2.1 d hv (k p l e s m args below meth c X A H locs lsA C hP hS hl)
theorem V_sipush {n : Int} (v : Int32) (d : decode cc pc = .ok (.sipush n, 3)) (hv : (Int16.ofInt n).toInt32 = v) (k : V own cc nL ret F L post h (pc + 3) ls (.int v :: st)) : V own cc nL ret F L post h pc ls (st) := fun p l e s m args below meth c X A H locs lsA C hP hS hl => lv_sipush C.1 C.2.1 d hv (k p l e s m args below meth c X A H locs lsA C hP hS hl)
theorem V_lconst {n : Fin 2} (v : Int64) (d : decode cc pc = .ok (.lconst n, 1)) (hv : Int64.ofNat (n : Nat) = v) (k : V own cc nL ret F L post h (pc + 1) ls (.long v :: st)) : V own cc nL ret F L post h pc ls (st) := fun p l e s m args below meth c X A H locs lsA C hP hS hl => lv_lconst C.1 C.2.1 d hv (k p l e s m args below meth c X A H locs lsA C hP hS hl)
theorem V_ldc {i : Nat} {v : Int32} (d : decode cc pc = .ok (.ldc i, 2)) (hw : Cond.constant own i v ∈ vv_G) (k : V own cc nL ret F L post h (pc + 2) ls (.int v :: st)) : V own cc nL ret F L post h pc ls (st) := fun p l e s m args below meth c X A H locs lsA C hP hS hl => lv_ldc C.1 C.2.1 C.2.2.2.1 (C.2.2.2.2.1 _ hw) d (k p l e s m args below meth c X A H locs lsA C hP hS hl)
theorem V_ldcw {i : Nat} {v : Int32} (d : decode cc pc = .ok (.ldc_w i, 3)) (hw : Cond.constant own i v ∈ vv_G) (k : V own cc nL ret F L post h (pc + 3) ls (.int v :: st)) : V own cc nL ret F L post h pc ls (st) := fun p l e s m args below meth c X A H locs lsA C hP hS hl => lv_ldcw C.1 C.2.1 C.2.2.2.1 (C.2.2.2.2.1 _ hw) d (k p l e s m args below meth c X A H locs lsA C hP hS hl)
theorem V_ldc2 {i : Nat} {v : Int64} (d : decode cc pc = .ok (.ldc2_w i, 3)) (hw : Cond.constantLong own i v ∈ vv_G) (k : V own cc nL ret F L post h (pc + 3) ls (.long v :: st)) : V own cc nL ret F L post h pc ls (st) := fun p l e s m args below meth c X A H locs lsA C hP hS hl => lv_ldc2 C.1 C.2.1 C.2.2.2.1 (C.2.2.2.2.1 _ hw) d (k p l e s m args below meth c X A H locs lsA C hP hS hl)
theorem V_iload_n {n : Fin 4} (i : Nat) {x : Int32} (d : decode cc pc = .ok (.iload_n n, 1)) (hi : (n : Nat) = i) (hx : ls[i]? = some (some (.int x))) (k : V own cc nL ret F L post h (pc + 1) ls (.int x :: st)) : V own cc nL ret F L post h pc ls (st) := fun p l e s m args below meth c X A H locs lsA C hP hS hl => lv_iload_n C.1 C.2.1 d hi (hl.2.2 i _ hx) (k p l e s m args below meth c X A H locs lsA C hP hS hl)
theorem V_iload {i : Nat} {x : Int32} (d : decode cc pc = .ok (.iload i, 2)) (hx : ls[i]? = some (some (.int x))) (k : V own cc nL ret F L post h (pc + 2) ls (.int x :: st)) : V own cc nL ret F L post h pc ls (st) := fun p l e s m args below meth c X A H locs lsA C hP hS hl => lv_iload C.1 C.2.1 d (hl.2.2 i _ hx) (k p l e s m args below meth c X A H locs lsA C hP hS hl)
theorem V_lload_n {n : Fin 4} (i : Nat) {x : Int64} (d : decode cc pc = .ok (.lload_n n, 1)) (hi : (n : Nat) = i) (hx : ls[i]? = some (some (.long x))) (k : V own cc nL ret F L post h (pc + 1) ls (.long x :: st)) : V own cc nL ret F L post h pc ls (st) := fun p l e s m args below meth c X A H locs lsA C hP hS hl => lv_lload_n C.1 C.2.1 d hi (hl.2.2 i _ hx) (k p l e s m args below meth c X A H locs lsA C hP hS hl)
theorem V_lload {i : Nat} {x : Int64} (d : decode cc pc = .ok (.lload i, 2)) (hx : ls[i]? = some (some (.long x))) (k : V own cc nL ret F L post h (pc + 2) ls (.long x :: st)) : V own cc nL ret F L post h pc ls (st) := fun p l e s m args below meth c X A H locs lsA C hP hS hl => lv_lload C.1 C.2.1 d (hl.2.2 i _ hx) (k p l e s m args below meth c X A H locs lsA C hP hS hl)
theorem V_aload_n {n : Fin 4} (i : Nat) {x : Nat} (d : decode cc pc = .ok (.aload_n n, 1)) (hi : (n : Nat) = i) (hx : ls[i]? = some (some (.ref x))) (k : V own cc nL ret F L post h (pc + 1) ls (.ref x :: st)) : V own cc nL ret F L post h pc ls (st) := fun p l e s m args below meth c X A H locs lsA C hP hS hl => lv_aload_n C.1 C.2.1 d hi (hl.2.2 i _ hx) (k p l e s m args below meth c X A H locs lsA C hP hS hl)
theorem V_aload {i : Nat} {x : Nat} (d : decode cc pc = .ok (.aload i, 2)) (hx : ls[i]? = some (some (.ref x))) (k : V own cc nL ret F L post h (pc + 2) ls (.ref x :: st)) : V own cc nL ret F L post h pc ls (st) := fun p l e s m args below meth c X A H locs lsA C hP hS hl => lv_aload C.1 C.2.1 d (hl.2.2 i _ hx) (k p l e s m args below meth c X A H locs lsA C hP hS hl)
def okS (ls : Pl) (i : Nat) : Bool := match i with
  | 0 => true
  | j + 1 => match ls[j]? with
    | some (some v) => v.category == 1
    | _ => true
def asc (ad : Nat → Nat) (ls : Pl) : List (Nat × Value) := ls.zipIdx.filterMap (fun q => q.1.map (fun v => (q.2, rv ad v)))
theorem asc_in {ad : Nat → Nat} {ls : Pl} {i : Nat} {v : Value} (h : ls[i]? = some (some v)) : (i, rv ad v) ∈ asc ad ls := by
  refine List.mem_filterMap.mpr ⟨(some v, i), ?_, rfl⟩
  exact List.mem_zipIdx_iff_getElem?.mpr h
theorem asc_has {ad : Nat → Nat} {lsA : Array Slot} {nL : Nat} {ls : Pl} (h : lh ad lsA nL ls) : lv_has lsA nL (asc ad ls) := by
  refine ⟨h.1, h.2.1, fun q hq => ?_⟩
  obtain ⟨⟨o, i⟩, h1, h2⟩ := List.mem_filterMap.mp hq
  cases o with
  | none => cases h2
  | some v =>
    cases h2
    exact h.2.2 i v (List.mem_zipIdx_iff_getElem?.mp h1)
theorem lh_set1 {ad : Nat → Nat} {lsA : Array Slot} {nL i : Nat} {ls ls' : Pl} {v w : Value} (hw : rv ad v = w) (ho : okS ls i = true) (hl' : ls.set i (some v) = ls') (h : lv_has lsA nL ((i, w) :: (asc ad ls).filter (fun q => !(q.1 == i) && !(q.1 + 1 == i && q.2.category == 2)))) : lh ad lsA nL ls' := by
  refine ⟨h.1, h.2.1, fun j u hj => ?_⟩
  subst hl'
  by_cases e : j = i
  · subst e
    by_cases hlt : j < ls.length
    · rw [List.getElem?_set_self hlt] at hj
      cases hj
      rw [hw]
      exact h.2.2 (j, w) List.mem_cons_self
    · rw [List.getElem?_eq_none (by rw [List.length_set]; omega)] at hj
      cases hj
  · rw [List.getElem?_set_ne (fun q => e q.symm)] at hj
    refine h.2.2 (j, rv ad u) (List.mem_cons_of_mem _ (List.mem_filter.mpr ⟨asc_in hj, ?_⟩))
    have h1 : (j == i) = false := by simpa using e
    by_cases e2 : j + 1 = i
    · subst e2
      have h2 : u.category = 1 := by
        have := ho
        simp only [okS, hj] at this
        simpa using this
      simp [h1, rv_cat, h2]
    · have h2 : (j + 1 == i) = false := by simpa using e2
      simp [h1, h2]
theorem lh_set2 {ad : Nat → Nat} {lsA : Array Slot} {nL i : Nat} {ls ls' : Pl} {v w : Value} (hw : rv ad v = w) (ho : okS ls i = true) (hl' : (ls.set i (some v)).set (i + 1) none = ls') (h : lv_has lsA nL ((i, w) :: (asc ad ls).filter (fun q => !(q.1 == i) && (!(q.1 == i + 1) && !(q.1 + 1 == i && q.2.category == 2))))) : lh ad lsA nL ls' := by
  refine ⟨h.1, h.2.1, fun j u hj => ?_⟩
  subst hl'
  by_cases e9 : j = i + 1
  · subst e9
    by_cases hlt : i + 1 < ls.length
    · rw [List.getElem?_set_self (by rw [List.length_set]; exact hlt)] at hj
      cases hj
    · rw [List.getElem?_eq_none (by rw [List.length_set, List.length_set]; omega)] at hj
      cases hj
  rw [List.getElem?_set_ne (fun q => e9 q.symm)] at hj
  by_cases e : j = i
  · subst e
    by_cases hlt : j < ls.length
    · rw [List.getElem?_set_self hlt] at hj
      cases hj
      rw [hw]
      exact h.2.2 (j, w) List.mem_cons_self
    · rw [List.getElem?_eq_none (by rw [List.length_set]; omega)] at hj
      cases hj
  · rw [List.getElem?_set_ne (fun q => e q.symm)] at hj
    refine h.2.2 (j, rv ad u) (List.mem_cons_of_mem _ (List.mem_filter.mpr ⟨asc_in hj, ?_⟩))
    have h1 : (j == i) = false := by simpa using e
    have h9 : (j == i + 1) = false := by simpa using e9
    by_cases e2 : j + 1 = i
    · subst e2
      have h2 : u.category = 1 := by
        have := ho
        simp only [okS, hj] at this
        simpa using this
      simp [h1, h9, rv_cat, h2]
    · have h2 : (j + 1 == i) = false := by simpa using e2
      simp [h1, h9, h2]
theorem V_istore_n {n : Fin 4} (i : Nat) (ls1 : Pl) {x : Int32} (d : decode cc pc = .ok (.istore_n n, 1)) (hi : (n : Nat) = i) (hn : i < nL) (ho : okS ls i = true) (h1 : ls.set i (some (.int x)) = ls1) (k : V own cc nL ret F L post h (pc + 1) ls1 st) : V own cc nL ret F L post h pc ls (.int x :: st) := fun p l e s m args below meth c X A H locs lsA C hP hS hl => lv_istore_n C.1 C.2.1 d hi (asc_has hl) hn rfl (fun lsB hB => k p l e s m args below meth c X A H locs lsB C hP hS (lh_set1 rfl ho h1 hB))
theorem V_istore (i : Nat) (ls1 : Pl) {x : Int32} (d : decode cc pc = .ok (.istore i, 2)) (hn : i < nL) (ho : okS ls i = true) (h1 : ls.set i (some (.int x)) = ls1) (k : V own cc nL ret F L post h (pc + 2) ls1 st) : V own cc nL ret F L post h pc ls (.int x :: st) := fun p l e s m args below meth c X A H locs lsA C hP hS hl => lv_istore C.1 C.2.1 d (asc_has hl) hn rfl (fun lsB hB => k p l e s m args below meth c X A H locs lsB C hP hS (lh_set1 rfl ho h1 hB))
theorem V_lstore_n {n : Fin 4} (i : Nat) (ls1 : Pl) {x : Int64} (d : decode cc pc = .ok (.lstore_n n, 1)) (hi : (n : Nat) = i) (hn : i + 1 < nL) (ho : okS ls i = true) (h1 : (ls.set i (some (.long x))).set (i + 1) none = ls1) (k : V own cc nL ret F L post h (pc + 1) ls1 st) : V own cc nL ret F L post h pc ls (.long x :: st) := fun p l e s m args below meth c X A H locs lsA C hP hS hl => lv_lstore_n C.1 C.2.1 d hi (asc_has hl) hn rfl (fun lsB hB => k p l e s m args below meth c X A H locs lsB C hP hS (lh_set2 rfl ho h1 hB))
theorem V_lstore (i : Nat) (ls1 : Pl) {x : Int64} (d : decode cc pc = .ok (.lstore i, 2)) (hn : i + 1 < nL) (ho : okS ls i = true) (h1 : (ls.set i (some (.long x))).set (i + 1) none = ls1) (k : V own cc nL ret F L post h (pc + 2) ls1 st) : V own cc nL ret F L post h pc ls (.long x :: st) := fun p l e s m args below meth c X A H locs lsA C hP hS hl => lv_lstore C.1 C.2.1 d (asc_has hl) hn rfl (fun lsB hB => k p l e s m args below meth c X A H locs lsB C hP hS (lh_set2 rfl ho h1 hB))
theorem V_astore_n {n : Fin 4} (i : Nat) (ls1 : Pl) {x : Nat} (d : decode cc pc = .ok (.astore_n n, 1)) (hi : (n : Nat) = i) (hn : i < nL) (ho : okS ls i = true) (h1 : ls.set i (some (.ref x)) = ls1) (k : V own cc nL ret F L post h (pc + 1) ls1 st) : V own cc nL ret F L post h pc ls (.ref x :: st) := fun p l e s m args below meth c X A H locs lsA C hP hS hl => lv_astore_n C.1 C.2.1 d hi (asc_has hl) hn rfl (fun lsB hB => k p l e s m args below meth c X A H locs lsB C hP hS (lh_set1 rfl ho h1 hB))
theorem V_astore (i : Nat) (ls1 : Pl) {x : Nat} (d : decode cc pc = .ok (.astore i, 2)) (hn : i < nL) (ho : okS ls i = true) (h1 : ls.set i (some (.ref x)) = ls1) (k : V own cc nL ret F L post h (pc + 2) ls1 st) : V own cc nL ret F L post h pc ls (.ref x :: st) := fun p l e s m args below meth c X A H locs lsA C hP hS hl => lv_astore C.1 C.2.1 d (asc_has hl) hn rfl (fun lsB hB => k p l e s m args below meth c X A H locs lsB C hP hS (lh_set1 rfl ho h1 hB))
theorem V_iinc {n : Int} (i : Nat) (ls1 : Pl) {x v : Int32} (d : decode cc pc = .ok (.iinc i n, 3)) (hx : ls[i]? = some (some (.int x))) (hv : x + Int32.ofInt n = v) (hn : i < nL) (ho : okS ls i = true) (h1 : ls.set i (some (.int v)) = ls1) (k : V own cc nL ret F L post h (pc + 3) ls1 st) : V own cc nL ret F L post h pc ls st := fun p l e s m args below meth c X A H locs lsA C hP hS hl => by
  have hm : (i, Value.int x) ∈ asc X.2.1 ls := asc_in (ad := X.2.1) hx
  obtain ⟨q, hq⟩ := List.getElem?_of_mem hm
  exact lv_iinc C.1 C.2.1 d (asc_has hl) hq hv hn rfl (fun lsB hB => k p l e s m args below meth c X A H locs lsB C hP hS (lh_set1 rfl ho h1 hB))
/-- fewer locals are remembered -/
theorem V_ls (ls1 : Pl) (hs : ∀ (i : Nat) (v : Value), ls1[i]? = some (some v) → ls[i]? = some (some v)) (k : V own cc nL ret F L post h pc ls1 st) : V own cc nL ret F L post h pc ls st := fun p l e s m args below meth c X A H locs lsA C hP hS hl => k p l e s m args below meth c X A H locs lsA C hP hS ⟨hl.1, hl.2.1, fun i v hi => hl.2.2 i v (hs i v hi)⟩
theorem V_iadd {x y : Int32} {A B : Int} (ha : x.toInt = A) (hb : y.toInt = B) (hr : -2147483648 ≤ A + B ∧ A + B ≤ 2147483647) (d : decode cc pc = .ok (.iadd, 1)) (k : ∀ z : Int32, z = x + y → z.toInt = A + B → V own cc nL ret F L post h (pc + 1) ls (.int z :: st)) : V own cc nL ret F L post h pc ls (.int y :: .int x :: st) := fun p l e s m args below meth c X A9 H locs lsA C hP hS hl => lv_iadd C.1 C.2.1 d (k _ rfl (ti_add ha hb hr) p l e s m args below meth c X A9 H locs lsA C hP hS hl)
theorem V_iaddw {x y : Int32} (d : decode cc pc = .ok (.iadd, 1)) (k : ∀ z : Int32, z = x + y → V own cc nL ret F L post h (pc + 1) ls (.int z :: st)) : V own cc nL ret F L post h pc ls (.int y :: .int x :: st) := fun p l e s m args below meth c X A H locs lsA C hP hS hl => lv_iadd C.1 C.2.1 d (k _ rfl p l e s m args below meth c X A H locs lsA C hP hS hl)
theorem V_isub {x y : Int32} {A B : Int} (ha : x.toInt = A) (hb : y.toInt = B) (hr : -2147483648 ≤ A - B ∧ A - B ≤ 2147483647) (d : decode cc pc = .ok (.isub, 1)) (k : ∀ z : Int32, z = x - y → z.toInt = A - B → V own cc nL ret F L post h (pc + 1) ls (.int z :: st)) : V own cc nL ret F L post h pc ls (.int y :: .int x :: st) := fun p l e s m args below meth c X A9 H locs lsA C hP hS hl => lv_isub C.1 C.2.1 d (k _ rfl (ti_sub ha hb hr) p l e s m args below meth c X A9 H locs lsA C hP hS hl)
theorem V_isubw {x y : Int32} (d : decode cc pc = .ok (.isub, 1)) (k : ∀ z : Int32, z = x - y → V own cc nL ret F L post h (pc + 1) ls (.int z :: st)) : V own cc nL ret F L post h pc ls (.int y :: .int x :: st) := fun p l e s m args below meth c X A H locs lsA C hP hS hl => lv_isub C.1 C.2.1 d (k _ rfl p l e s m args below meth c X A H locs lsA C hP hS hl)
theorem V_imul {x y : Int32} {A B : Int} (ha : x.toInt = A) (hb : y.toInt = B) (hr : -2147483648 ≤ A * B ∧ A * B ≤ 2147483647) (d : decode cc pc = .ok (.imul, 1)) (k : ∀ z : Int32, z = x * y → z.toInt = A * B → V own cc nL ret F L post h (pc + 1) ls (.int z :: st)) : V own cc nL ret F L post h pc ls (.int y :: .int x :: st) := fun p l e s m args below meth c X A9 H locs lsA C hP hS hl => lv_imul C.1 C.2.1 d (k _ rfl (ti_mul ha hb hr) p l e s m args below meth c X A9 H locs lsA C hP hS hl)
theorem V_imulw {x y : Int32} (d : decode cc pc = .ok (.imul, 1)) (k : ∀ z : Int32, z = x * y → V own cc nL ret F L post h (pc + 1) ls (.int z :: st)) : V own cc nL ret F L post h pc ls (.int y :: .int x :: st) := fun p l e s m args below meth c X A H locs lsA C hP hS hl => lv_imul C.1 C.2.1 d (k _ rfl p l e s m args below meth c X A H locs lsA C hP hS hl)
theorem V_iand {x y : Int32} (d : decode cc pc = .ok (.iand, 1)) (k : ∀ z : Int32, z = x &&& y → V own cc nL ret F L post h (pc + 1) ls (.int z :: st)) : V own cc nL ret F L post h pc ls (.int y :: .int x :: st) := fun p l e s m args below meth c X A H locs lsA C hP hS hl => lv_iand C.1 C.2.1 d (k _ rfl p l e s m args below meth c X A H locs lsA C hP hS hl)
theorem V_ior {x y : Int32} (d : decode cc pc = .ok (.ior, 1)) (k : ∀ z : Int32, z = x ||| y → V own cc nL ret F L post h (pc + 1) ls (.int z :: st)) : V own cc nL ret F L post h pc ls (.int y :: .int x :: st) := fun p l e s m args below meth c X A H locs lsA C hP hS hl => lv_ior C.1 C.2.1 d (k _ rfl p l e s m args below meth c X A H locs lsA C hP hS hl)
theorem V_ixor {x y : Int32} (d : decode cc pc = .ok (.ixor, 1)) (k : ∀ z : Int32, z = x ^^^ y → V own cc nL ret F L post h (pc + 1) ls (.int z :: st)) : V own cc nL ret F L post h pc ls (.int y :: .int x :: st) := fun p l e s m args below meth c X A H locs lsA C hP hS hl => lv_ixor C.1 C.2.1 d (k _ rfl p l e s m args below meth c X A H locs lsA C hP hS hl)
theorem V_ishl {x y : Int32} (d : decode cc pc = .ok (.ishl, 1)) (k : ∀ z : Int32, z = x <<< (y &&& 31) → V own cc nL ret F L post h (pc + 1) ls (.int z :: st)) : V own cc nL ret F L post h pc ls (.int y :: .int x :: st) := fun p l e s m args below meth c X A H locs lsA C hP hS hl => lv_ishl C.1 C.2.1 d (k _ rfl p l e s m args below meth c X A H locs lsA C hP hS hl)
theorem V_ishr {x y : Int32} (d : decode cc pc = .ok (.ishr, 1)) (k : ∀ z : Int32, z = x >>> (y &&& 31) → V own cc nL ret F L post h (pc + 1) ls (.int z :: st)) : V own cc nL ret F L post h pc ls (.int y :: .int x :: st) := fun p l e s m args below meth c X A H locs lsA C hP hS hl => lv_ishr C.1 C.2.1 d (k _ rfl p l e s m args below meth c X A H locs lsA C hP hS hl)
theorem V_iushr {x y : Int32} (d : decode cc pc = .ok (.iushr, 1)) (k : ∀ z : Int32, z = (x.toUInt32 >>> (y.toUInt32 &&& Int32.toUInt32 31)).toInt32 → V own cc nL ret F L post h (pc + 1) ls (.int z :: st)) : V own cc nL ret F L post h pc ls (.int y :: .int x :: st) := fun p l e s m args below meth c X A H locs lsA C hP hS hl => lv_iushr C.1 C.2.1 d rfl (k _ rfl p l e s m args below meth c X A H locs lsA C hP hS hl)
theorem V_ineg {x : Int32} (d : decode cc pc = .ok (.ineg, 1)) (k : ∀ z : Int32, z = -x → V own cc nL ret F L post h (pc + 1) ls (.int z :: st)) : V own cc nL ret F L post h pc ls (.int x :: st) := fun p l e s m args below meth c X A H locs lsA C hP hS hl => lv_ineg C.1 C.2.1 d (k _ rfl p l e s m args below meth c X A H locs lsA C hP hS hl)
theorem V_idiv {x y : Int32} (hne : ¬ y = 0) (d : decode cc pc = .ok (.idiv, 1)) (k : ∀ z : Int32, z = x / y → V own cc nL ret F L post h (pc + 1) ls (.int z :: st)) : V own cc nL ret F L post h pc ls (.int y :: .int x :: st) := fun p l e s m args below meth c X A H locs lsA C hP hS hl => lv_idiv C.1 C.2.1 d hne (k _ rfl p l e s m args below meth c X A H locs lsA C hP hS hl)
theorem V_irem {x y : Int32} (hne : ¬ y = 0) (d : decode cc pc = .ok (.irem, 1)) (k : ∀ z : Int32, z = x - x / y * y → V own cc nL ret F L post h (pc + 1) ls (.int z :: st)) : V own cc nL ret F L post h pc ls (.int y :: .int x :: st) := fun p l e s m args below meth c X A H locs lsA C hP hS hl => lv_irem C.1 C.2.1 d hne (k _ rfl p l e s m args below meth c X A H locs lsA C hP hS hl)
theorem V_ladd {x y : Int64} (d : decode cc pc = .ok (.ladd, 1)) (k : ∀ z : Int64, z = x + y → V own cc nL ret F L post h (pc + 1) ls (.long z :: st)) : V own cc nL ret F L post h pc ls (.long y :: .long x :: st) := fun p l e s m args below meth c X A H locs lsA C hP hS hl => lv_ladd C.1 C.2.1 d (k _ rfl p l e s m args below meth c X A H locs lsA C hP hS hl)
theorem V_lsub {x y : Int64} (d : decode cc pc = .ok (.lsub, 1)) (k : ∀ z : Int64, z = x - y → V own cc nL ret F L post h (pc + 1) ls (.long z :: st)) : V own cc nL ret F L post h pc ls (.long y :: .long x :: st) := fun p l e s m args below meth c X A H locs lsA C hP hS hl => lv_lsub C.1 C.2.1 d (k _ rfl p l e s m args below meth c X A H locs lsA C hP hS hl)
theorem V_lmul {x y : Int64} (d : decode cc pc = .ok (.lmul, 1)) (k : ∀ z : Int64, z = x * y → V own cc nL ret F L post h (pc + 1) ls (.long z :: st)) : V own cc nL ret F L post h pc ls (.long y :: .long x :: st) := fun p l e s m args below meth c X A H locs lsA C hP hS hl => lv_lmul C.1 C.2.1 d (k _ rfl p l e s m args below meth c X A H locs lsA C hP hS hl)
theorem V_ldiv {x y : Int64} (hne : ¬ y = 0) (d : decode cc pc = .ok (.ldiv, 1)) (k : ∀ z : Int64, z = x / y → V own cc nL ret F L post h (pc + 1) ls (.long z :: st)) : V own cc nL ret F L post h pc ls (.long y :: .long x :: st) := fun p l e s m args below meth c X A H locs lsA C hP hS hl => lv_ldiv C.1 C.2.1 d hne (k _ rfl p l e s m args below meth c X A H locs lsA C hP hS hl)
theorem V_lrem {x y : Int64} (hne : ¬ y = 0) (d : decode cc pc = .ok (.lrem, 1)) (k : ∀ z : Int64, z = x - x / y * y → V own cc nL ret F L post h (pc + 1) ls (.long z :: st)) : V own cc nL ret F L post h pc ls (.long y :: .long x :: st) := fun p l e s m args below meth c X A H locs lsA C hP hS hl => lv_lrem C.1 C.2.1 d hne (k _ rfl p l e s m args below meth c X A H locs lsA C hP hS hl)
theorem V_lcmp {x y : Int64} (d : decode cc pc = .ok (.lcmp, 1)) (k : ∀ z : Int32, z = lg_cmp x y → V own cc nL ret F L post h (pc + 1) ls (.int z :: st)) : V own cc nL ret F L post h pc ls (.long y :: .long x :: st) := fun p l e s m args below meth c X A H locs lsA C hP hS hl => W.lcmp C.1 C.2.1 d (k _ rfl p l e s m args below meth c X A H locs lsA C hP hS hl)
theorem V_i2l {x : Int32} (d : decode cc pc = .ok (.i2l, 1)) (k : ∀ z : Int64, z = x.toInt64 → z.toInt = x.toInt → V own cc nL ret F L post h (pc + 1) ls (.long z :: st)) : V own cc nL ret F L post h pc ls (.int x :: st) := fun p l e s m args below meth c X A H locs lsA C hP hS hl => lv_i2l C.1 C.2.1 d rfl (k _ rfl (Int32.toInt_toInt64 x) p l e s m args below meth c X A H locs lsA C hP hS hl)
theorem V_i2b {x : Int32} (d : decode cc pc = .ok (.i2b, 1)) (k : ∀ z : Int32, z = x.toInt8.toInt32 → V own cc nL ret F L post h (pc + 1) ls (.int z :: st)) : V own cc nL ret F L post h pc ls (.int x :: st) := fun p l e s m args below meth c X A H locs lsA C hP hS hl => lv_i2b C.1 C.2.1 d rfl (k _ rfl p l e s m args below meth c X A H locs lsA C hP hS hl)
theorem V_i2s {x : Int32} (d : decode cc pc = .ok (.i2s, 1)) (k : ∀ z : Int32, z = x.toInt16.toInt32 → V own cc nL ret F L post h (pc + 1) ls (.int z :: st)) : V own cc nL ret F L post h pc ls (.int x :: st) := fun p l e s m args below meth c X A H locs lsA C hP hS hl => lv_i2s C.1 C.2.1 d rfl (k _ rfl p l e s m args below meth c X A H locs lsA C hP hS hl)
theorem V_dup {v : Value} (d : decode cc pc = .ok (.dup, 1)) (hv : v.category = 1) (k : V own cc nL ret F L post h (pc + 1) ls (v :: v :: st)) : V own cc nL ret F L post h pc ls (v :: st) := fun p l e s m args below meth c X A H locs lsA C hP hS hl => lv_dup C.1 C.2.1 d ((rv_cat _ _).trans hv) (k p l e s m args below meth c X A H locs lsA C hP hS hl)
theorem V_pop {v : Value} (d : decode cc pc = .ok (.pop, 1)) (hv : v.category = 1) (k : V own cc nL ret F L post h (pc + 1) ls (st)) : V own cc nL ret F L post h pc ls (v :: st) := fun p l e s m args below meth c X A H locs lsA C hP hS hl => lv_pop C.1 C.2.1 d ((rv_cat _ _).trans hv) (k p l e s m args below meth c X A H locs lsA C hP hS hl)
theorem V_dup2 {v w : Value} (d : decode cc pc = .ok (.dup2, 1)) (hv : v.category = 1) (hw : w.category = 1) (k : V own cc nL ret F L post h (pc + 1) ls (v :: w :: v :: w :: st)) : V own cc nL ret F L post h pc ls (v :: w :: st) := fun p l e s m args below meth c X A H locs lsA C hP hS hl => lv_dup2_11 C.1 C.2.1 d ((rv_cat _ _).trans hv) ((rv_cat _ _).trans hw) (k p l e s m args below meth c X A H locs lsA C hP hS hl)
theorem V_icmp_eq {x y : Int32} {A B : Int} {off : Int} (tgt : Nat) (ha : x.toInt = A) (hb : y.toInt = B) (d : decode cc pc = .ok (.if_icmp .eq off, 3)) (ht : (pc : Int) + off = (tgt : Int)) (kt : A = B → V own cc nL ret F L post h tgt ls st) (kf : ¬ A = B → V own cc nL ret F L post h (pc + 3) ls st) : V own cc nL ret F L post h pc ls (.int y :: .int x :: st) := fun p l e s m args below meth c X A9 H locs lsA C hP hS hl => lv_icmp_eq C.1 C.2.1 d ht (fun q => kt ((ti_eq ha hb).mp q) p l e s m args below meth c X A9 H locs lsA C hP hS hl) (fun q => kf ((fun z => q ((ti_eq ha hb).mpr z))) p l e s m args below meth c X A9 H locs lsA C hP hS hl)
theorem V_if_eq {x : Int32} {A : Int} {off : Int} (tgt : Nat) (ha : x.toInt = A) (d : decode cc pc = .ok (.ifCond .eq off, 3)) (ht : (pc : Int) + off = (tgt : Int)) (kt : A = 0 → V own cc nL ret F L post h tgt ls st) (kf : ¬ A = 0 → V own cc nL ret F L post h (pc + 3) ls st) : V own cc nL ret F L post h pc ls (.int x :: st) := fun p l e s m args below meth c X A9 H locs lsA C hP hS hl => lv_if_eq C.1 C.2.1 d ht (fun q => kt ((ti_eq ha ti_0).mp q) p l e s m args below meth c X A9 H locs lsA C hP hS hl) (fun q => kf ((fun z => q ((ti_eq ha ti_0).mpr z))) p l e s m args below meth c X A9 H locs lsA C hP hS hl)
theorem V_icmp_ne {x y : Int32} {A B : Int} {off : Int} (tgt : Nat) (ha : x.toInt = A) (hb : y.toInt = B) (d : decode cc pc = .ok (.if_icmp .ne off, 3)) (ht : (pc : Int) + off = (tgt : Int)) (kt : ¬ A = B → V own cc nL ret F L post h tgt ls st) (kf : A = B → V own cc nL ret F L post h (pc + 3) ls st) : V own cc nL ret F L post h pc ls (.int y :: .int x :: st) := fun p l e s m args below meth c X A9 H locs lsA C hP hS hl => lv_icmp_ne C.1 C.2.1 d ht (fun q => kt (fun z => q ((ti_eq ha hb).mpr z)) p l e s m args below meth c X A9 H locs lsA C hP hS hl) (fun q => kf ((ti_eq ha hb).mp q) p l e s m args below meth c X A9 H locs lsA C hP hS hl)
theorem V_if_ne {x : Int32} {A : Int} {off : Int} (tgt : Nat) (ha : x.toInt = A) (d : decode cc pc = .ok (.ifCond .ne off, 3)) (ht : (pc : Int) + off = (tgt : Int)) (kt : ¬ A = 0 → V own cc nL ret F L post h tgt ls st) (kf : A = 0 → V own cc nL ret F L post h (pc + 3) ls st) : V own cc nL ret F L post h pc ls (.int x :: st) := fun p l e s m args below meth c X A9 H locs lsA C hP hS hl => lv_if_ne C.1 C.2.1 d ht (fun q => kt (fun z => q ((ti_eq ha ti_0).mpr z)) p l e s m args below meth c X A9 H locs lsA C hP hS hl) (fun q => kf ((ti_eq ha ti_0).mp q) p l e s m args below meth c X A9 H locs lsA C hP hS hl)
theorem V_icmp_lt {x y : Int32} {A B : Int} {off : Int} (tgt : Nat) (ha : x.toInt = A) (hb : y.toInt = B) (d : decode cc pc = .ok (.if_icmp .lt off, 3)) (ht : (pc : Int) + off = (tgt : Int)) (kt : A < B → V own cc nL ret F L post h tgt ls st) (kf : B ≤ A → V own cc nL ret F L post h (pc + 3) ls st) : V own cc nL ret F L post h pc ls (.int y :: .int x :: st) := fun p l e s m args below meth c X A9 H locs lsA C hP hS hl => lv_icmp_lt C.1 C.2.1 d ht (fun q => kt ((ti_lt ha hb).mp q) p l e s m args below meth c X A9 H locs lsA C hP hS hl) (fun q => kf (Int.not_lt.mp (fun z => q ((ti_lt ha hb).mpr z))) p l e s m args below meth c X A9 H locs lsA C hP hS hl)
theorem V_if_lt {x : Int32} {A : Int} {off : Int} (tgt : Nat) (ha : x.toInt = A) (d : decode cc pc = .ok (.ifCond .lt off, 3)) (ht : (pc : Int) + off = (tgt : Int)) (kt : A < 0 → V own cc nL ret F L post h tgt ls st) (kf : 0 ≤ A → V own cc nL ret F L post h (pc + 3) ls st) : V own cc nL ret F L post h pc ls (.int x :: st) := fun p l e s m args below meth c X A9 H locs lsA C hP hS hl => lv_if_lt C.1 C.2.1 d ht (fun q => kt ((ti_lt ha ti_0).mp q) p l e s m args below meth c X A9 H locs lsA C hP hS hl) (fun q => kf (Int.not_lt.mp (fun z => q ((ti_lt ha ti_0).mpr z))) p l e s m args below meth c X A9 H locs lsA C hP hS hl)
theorem V_icmp_ge {x y : Int32} {A B : Int} {off : Int} (tgt : Nat) (ha : x.toInt = A) (hb : y.toInt = B) (d : decode cc pc = .ok (.if_icmp .ge off, 3)) (ht : (pc : Int) + off = (tgt : Int)) (kt : B ≤ A → V own cc nL ret F L post h tgt ls st) (kf : A < B → V own cc nL ret F L post h (pc + 3) ls st) : V own cc nL ret F L post h pc ls (.int y :: .int x :: st) := fun p l e s m args below meth c X A9 H locs lsA C hP hS hl => lv_icmp_ge C.1 C.2.1 d ht (fun q => kt ((ti_le hb ha).mp q) p l e s m args below meth c X A9 H locs lsA C hP hS hl) (fun q => kf (Int.not_le.mp (fun z => q ((ti_le hb ha).mpr z))) p l e s m args below meth c X A9 H locs lsA C hP hS hl)
theorem V_if_ge {x : Int32} {A : Int} {off : Int} (tgt : Nat) (ha : x.toInt = A) (d : decode cc pc = .ok (.ifCond .ge off, 3)) (ht : (pc : Int) + off = (tgt : Int)) (kt : 0 ≤ A → V own cc nL ret F L post h tgt ls st) (kf : A < 0 → V own cc nL ret F L post h (pc + 3) ls st) : V own cc nL ret F L post h pc ls (.int x :: st) := fun p l e s m args below meth c X A9 H locs lsA C hP hS hl => lv_if_ge C.1 C.2.1 d ht (fun q => kt ((ti_le ti_0 ha).mp q) p l e s m args below meth c X A9 H locs lsA C hP hS hl) (fun q => kf (Int.not_le.mp (fun z => q ((ti_le ti_0 ha).mpr z))) p l e s m args below meth c X A9 H locs lsA C hP hS hl)
theorem V_icmp_gt {x y : Int32} {A B : Int} {off : Int} (tgt : Nat) (ha : x.toInt = A) (hb : y.toInt = B) (d : decode cc pc = .ok (.if_icmp .gt off, 3)) (ht : (pc : Int) + off = (tgt : Int)) (kt : B < A → V own cc nL ret F L post h tgt ls st) (kf : A ≤ B → V own cc nL ret F L post h (pc + 3) ls st) : V own cc nL ret F L post h pc ls (.int y :: .int x :: st) := fun p l e s m args below meth c X A9 H locs lsA C hP hS hl => lv_icmp_gt C.1 C.2.1 d ht (fun q => kt ((ti_lt hb ha).mp q) p l e s m args below meth c X A9 H locs lsA C hP hS hl) (fun q => kf (Int.not_lt.mp (fun z => q ((ti_lt hb ha).mpr z))) p l e s m args below meth c X A9 H locs lsA C hP hS hl)
theorem V_if_gt {x : Int32} {A : Int} {off : Int} (tgt : Nat) (ha : x.toInt = A) (d : decode cc pc = .ok (.ifCond .gt off, 3)) (ht : (pc : Int) + off = (tgt : Int)) (kt : 0 < A → V own cc nL ret F L post h tgt ls st) (kf : A ≤ 0 → V own cc nL ret F L post h (pc + 3) ls st) : V own cc nL ret F L post h pc ls (.int x :: st) := fun p l e s m args below meth c X A9 H locs lsA C hP hS hl => lv_if_gt C.1 C.2.1 d ht (fun q => kt ((ti_lt ti_0 ha).mp q) p l e s m args below meth c X A9 H locs lsA C hP hS hl) (fun q => kf (Int.not_lt.mp (fun z => q ((ti_lt ti_0 ha).mpr z))) p l e s m args below meth c X A9 H locs lsA C hP hS hl)
theorem V_icmp_le {x y : Int32} {A B : Int} {off : Int} (tgt : Nat) (ha : x.toInt = A) (hb : y.toInt = B) (d : decode cc pc = .ok (.if_icmp .le off, 3)) (ht : (pc : Int) + off = (tgt : Int)) (kt : A ≤ B → V own cc nL ret F L post h tgt ls st) (kf : B < A → V own cc nL ret F L post h (pc + 3) ls st) : V own cc nL ret F L post h pc ls (.int y :: .int x :: st) := fun p l e s m args below meth c X A9 H locs lsA C hP hS hl => lv_icmp_le C.1 C.2.1 d ht (fun q => kt ((ti_le ha hb).mp q) p l e s m args below meth c X A9 H locs lsA C hP hS hl) (fun q => kf (Int.not_le.mp (fun z => q ((ti_le ha hb).mpr z))) p l e s m args below meth c X A9 H locs lsA C hP hS hl)
theorem V_if_le {x : Int32} {A : Int} {off : Int} (tgt : Nat) (ha : x.toInt = A) (d : decode cc pc = .ok (.ifCond .le off, 3)) (ht : (pc : Int) + off = (tgt : Int)) (kt : A ≤ 0 → V own cc nL ret F L post h tgt ls st) (kf : 0 < A → V own cc nL ret F L post h (pc + 3) ls st) : V own cc nL ret F L post h pc ls (.int x :: st) := fun p l e s m args below meth c X A9 H locs lsA C hP hS hl => lv_if_le C.1 C.2.1 d ht (fun q => kt ((ti_le ha ti_0).mp q) p l e s m args below meth c X A9 H locs lsA C hP hS hl) (fun q => kf (Int.not_le.mp (fun z => q ((ti_le ha ti_0).mpr z))) p l e s m args below meth c X A9 H locs lsA C hP hS hl)
theorem V_goto {off : Int} (tgt : Nat) (d : decode cc pc = .ok (.goto off, 3)) (ht : (pc : Int) + off = (tgt : Int)) (k : V own cc nL ret F L post h tgt ls st) : V own cc nL ret F L post h pc ls st := fun p l e s m args below meth c X A H locs lsA C hP hS hl => lv_goto C.1 C.2.1 d ht (k p l e s m args below meth c X A H locs lsA C hP hS hl)
theorem V_tabOut {dflt lo hi : Int} {offs : Array Int} {len : Nat} {x : Int32} {A : Int} (tgt : Nat) (ha : x.toInt = A) (d : decode cc pc = .ok (.tableswitch dflt lo hi offs, len)) (hr : A < lo ∨ hi < A) (ht : (pc : Int) + dflt = (tgt : Int)) (k : V own cc nL ret F L post h tgt ls st) : V own cc nL ret F L post h pc ls (.int x :: st) := fun p l e s m args below meth c X A9 H locs lsA C hP hS hl => lv_tableOut C.1 C.2.1 d (by rw [ha]; exact hr) ht (k p l e s m args below meth c X A9 H locs lsA C hP hS hl)
theorem V_tabIn {dflt lo hi : Int} {offs : Array Int} {len : Nat} {x : Int32} {A : Int} {off : Int} (tgt : Nat) (ha : x.toInt = A) (d : decode cc pc = .ok (.tableswitch dflt lo hi offs, len)) (h1 : lo ≤ A) (h2 : A ≤ hi) (ho : offs[(A - lo).toNat]? = some off) (ht : (pc : Int) + off = (tgt : Int)) (k : V own cc nL ret F L post h tgt ls st) : V own cc nL ret F L post h pc ls (.int x :: st) := fun p l e s m args below meth c X A9 H locs lsA C hP hS hl => lv_tableIn C.1 C.2.1 d (by rw [ha]; omega) (by rw [ha]; omega) (by rw [ha]; exact ho) ht (k p l e s m args below meth c X A9 H locs lsA C hP hS hl)
theorem V_lookup {dflt : Int} {ps : Array (Int × Int)} {len : Nat} {x : Int32} {A off : Int} (tgt : Nat) (ha : x.toInt = A) (d : decode cc pc = .ok (.lookupswitch dflt ps, len)) (hp : (ps.toList.zip (ps.toList.drop 1)).all (fun (a, next) => a.1 < next.1) = true) (ho : Op.lookupswitch.offset ps.toList dflt A = off) (ht : (pc : Int) + off = (tgt : Int)) (k : V own cc nL ret F L post h tgt ls st) : V own cc nL ret F L post h pc ls (.int x :: st) := fun p l e s m args below meth c X A9 H locs lsA C hP hS hl => lv_lookup C.1 C.2.1 d hp (by rw [ha]; exact ho) ht (k p l e s m args below meth c X A9 H locs lsA C hP hS hl)
end VR
end
section
def FA (own : String) (idx ci i : Nat) : Prop := ∃ (C : String) (T : u_T) (N : Nat), classes[ci]? = some (C, T, N) ∧ (∀ w ∈ u_ws C T N, w ∈ vv_G) ∧ i < N ∧ Cond.fieldLink own idx (T i).1 (T i).2.1 (T i).2.2.1 ∈ vv_G
def FP (own : String) (idx ci i : Nat) (ty : FieldType) : Prop := ∃ (C : String) (T : u_T) (N : Nat) (t0 : Nat → FieldType), classes[ci]? = some (C, T, N) ∧ (∀ w ∈ u_ws C T N, w ∈ vv_G) ∧ i < N ∧ Cond.fieldLink own idx (T i).1 (T i).2.1 (T i).2.2.1 ∈ vv_G ∧ (∀ k, k < N → parseFieldDescriptor (T k).2.2.1 = some (t0 k)) ∧ (∀ a, a < N → ∀ b, b < N → a ≠ b → (T a).2.1 ≠ (T b).2.1) ∧ (T i).2.2.2 = false ∧ parseFieldDescriptor (T i).2.2.1 = some ty
section VH
variable {own : String} {cc : ByteArray} {nL : Nat} {ret : Option FieldType} {F L : Nat} {post : Option Value → Hp → Prop} {h : Hp} {pc : Nat} {ls : Pl} {st : List Value}
theorem V_get {idx ci i k : Nat} {ss : List Sl} {sl : Sl} (fa : FA own idx ci i) (hs : vv_sk[k]? = some (.inr (ci, ss))) (hi : ss[i]? = some sl) (d : decode cc pc = .ok (.getfield idx, 3)) (kk : V own cc nL ret F L post h (pc + 3) ls (slP h k i sl :: st)) : V own cc nL ret F L post h pc ls (.ref k :: st) := fun p l e s m args below meth c X A H locs lsA C hP hS hl => by
  obtain ⟨Cn, T, N, f1, f2, f3, f4⟩ := fa
  refine va_get (D := X.1) (ci := ci) (v := rv X.2.1 (slP h k i sl)) C.1 C.2.1 C.2.2.2.2.1 f2 C.2.2.2.1 C.2.2.2.2.2.2.2.1 hP k (wsX_get hs) f1 i f3 (C.2.2.2.2.1 _ f4) (fun _ q => q) ?_ d (kk p l e s m args below meth c X A H locs lsA C hP hS hl)
  rw [List.getElem?_mapIdx, hi]
  rfl
theorem V_getI {idx ci i k : Nat} {ss : List Sl} (fa : FA own idx ci i) (hs : vv_sk[k]? = some (.inr (ci, ss))) (hi : ss[i]? = some (.inr false)) (d : decode cc pc = .ok (.getfield idx, 3)) (kk : V own cc nL ret F L post h (pc + 3) ls (.int (h.1 k i) :: st)) : V own cc nL ret F L post h pc ls (.ref k :: st) := V_get fa hs hi d kk
theorem V_getR {idx ci i k r : Nat} {ss : List Sl} (fa : FA own idx ci i) (hs : vv_sk[k]? = some (.inr (ci, ss))) (hi : ss[i]? = some (.inl r)) (d : decode cc pc = .ok (.getfield idx, 3)) (kk : V own cc nL ret F L post h (pc + 3) ls (.ref r :: st)) : V own cc nL ret F L post h pc ls (.ref k :: st) := V_get fa hs hi d kk
theorem V_getL {idx ci i k : Nat} {ss : List Sl} (fa : FA own idx ci i) (hs : vv_sk[k]? = some (.inr (ci, ss))) (hi : ss[i]? = some (.inr true)) (d : decode cc pc = .ok (.getfield idx, 3)) (kk : V own cc nL ret F L post h (pc + 3) ls (.long h.2 :: st)) : V own cc nL ret F L post h pc ls (.ref k :: st) := V_get fa hs hi d kk
theorem V_putI {idx ci i k : Nat} {ss : List Sl} {x : Int32} (fp : FP own idx ci i .int) (hs : vv_sk[k]? = some (.inr (ci, ss))) (hi : ss[i]? = some (.inr false)) (d : decode cc pc = .ok (.putfield idx, 3)) (kk : V own cc nL ret F L post (pI h k i x) (pc + 3) ls st) : V own cc nL ret F L post h pc ls (.int x :: .ref k :: st) := fun p l e s m args below meth c X A H locs lsA C hP hS hl => by
  obtain ⟨Cn, T, N, t0, f1, f2, f3, f4, f5, f6, f7, f8⟩ := fp
  refine va_put (D := X.1) (ci := ci) (v := .int x) (ty := .int) C.1 C.2.1 C.2.2.2.2.1 f2 t0 f5 f6 C.2.2.2.1 C.2.2.2.2.2.2.2.1 hP (C.2.2.2.2.2.2.2.2.1.D h) hS k (wsX_get hs) f1 i f3 (C.2.2.2.2.1 _ f4) (fun _ q => q) f7 f8 rfl rfl ?_ d (fun H1 locs1 hP1 _ hS1 => ?_)
  · rw [List.length_mapIdx]
    exact (List.getElem?_eq_some_iff.mp hi).1
  · rw [wsX_fld hs hi] at hP1
    exact kk p l e s m args below meth c X A H1 locs1 lsA C hP1 hS1 hl
theorem V_putL {idx ci : Nat} {ss : List Sl} {x : Int64} (fp : FP own idx ci 26 .long) (hs : vv_sk[116]? = some (.inr (ci, ss))) (hi : ss[26]? = some (.inr true)) (ho : ∀ j : Nat, j ≠ 26 → ss[j]? ≠ some (.inr true)) (d : decode cc pc = .ok (.putfield idx, 3)) (kk : V own cc nL ret F L post (pL h x) (pc + 3) ls st) : V own cc nL ret F L post h pc ls (.long x :: .ref 116 :: st) := fun p l e s m args below meth c X A H locs lsA C hP hS hl => by
  obtain ⟨Cn, T, N, t0, f1, f2, f3, f4, f5, f6, f7, f8⟩ := fp
  refine va_put (D := X.1) (ci := ci) (v := .long x) (ty := .long) C.1 C.2.1 C.2.2.2.2.1 f2 t0 f5 f6 C.2.2.2.1 C.2.2.2.2.2.2.2.1 hP (C.2.2.2.2.2.2.2.2.1.D h) hS 116 (wsX_get hs) f1 26 f3 (C.2.2.2.2.1 _ f4) (fun _ q => q) f7 f8 rfl rfl ?_ d (fun H1 locs1 hP1 _ hS1 => ?_)
  · rw [List.length_mapIdx]
    exact (List.getElem?_eq_some_iff.mp hi).1
  · rw [wsX_long hs hi ho] at hP1
    exact kk p l e s m args below meth c X A H1 locs1 lsA C hP1 hS1 hl
theorem V_iald {k n : Nat} {i : Int32} {I : Int} (hs : vv_sk[k]? = some (vv_ar n)) (ha : i.toInt = I) (hin : 0 ≤ I ∧ I < n) (d : decode cc pc = .ok (.iaload, 1)) (kk : ∀ z : Int32, z = h.1 k I.toNat → V own cc nL ret F L post h (pc + 1) ls (.int z :: st)) : V own cc nL ret F L post h pc ls (.int i :: .ref k :: st) := fun p l e s m args below meth c X A H locs lsA C hP hS hl => by
  refine va_iald (D := X.1) C.1 C.2.1 C.2.2.2.2.2.2.2.1 hP k 0 (wsX_get hs) rfl (vp_in_of_ti ha hin) d ?_
  rw [ti_cl, ha]
  exact kk _ rfl p l e s m args below meth c X A H locs lsA C hP hS hl
theorem V_iast {k n : Nat} {i x : Int32} {I : Int} (hs : vv_sk[k]? = some (vv_ar n)) (ha : i.toInt = I) (hin : 0 ≤ I ∧ I < n) (d : decode cc pc = .ok (.iastore, 1)) (kk : V own cc nL ret F L post (pI h k I.toNat x) (pc + 1) ls st) : V own cc nL ret F L post h pc ls (.int x :: .int i :: .ref k :: st) := fun p l e s m args below meth c X A H locs lsA C hP hS hl => by
  refine va_iast (D := X.1) C.1 C.2.1 C.2.2.2.2.2.2.2.1 hP (C.2.2.2.2.2.2.2.2.1.D h) hS k 0 (wsX_get hs) rfl (vp_in_of_ti ha hin) d (fun H1 locs1 hP1 _ hS1 => ?_)
  rw [wsX_row hs, ti_cl, ha] at hP1
  exact kk p l e s m args below meth c X A H1 locs1 lsA C hP1 hS1 hl
theorem V_bald {k n : Nat} {i : Int32} {I : Int} (hs : vv_sk[k]? = some (.inl (1, n, none))) (ha : i.toInt = I) (hin : 0 ≤ I ∧ I < n) (d : decode cc pc = .ok (.baload, 1)) (kk : ∀ z : Int32, z = h.1 k I.toNat → V own cc nL ret F L post h (pc + 1) ls (.int z :: st)) : V own cc nL ret F L post h pc ls (.int i :: .ref k :: st) := fun p l e s m args below meth c X A H locs lsA C hP hS hl => by
  refine va_bald (D := X.1) C.1 C.2.1 C.2.2.2.2.2.2.2.1 hP k 1 (wsX_get hs) rfl (vp_in_of_ti ha hin) d ?_
  rw [ti_cl, ha]
  exact kk _ rfl p l e s m args below meth c X A H locs lsA C hP hS hl
theorem V_bast {k n : Nat} {i x : Int32} {I : Int} (hs : vv_sk[k]? = some (.inl (1, n, none))) (ha : i.toInt = I) (hin : 0 ≤ I ∧ I < n) (d : decode cc pc = .ok (.bastore, 1)) (kk : V own cc nL ret F L post (pI h k I.toNat (vp_nar .byte x)) (pc + 1) ls st) : V own cc nL ret F L post h pc ls (.int x :: .int i :: .ref k :: st) := fun p l e s m args below meth c X A H locs lsA C hP hS hl => by
  refine va_bast (D := X.1) C.1 C.2.1 C.2.2.2.2.2.2.2.1 hP (C.2.2.2.2.2.2.2.2.1.D h) hS k 1 (wsX_get hs) rfl (vp_in_of_ti ha hin) d (fun H1 locs1 hP1 _ hS1 => ?_)
  rw [wsX_row hs, ti_cl, ha] at hP1
  exact kk p l e s m args below meth c X A H1 locs1 lsA C hP1 hS1 hl
theorem V_zald {k n : Nat} {i : Int32} {I : Int} (hs : vv_sk[k]? = some (.inl (2, n, none))) (ha : i.toInt = I) (hin : 0 ≤ I ∧ I < n) (d : decode cc pc = .ok (.baload, 1)) (kk : ∀ z : Int32, z = h.1 k I.toNat → V own cc nL ret F L post h (pc + 1) ls (.int z :: st)) : V own cc nL ret F L post h pc ls (.int i :: .ref k :: st) := fun p l e s m args below meth c X A H locs lsA C hP hS hl => by
  refine va_zald (D := X.1) C.1 C.2.1 C.2.2.2.2.2.2.2.1 hP k 2 (wsX_get hs) rfl (vp_in_of_ti ha hin) d ?_
  rw [ti_cl, ha]
  exact kk _ rfl p l e s m args below meth c X A H locs lsA C hP hS hl
theorem V_zast {k n : Nat} {i x : Int32} {I : Int} (hs : vv_sk[k]? = some (.inl (2, n, none))) (ha : i.toInt = I) (hin : 0 ≤ I ∧ I < n) (d : decode cc pc = .ok (.bastore, 1)) (kk : V own cc nL ret F L post (pI h k I.toNat (vp_nar .boolean x)) (pc + 1) ls st) : V own cc nL ret F L post h pc ls (.int x :: .int i :: .ref k :: st) := fun p l e s m args below meth c X A H locs lsA C hP hS hl => by
  refine va_zast (D := X.1) C.1 C.2.1 C.2.2.2.2.2.2.2.1 hP (C.2.2.2.2.2.2.2.2.1.D h) hS k 2 (wsX_get hs) rfl (vp_in_of_ti ha hin) d (fun H1 locs1 hP1 _ hS1 => ?_)
  rw [wsX_row hs, ti_cl, ha] at hP1
  exact kk p l e s m args below meth c X A H1 locs1 lsA C hP1 hS1 hl
theorem V_aald {k n t r : Nat} {fl : List Nat} {i : Int32} {I : Int} (hs : vv_sk[k]? = some (.inl (t, n, some fl))) (ht : t = 3 ∨ t = 4 ∨ t = 5) (ha : i.toInt = I) (hin : 0 ≤ I ∧ I < n) (hr : fl[I.toNat]? = some r) (d : decode cc pc = .ok (.aaload, 1)) (kk : V own cc nL ret F L post h (pc + 1) ls (.ref r :: st)) : V own cc nL ret F L post h pc ls (.int i :: .ref k :: st) := fun p l e s m args below meth c X A H locs lsA C hP hS hl => by
  have hvi := vp_in_of_ti ha hin
  have hlt : i.toNatClampNeg < n := Nat.not_le.mp fun q => hvi (Or.inr q)
  have hv : va_rf ((fun j => (fl[j]?).map X.2.1) i.toNatClampNeg) = rv X.2.1 (.ref r) := by
    show va_rf ((fl[i.toNatClampNeg]?).map X.2.1) = _
    rw [ti_cl, ha, hr]
    rfl
  have hk := kk p l e s m args below meth c X A H locs lsA C hP hS hl
  have hcell := hP k _ (wsX_get hs)
  have hK := C.2.2.2.2.2.2.2.1
  have hw : ∀ ty : FieldType, ty.isReference = true → (tysX X)[t]? = some (X.2.2 t, ty) → W p l e (rmOf F L) s m args below meth c H locs 0 0 (MQ below (QcOf X A post) args s 0 0 A) (F0 m pc lsA ((.int i :: .ref k :: st).map (rv X.2.1))) := fun ty hty htt =>
    W.aald (v := rv X.2.1 (.ref r)) (ty := ty) C.1 C.2.1 hcell ((hK.2 t _ htt).1 n (fun j => va_rf ((fl[j]?).map X.2.1))) hty (fun q => by cases q) (by show ¬ (i < 0 ∨ (arrV _ _ _).slots.size ≤ _); rw [arrV_size]; exact hvi) (by show (arrV _ _ _).slots[_]? = _; rw [arrV_read _ _ hlt]; exact congrArg some hv) rfl rfl d hk
  rcases ht with rfl | rfl | rfl
  · exact hw (.object "RodOwes$County") rfl rfl
  · exact hw (.object "RodOwes$Sheet") rfl rfl
  · exact hw (.array .int) rfl rfl
theorem V_alen {k n t : Nat} {o : Option (List Nat)} {v : Int32} (hs : vv_sk[k]? = some (.inl (t, n, o))) (ht : t < 6) (hv : Int32.ofNat n = v) (d : decode cc pc = .ok (.arraylength, 1)) (kk : V own cc nL ret F L post h (pc + 1) ls (.int v :: st)) : V own cc nL ret F L post h pc ls (.ref k :: st) := fun p l e s m args below meth c X A H locs lsA C hP hS hl => by
  have hk := kk p l e s m args below meth c X A H locs lsA C hP hS hl
  obtain ⟨ty, hty⟩ : ∃ ty, (tysX X)[t]? = some (X.2.2 t, ty) := by
    rcases (by omega : t = 0 ∨ t = 1 ∨ t = 2 ∨ t = 3 ∨ t = 4 ∨ t = 5) with rfl | rfl | rfl | rfl | rfl | rfl <;> exact ⟨_, rfl⟩
  cases o with
  | none => exact va_alen (D := X.1) C.1 C.2.1 C.2.2.2.2.2.2.2.1 hP k t (wsX_get hs) hty hv d hk
  | some f => exact va_alen (D := X.1) C.1 C.2.1 C.2.2.2.2.2.2.2.1 hP k t (wsX_get hs) hty hv d hk
theorem V_iret {x : Int32} (hr : ret = some .int) (d : decode cc pc = .ok (.ireturn, 1)) (hp : post (some (.int x)) h) : V own cc nL ret F L post h pc ls [.int x] := fun p l e s m args below meth c X A H locs lsA C hP hS hl => by
  subst hr
  have hlocks : meth.locks = false := C.2.2.2.2.2.1
  exact W.iret (v := x) C.1 C.2.1 C.2.2.2.2.2.2.1 (fun t ht hW => ⟨⟨some (.int x), h, rfl, hp, by rw [ht]; exact hP⟩, hS.F ht⟩) hS.2.2 d
theorem V_lret {x : Int64} (hr : ret = some .long) (d : decode cc pc = .ok (.lreturn, 1)) (hp : post (some (.long x)) h) : V own cc nL ret F L post h pc ls [.long x] := fun p l e s m args below meth c X A H locs lsA C hP hS hl => by
  subst hr
  have hlocks : meth.locks = false := C.2.2.2.2.2.1
  exact W.lret (v := x) C.1 C.2.1 C.2.2.2.2.2.2.1 (fun t ht hW => ⟨⟨some (.long x), h, rfl, hp, by rw [ht]; exact hP⟩, hS.F ht⟩) hS.2.2 d
theorem V_vret (hr : ret = none) (d : decode cc pc = .ok (.return_, 1)) (hp : post none h) : V own cc nL ret F L post h pc ls [] := fun p l e s m args below meth c X A H locs lsA C hP hS hl => by
  subst hr
  have hlocks : meth.locks = false := C.2.2.2.2.2.1
  exact W.vret C.1 C.2.1 C.2.2.2.2.2.2.1 (fun t ht hW => ⟨⟨none, h, rfl, hp, by rw [ht]; exact hP⟩, hS.F ht⟩) hS.2.2 d
theorem V_nret {x : Int32} {ty : FieldType} (hr : ret = some ty) (hn : narrow ty (.int x) = .int x) (d : decode cc pc = .ok (.ireturn, 1)) (hp : post (some (.int x)) h) : V own cc nL ret F L post h pc ls [.int x] := fun p l e s m args below meth c X A H locs lsA C hP hS hl => by
  subst hr
  have hlocks : meth.locks = false := C.2.2.2.2.2.1
  exact W.zret (v := x) C.1 C.2.1 C.2.2.2.2.2.2.1 hn (fun t ht hW => ⟨⟨some (.int x), h, rfl, hp, by rw [ht]; exact hP⟩, hS.F ht⟩) hS.2.2 d
theorem V_zret {x : Int32} (hr : ret = some .boolean) (hx : x.toInt = 0 ∨ x.toInt = 1) (d : decode cc pc = .ok (.ireturn, 1)) (hp : post (some (.int x)) h) : V own cc nL ret F L post h pc ls [.int x] := by
  refine V_nret hr ?_ d hp
  rcases hx with q | q
  · rw [(ti_eq q ti_0).mpr rfl]; rfl
  · rw [(ti_eq (y := 1) q rfl).mpr rfl]; rfl
theorem V_aret {k : Nat} {C0 : String} (hr : ret = some (.object C0)) (d : decode cc pc = .ok (.areturn, 1)) (hp : post (some (.ref k)) h) : V own cc nL ret F L post h pc ls [.ref k] := fun p l e s m args below meth c X A H locs lsA C hP hS hl => by
  subst hr
  have hlocks : meth.locks = false := C.2.2.2.2.2.1
  exact W.aret (v := .ref (X.2.1 k)) C.1 C.2.1 C.2.2.2.2.2.2.1 (Or.inl ⟨_, rfl⟩) (Or.inr ⟨_, rfl⟩) (fun t ht hW => ⟨⟨some (.ref k), h, rfl, hp, by rw [ht]; exact hP⟩, hS.F ht⟩) hS.2.2 d
end VH
abbrev pInt (P : Int32 → Hp → Prop) : Option Value → Hp → Prop := fun r h => ∃ x : Int32, r = some (.int x) ∧ P x h
abbrev pLng (P : Int64 → Hp → Prop) : Option Value → Hp → Prop := fun r h => ∃ x : Int64, r = some (.long x) ∧ P x h
abbrev pRef (P : Nat → Hp → Prop) : Option Value → Hp → Prop := fun r h => ∃ x : Nat, r = some (.ref x) ∧ P x h
abbrev pVd (P : Hp → Prop) : Option Value → Hp → Prop := fun r h => r = none ∧ P h
def CB (y : MethodName) (cc' : ByteArray) (nL' : Nat) (ret' : Option FieldType) (n : Nat) : Prop := Cond.code y cc' nL' ret' ∈ vv_G ∧ (y.cls ≠ "java/lang/invoke/MethodHandle" ∧ y.cls ≠ "java/lang/invoke/VarHandle" ∧ (parseMethodDescriptor y.desc).map (fun d => d.parameters.length) = some n) ∧ Cond.initialized y.cls ∈ vv_G
def CV (own : String) (idx : Nat) (y : MethodName) (cc' : ByteArray) (nL' : Nat) (ret' : Option FieldType) (n : Nat) : Prop := CB y cc' nL' ret' n ∧ Cond.instanceMethod y ∈ vv_G ∧ Cond.selects y.cls y y ∈ vv_G ∧ Cond.methodLink own idx y ∈ vv_G
def CS (own : String) (idx : Nat) (y : MethodName) (cc' : ByteArray) (nL' : Nat) (ret' : Option FieldType) (n : Nat) : Prop := CB y cc' nL' ret' n ∧ Cond.static y ∈ vv_G ∧ (Cond.methodLink own idx y ∈ vv_G ∨ (own, idx, y) ∈ vv_nest)
theorem vv_good {w : Cond} (hw : w ∈ vv_G) : GoodIn vv_G (w :: vv_G) := fun x hx => (List.mem_cons.mp hx).elim (fun e => by rw [e]; exact vv_GG w hw) (fun h => vv_GG x h)
theorem vv_AA {X : Xc} {A : Nat → Prop} {sz : Nat} (hA : adOk X A) (hz : ∀ q : Nat, sz ≤ q → A q) : ∀ q : Nat, vv_A X sz q → A q := fun q hq => hq.elim (fun ⟨k, hk, e⟩ => by rw [e]; exact hA.2 k hk) (fun h => hz q h)
section VC
variable {own : String} {cc : ByteArray} {nL : Nat} {ret : Option FieldType} {F L : Nat} {post : Option Value → Hp → Prop} {h : Hp} {pc : Nat} {ls : Pl} {st : List Value}
variable {p : Program} {l : Launch} {e : Env} {s : State} {m : MethodId} {args : Array Value} {below : List Frame} {meth : Method} {c : Code} {X : Xc} {A : Nat → Prop} {H : Heap} {locs : List Loc} {lsA : Array Slot}
theorem vv_pre (C : Cx own cc nL ret p s m args meth c X A) (hP : va_P X.1 classes (wsX X h) H) (hS : va_S A s.heap H locs) (As : List Value) : FrameBlind (va_Pc (As.map (rv X.2.1)) (fun U => U.heap.size = H.size ∧ va_P X.1 classes (wsX X h) U.heap ∧ va_K X.1 classes (tysX X) U ∧ adOk X (vv_A X H.size) ∧ Ro X (vv_A X H.size) U U.heap)) ∧ ∀ U : State, U.heap = H → s.WarmedH U.vm → va_Pc (As.map (rv X.2.1)) (fun U => U.heap.size = H.size ∧ va_P X.1 classes (wsX X h) U.heap ∧ va_K X.1 classes (tysX X) U ∧ adOk X (vv_A X H.size) ∧ Ro X (vv_A X H.size) U U.heap) (As.map (rv X.2.1)).toArray U := by
  refine ⟨fun a U g mk q => ?_, fun U hU hW => ⟨rfl, ?_⟩⟩
  · obtain ⟨q0, q1, qP, qK, qA, qR⟩ := q
    exact ⟨q0, q1, qP, va_K.moved (u := U) (U := U.calling g mk a) (Vm.Alike.refl U.vm) qK, qA, Ro.blind g mk a qR⟩
  · have hA := C.2.2.2.2.2.2.2.2.1
    have hz := C.2.2.2.2.2.2.2.2.2.1
    refine ⟨by rw [hU], by rw [hU]; exact hP, va_K.moved hW.alike C.2.2.2.2.2.2.2.1, ⟨hA.1, fun k hk => Or.inl ⟨k, hk, rfl⟩⟩, ?_⟩
    rw [hU]
    exact Ro.to hW (fun a h1 h2 => hS.2.1 a h1 h2) (vv_AA hA (fun q hq => hz q (Nat.le_trans hS.1 hq))) C.2.2.2.2.2.2.2.2.2.2
theorem vv_after {st0 rest : List Value} {a : Array Value} {post' : Option Value → Hp → Prop} (hr : va_Run p l e (rmOf F L) s m args below meth c H locs 0 0 0 0 (F0 m pc lsA st0) (rest.map (rv X.2.1)) (QcOf X (vv_A X H.size) post' a) (vv_A X H.size)) (C : Cx own cc nL ret p s m args meth c X A) (hS : va_S A s.heap H locs) (hl : lh X.2.1 lsA nL ls)
    (kk : ∀ (r : Option Value) (h' : Hp), post' r h' → V own cc nL ret F L post h' (pc + 3) ls (r.toList ++ rest)) : W p l e (rmOf F L) s m args below meth c H locs 0 0 (MQ below (QcOf X A post) args s 0 0 A) (F0 m pc lsA st0) := by
  intro T hT Xs
  obtain ⟨v, st₀, t, T', L', h0, X', hL, e1, e2, ⟨⟨r, h', hv, hp, hb⟩, hz, hk⟩, stp⟩ := hr T hT Xs
  have hv' : v = r.map (rv X.2.1) := by injection hv
  subst hv'
  rw [h0] at hz hk
  have hAA := vv_AA C.2.2.2.2.2.2.2.2.1 (fun q (hq : H.size ≤ q) => C.2.2.2.2.2.2.2.2.2.1 q (Nat.le_trans hS.1 hq))
  have hS' : va_S A s.heap T'.heap (locs ++ L') := ⟨Nat.le_trans hS.1 (by rw [e1]; exact hz), fun q h1 h2 => by rw [e1, hk q (Nat.lt_of_lt_of_le h1 hS.1) (fun z => h2 (hAA q z))]; exact hS.2.1 q h1 h2, fun q hq => by
      rcases List.mem_append.mp hq with h | h
      · exact hS.2.2 q h
      · exact hAA _ (hL q h)⟩
  obtain ⟨t2, a1, b1⟩ := kk r h' hp p l e s m args below meth c X A T'.heap (locs ++ L') lsA C (by rw [e1]; exact hb) hS' hl T' rfl X'
  refine ⟨t2, stp t2 ?_, b1⟩
  have hst : ((r.toList ++ rest).map (rv X.2.1)) = (r.map (rv X.2.1)).toList ++ rest.map (rv X.2.1) := by cases r <;> simp
  rw [hst] at a1
  exact a1
theorem vv_room {rest : List Value} (ad : Nat → Nat) (hrm : (rest.map fun v => v.category).sum ≤ 8) : ((rest.map (rv ad)).map fun v => v.category).sum ≤ 8 := by
  rw [List.map_map]
  have : ((fun v : Value => v.category) ∘ rv ad) = fun v => v.category := by funext v; exact rv_cat ad v
  rw [this]
  exact hrm
end VC
section VD
variable {own : String} {cc : ByteArray} {nL : Nat} {ret : Option FieldType} {F L : Nat} {post : Option Value → Hp → Prop} {h : Hp} {pc : Nat} {ls : Pl} {st : List Value}
theorem V_callV {y : MethodName} {cc' : ByteArray} {nL' : Nat} {ret' : Option FieldType} {F' L' idx b ci : Nat} {ss : List Sl} {post' : Option Value → Hp → Prop} (As rest : List Value) (cv : CV own idx y cc' nL' ret' As.length) (hs : vv_sk[b]? = some (.inr (ci, ss))) (hcl : (classes[ci]?).map (fun q => q.1) = some y.cls) (d : decode cc pc = .ok (.invokevirtual idx, 3)) (hst : st = As.reverse ++ .ref b :: rest) (hrm : (rest.map fun v => v.category).sum ≤ 8) (hF : F' + 1 ≤ F) (hL : 8 + (nL' + 11) + L' ≤ L)
    (ct : Ct y cc' nL' ret' F' L' (.ref b :: As) h post') (kk : ∀ (r : Option Value) (h' : Hp), post' r h' → V own cc nL ret F L post h' (pc + 3) ls (r.toList ++ rest)) : V own cc nL ret F L post h pc ls st := fun p l e s m args below meth c X A H locs lsA C hP hS hl => by
  obtain ⟨⟨q1, q2, q3⟩, q4, q5, q6⟩ := cv
  obtain ⟨r, hr, hrc⟩ : ∃ r, classes[ci]? = some r ∧ r.1 = y.cls := by
    cases hz : classes[ci]? with
    | none => rw [hz] at hcl; cases hcl
    | some r => rw [hz] at hcl; exact ⟨r, rfl, Option.some.inj hcl⟩
  have hts := C.2.2.2.2.1
  obtain ⟨b1, b2⟩ := vv_pre C hP hS (.ref b :: As)
  have hrecv := va_recv C.2.2.2.2.2.2.2.1 hP hr (wsX_get hs)
  rw [hrc] at hrecv
  refine vv_after (rest := rest) (va_runV (Ts := vv_G) (As := As.map (rv X.2.1)) (b := X.2.1 b) (C := y.cls) (n := As.length) ⟨C.1, C.2.1, C.2.2.1, C.2.2.2.1, hts⟩ (ct l X H.size) ⟨callB_of As.length hts (vv_good q1) rfl rfl rfl (hts _ q3) (hts _ q6) q2 ⟨hF, hL⟩, hts _ q4, hts _ q5⟩ ⟨b1, hrecv, b2⟩ rfl (List.length_map _) hl.1 ?_ (lv_room (vv_room _ hrm)) d ⟨Nat.le_refl _, Nat.le_refl _⟩) C hS hl kk
  rw [hst]
  simp [rv]
theorem V_callS {y : MethodName} {cc' : ByteArray} {nL' : Nat} {ret' : Option FieldType} {F' L' idx : Nat} {post' : Option Value → Hp → Prop} (As rest : List Value) (cv : CS own idx y cc' nL' ret' As.length) (d : decode cc pc = .ok (.invokestatic idx, 3)) (hst : st = As.reverse ++ rest) (hrm : (rest.map fun v => v.category).sum ≤ 8) (hF : F' + 1 ≤ F) (hL : 8 + (nL' + 11) + L' ≤ L)
    (ct : Ct y cc' nL' ret' F' L' As h post') (kk : ∀ (r : Option Value) (h' : Hp), post' r h' → V own cc nL ret F L post h' (pc + 3) ls (r.toList ++ rest)) : V own cc nL ret F L post h pc ls st := fun p l e s m args below meth c X A H locs lsA C hP hS hl => by
  obtain ⟨⟨q1, q2, q3⟩, q4, q6⟩ := cv
  have hts := C.2.2.2.2.1
  obtain ⟨b1, b2⟩ := vv_pre C hP hS As
  have hst2 : (F0 m pc lsA (st.map (rv X.2.1))).stack = (As.map (rv X.2.1)).reverse ++ rest.map (rv X.2.1) := by
    rw [hst]; simp
  rcases q6 with q6 | q6
  · exact vv_after (rest := rest) (va_runS (Ts := vv_G) (As := As.map (rv X.2.1)) (n := As.length) ⟨C.1, C.2.1, C.2.2.1, C.2.2.2.1, hts⟩ (ct l X H.size) ⟨callB_of As.length hts (vv_good q1) rfl rfl rfl (hts _ q3) (hts _ q6) q2 ⟨hF, hL⟩, hts _ q4⟩ ⟨b1, b2⟩ rfl (List.length_map _) hl.1 hst2 (lv_room (vv_room _ hrm)) d ⟨Nat.le_refl _, Nat.le_refl _⟩) C hS hl kk
  · have hN := C.2.2.2.2.2.2.2.2.2.2.2.2.2.2.2.2.2 _ q6
    exact vv_after (rest := rest) (va_runSN (Ts := vv_G) (As := As.map (rv X.2.1)) (n := As.length) ⟨C.1, C.2.1, C.2.2.1, C.2.2.2.1, hts⟩ (ct l X H.size) ⟨va_cnB As.length hts (vv_good q1) rfl rfl rfl hN (hts _ q3) q2 ⟨hF, hL⟩, hts _ q4, trivial⟩ ⟨b1, b2⟩ rfl (List.length_map _) hl.1 hst2 (lv_room (vv_room _ hrm)) d ⟨Nat.le_refl _, Nat.le_refl _⟩) C hS hl kk
end VD
end
section
section VM
variable {own : String} {cc : ByteArray} {nL : Nat} {ret : Option FieldType} {F L : Nat} {post : Option Value → Hp → Prop} {h : Hp} {pc : Nat} {ls : Pl} {st : List Value}
theorem N_getI {idx ci i k : Nat} {ss : List Sl} (fa : FA own idx ci i) (hs : vv_sk[k]? = some (.inr (ci, ss))) (hi : ss[i]? = some (.inr false)) (d : decode cc pc = .ok (.getfield idx, 3)) (kk : ∀ (z : Int32) (Z : Int), z.toInt = Z → z = h.1 k i → V own cc nL ret F L post h (pc + 3) ls (.int z :: st)) : V own cc nL ret F L post h pc ls (.ref k :: st) := V_getI fa hs hi d (kk _ _ rfl rfl)
theorem N_getK {idx ci i k : Nat} {ss : List Sl} {z : Int32} (fa : FA own idx ci i) (hs : vv_sk[k]? = some (.inr (ci, ss))) (hi : ss[i]? = some (.inr false)) (d : decode cc pc = .ok (.getfield idx, 3)) (hk : h.1 k i = z) (kk : V own cc nL ret F L post h (pc + 3) ls (.int z :: st)) : V own cc nL ret F L post h pc ls (.ref k :: st) := V_getI fa hs hi d (by rw [hk]; exact kk)
theorem N_putI {idx ci i k : Nat} {ss : List Sl} {x : Int32} (fp : FP own idx ci i .int) (hs : vv_sk[k]? = some (.inr (ci, ss))) (hi : ss[i]? = some (.inr false)) (d : decode cc pc = .ok (.putfield idx, 3)) (kk : ∀ h2 : Hp, h2 = pI h k i x → V own cc nL ret F L post h2 (pc + 3) ls st) : V own cc nL ret F L post h pc ls (.int x :: .ref k :: st) := V_putI fp hs hi d (kk _ rfl)
theorem N_putL {idx ci : Nat} {ss : List Sl} {x : Int64} (fp : FP own idx ci 26 .long) (hs : vv_sk[116]? = some (.inr (ci, ss))) (hi : ss[26]? = some (.inr true)) (ho : ∀ j : Nat, j ≠ 26 → ss[j]? ≠ some (.inr true)) (d : decode cc pc = .ok (.putfield idx, 3)) (kk : ∀ h2 : Hp, h2 = pL h x → V own cc nL ret F L post h2 (pc + 3) ls st) : V own cc nL ret F L post h pc ls (.long x :: .ref 116 :: st) := V_putL fp hs hi ho d (kk _ rfl)
theorem N_iald {k n : Nat} {i : Int32} {I : Int} (hs : vv_sk[k]? = some (vv_ar n)) (ha : i.toInt = I) (hin : 0 ≤ I ∧ I < n) (d : decode cc pc = .ok (.iaload, 1)) (kk : ∀ (z : Int32) (Z : Int), z.toInt = Z → z = h.1 k I.toNat → V own cc nL ret F L post h (pc + 1) ls (.int z :: st)) : V own cc nL ret F L post h pc ls (.int i :: .ref k :: st) := V_iald hs ha hin d (fun z e => kk z _ rfl e)
theorem N_iast {k n : Nat} {i x : Int32} {I : Int} (hs : vv_sk[k]? = some (vv_ar n)) (ha : i.toInt = I) (hin : 0 ≤ I ∧ I < n) (d : decode cc pc = .ok (.iastore, 1)) (kk : ∀ h2 : Hp, h2 = pI h k I.toNat x → V own cc nL ret F L post h2 (pc + 1) ls st) : V own cc nL ret F L post h pc ls (.int x :: .int i :: .ref k :: st) := V_iast hs ha hin d (kk _ rfl)
theorem N_bald {k n : Nat} {i : Int32} {I : Int} (hs : vv_sk[k]? = some (.inl (1, n, none))) (ha : i.toInt = I) (hin : 0 ≤ I ∧ I < n) (d : decode cc pc = .ok (.baload, 1)) (kk : ∀ (z : Int32) (Z : Int), z.toInt = Z → z = h.1 k I.toNat → V own cc nL ret F L post h (pc + 1) ls (.int z :: st)) : V own cc nL ret F L post h pc ls (.int i :: .ref k :: st) := V_bald hs ha hin d (fun z e => kk z _ rfl e)
theorem N_bast {k n : Nat} {i x : Int32} {I : Int} (hs : vv_sk[k]? = some (.inl (1, n, none))) (ha : i.toInt = I) (hin : 0 ≤ I ∧ I < n) (d : decode cc pc = .ok (.bastore, 1)) (kk : ∀ h2 : Hp, h2 = pI h k I.toNat (vp_nar .byte x) → V own cc nL ret F L post h2 (pc + 1) ls st) : V own cc nL ret F L post h pc ls (.int x :: .int i :: .ref k :: st) := V_bast hs ha hin d (kk _ rfl)
theorem N_zald {k n : Nat} {i : Int32} {I : Int} (hs : vv_sk[k]? = some (.inl (2, n, none))) (ha : i.toInt = I) (hin : 0 ≤ I ∧ I < n) (d : decode cc pc = .ok (.baload, 1)) (kk : ∀ (z : Int32) (Z : Int), z.toInt = Z → z = h.1 k I.toNat → V own cc nL ret F L post h (pc + 1) ls (.int z :: st)) : V own cc nL ret F L post h pc ls (.int i :: .ref k :: st) := V_zald hs ha hin d (fun z e => kk z _ rfl e)
theorem N_zast {k n : Nat} {i x : Int32} {I : Int} (hs : vv_sk[k]? = some (.inl (2, n, none))) (ha : i.toInt = I) (hin : 0 ≤ I ∧ I < n) (d : decode cc pc = .ok (.bastore, 1)) (kk : ∀ h2 : Hp, h2 = pI h k I.toNat (vp_nar .boolean x) → V own cc nL ret F L post h2 (pc + 1) ls st) : V own cc nL ret F L post h pc ls (.int x :: .int i :: .ref k :: st) := V_zast hs ha hin d (kk _ rfl)
theorem N_iaddw {x y : Int32} (d : decode cc pc = .ok (.iadd, 1)) (k : ∀ (z : Int32) (Z : Int), z.toInt = Z → z = x + y → V own cc nL ret F L post h (pc + 1) ls (.int z :: st)) : V own cc nL ret F L post h pc ls (.int y :: .int x :: st) := V_iaddw d (fun z e => k z _ rfl e)
theorem N_isubw {x y : Int32} (d : decode cc pc = .ok (.isub, 1)) (k : ∀ (z : Int32) (Z : Int), z.toInt = Z → z = x - y → V own cc nL ret F L post h (pc + 1) ls (.int z :: st)) : V own cc nL ret F L post h pc ls (.int y :: .int x :: st) := V_isubw d (fun z e => k z _ rfl e)
theorem N_imulw {x y : Int32} (d : decode cc pc = .ok (.imul, 1)) (k : ∀ (z : Int32) (Z : Int), z.toInt = Z → z = x * y → V own cc nL ret F L post h (pc + 1) ls (.int z :: st)) : V own cc nL ret F L post h pc ls (.int y :: .int x :: st) := V_imulw d (fun z e => k z _ rfl e)
theorem N_iand {x y : Int32} (d : decode cc pc = .ok (.iand, 1)) (k : ∀ (z : Int32) (Z : Int), z.toInt = Z → z = x &&& y → V own cc nL ret F L post h (pc + 1) ls (.int z :: st)) : V own cc nL ret F L post h pc ls (.int y :: .int x :: st) := V_iand d (fun z e => k z _ rfl e)
theorem N_ior {x y : Int32} (d : decode cc pc = .ok (.ior, 1)) (k : ∀ (z : Int32) (Z : Int), z.toInt = Z → z = x ||| y → V own cc nL ret F L post h (pc + 1) ls (.int z :: st)) : V own cc nL ret F L post h pc ls (.int y :: .int x :: st) := V_ior d (fun z e => k z _ rfl e)
theorem N_ixor {x y : Int32} (d : decode cc pc = .ok (.ixor, 1)) (k : ∀ (z : Int32) (Z : Int), z.toInt = Z → z = x ^^^ y → V own cc nL ret F L post h (pc + 1) ls (.int z :: st)) : V own cc nL ret F L post h pc ls (.int y :: .int x :: st) := V_ixor d (fun z e => k z _ rfl e)
theorem N_ishl {x y : Int32} (d : decode cc pc = .ok (.ishl, 1)) (k : ∀ (z : Int32) (Z : Int), z.toInt = Z → z = x <<< (y &&& 31) → V own cc nL ret F L post h (pc + 1) ls (.int z :: st)) : V own cc nL ret F L post h pc ls (.int y :: .int x :: st) := V_ishl d (fun z e => k z _ rfl e)
theorem N_ishr {x y : Int32} (d : decode cc pc = .ok (.ishr, 1)) (k : ∀ (z : Int32) (Z : Int), z.toInt = Z → z = x >>> (y &&& 31) → V own cc nL ret F L post h (pc + 1) ls (.int z :: st)) : V own cc nL ret F L post h pc ls (.int y :: .int x :: st) := V_ishr d (fun z e => k z _ rfl e)
theorem N_iushr {x y : Int32} (d : decode cc pc = .ok (.iushr, 1)) (k : ∀ (z : Int32) (Z : Int), z.toInt = Z → z = (x.toUInt32 >>> (y.toUInt32 &&& Int32.toUInt32 31)).toInt32 → V own cc nL ret F L post h (pc + 1) ls (.int z :: st)) : V own cc nL ret F L post h pc ls (.int y :: .int x :: st) := V_iushr d (fun z e => k z _ rfl e)
theorem N_ineg {x : Int32} (d : decode cc pc = .ok (.ineg, 1)) (k : ∀ (z : Int32) (Z : Int), z.toInt = Z → z = -x → V own cc nL ret F L post h (pc + 1) ls (.int z :: st)) : V own cc nL ret F L post h pc ls (.int x :: st) := V_ineg d (fun z e => k z _ rfl e)
theorem N_i2b {x : Int32} (d : decode cc pc = .ok (.i2b, 1)) (k : ∀ (z : Int32) (Z : Int), z.toInt = Z → z = x.toInt8.toInt32 → V own cc nL ret F L post h (pc + 1) ls (.int z :: st)) : V own cc nL ret F L post h pc ls (.int x :: st) := V_i2b d (fun z e => k z _ rfl e)
theorem N_i2s {x : Int32} (d : decode cc pc = .ok (.i2s, 1)) (k : ∀ (z : Int32) (Z : Int), z.toInt = Z → z = x.toInt16.toInt32 → V own cc nL ret F L post h (pc + 1) ls (.int z :: st)) : V own cc nL ret F L post h pc ls (.int x :: st) := V_i2s d (fun z e => k z _ rfl e)
theorem N_lcmp {x y : Int64} (d : decode cc pc = .ok (.lcmp, 1)) (k : ∀ (z : Int32) (Z : Int), z.toInt = Z → z = lg_cmp x y → V own cc nL ret F L post h (pc + 1) ls (.int z :: st)) : V own cc nL ret F L post h pc ls (.long y :: .long x :: st) := V_lcmp d (fun z e => k z _ rfl e)
theorem N_ladd {x y : Int64} (d : decode cc pc = .ok (.ladd, 1)) (k : ∀ (z : Int64) (Z : Int), z.toInt = Z → z = x + y → V own cc nL ret F L post h (pc + 1) ls (.long z :: st)) : V own cc nL ret F L post h pc ls (.long y :: .long x :: st) := V_ladd d (fun z e => k z _ rfl e)
theorem N_lsub {x y : Int64} (d : decode cc pc = .ok (.lsub, 1)) (k : ∀ (z : Int64) (Z : Int), z.toInt = Z → z = x - y → V own cc nL ret F L post h (pc + 1) ls (.long z :: st)) : V own cc nL ret F L post h pc ls (.long y :: .long x :: st) := V_lsub d (fun z e => k z _ rfl e)
theorem N_lmul {x y : Int64} (d : decode cc pc = .ok (.lmul, 1)) (k : ∀ (z : Int64) (Z : Int), z.toInt = Z → z = x * y → V own cc nL ret F L post h (pc + 1) ls (.long z :: st)) : V own cc nL ret F L post h pc ls (.long y :: .long x :: st) := V_lmul d (fun z e => k z _ rfl e)
theorem N_ldiv {x y : Int64} (hne : ¬ y = 0) (d : decode cc pc = .ok (.ldiv, 1)) (k : ∀ (z : Int64) (Z : Int), z.toInt = Z → z = x / y → V own cc nL ret F L post h (pc + 1) ls (.long z :: st)) : V own cc nL ret F L post h pc ls (.long y :: .long x :: st) := V_ldiv hne d (fun z e => k z _ rfl e)
theorem N_lrem {x y : Int64} (hne : ¬ y = 0) (d : decode cc pc = .ok (.lrem, 1)) (k : ∀ (z : Int64) (Z : Int), z.toInt = Z → z = x - x / y * y → V own cc nL ret F L post h (pc + 1) ls (.long z :: st)) : V own cc nL ret F L post h pc ls (.long y :: .long x :: st) := V_lrem hne d (fun z e => k z _ rfl e)
theorem N_idiv {x y : Int32} {A B : Int} (ha : x.toInt = A) (hb : y.toInt = B) (hr : 0 ≤ A ∧ 0 < B) (d : decode cc pc = .ok (.idiv, 1)) (k : ∀ z : Int32, z = x / y → z.toInt = A / B → V own cc nL ret F L post h (pc + 1) ls (.int z :: st)) : V own cc nL ret F L post h pc ls (.int y :: .int x :: st) := V_idiv (fun q => by rw [q] at hb; have := hr.2; rw [← hb] at this; exact absurd this (by decide)) d (fun z e => k z e (by rw [e]; exact ti_div ha hb hr.1 hr.2))
theorem N_irem {x y : Int32} {A B : Int} (ha : x.toInt = A) (hb : y.toInt = B) (hr : 0 ≤ A ∧ 0 < B) (d : decode cc pc = .ok (.irem, 1)) (k : ∀ z : Int32, z = x - x / y * y → z.toInt = A % B → V own cc nL ret F L post h (pc + 1) ls (.int z :: st)) : V own cc nL ret F L post h pc ls (.int y :: .int x :: st) := V_irem (fun q => by rw [q] at hb; have := hr.2; rw [← hb] at this; exact absurd this (by decide)) d (fun z e => k z e (by rw [e]; exact ti_rem ha hb hr.1 hr.2))
theorem N_iremg {x y : Int32} {B : Int} (hb : y.toInt = B) (hr : 0 < B) (d : decode cc pc = .ok (.irem, 1)) (k : ∀ (z : Int32) (Z : Int), z.toInt = Z → z = x - x / y * y → V own cc nL ret F L post h (pc + 1) ls (.int z :: st)) : V own cc nL ret F L post h pc ls (.int y :: .int x :: st) := V_irem (fun q => by rw [q] at hb; rw [← hb] at hr; exact absurd hr (by decide)) d (fun z e => k z _ rfl e)
theorem N_callVI {y : MethodName} {cc' : ByteArray} {nL' : Nat} {ret' : Option FieldType} {F' L' idx b ci : Nat} {ss : List Sl} {P : Int32 → Hp → Prop} (As rest : List Value) (cv : CV own idx y cc' nL' ret' As.length) (hs : vv_sk[b]? = some (.inr (ci, ss))) (hcl : (classes[ci]?).map (fun q => q.1) = some y.cls) (d : decode cc pc = .ok (.invokevirtual idx, 3)) (hst : st = As.reverse ++ .ref b :: rest) (hrm : (rest.map fun v => v.category).sum ≤ 8) (hF : F' + 1 ≤ F) (hL : 8 + (nL' + 11) + L' ≤ L)
    (ct : Ct y cc' nL' ret' F' L' (.ref b :: As) h (pInt P)) (kk : ∀ (x : Int32) (h' : Hp) (X : Int), x.toInt = X → P x h' → V own cc nL ret F L post h' (pc + 3) ls (.int x :: rest)) : V own cc nL ret F L post h pc ls st := V_callV As rest cv hs hcl d hst hrm hF hL ct (fun r h' hp => by obtain ⟨x, rfl, hx⟩ := hp; exact kk x h' _ rfl hx)
theorem N_callVL {y : MethodName} {cc' : ByteArray} {nL' : Nat} {ret' : Option FieldType} {F' L' idx b ci : Nat} {ss : List Sl} {P : Int64 → Hp → Prop} (As rest : List Value) (cv : CV own idx y cc' nL' ret' As.length) (hs : vv_sk[b]? = some (.inr (ci, ss))) (hcl : (classes[ci]?).map (fun q => q.1) = some y.cls) (d : decode cc pc = .ok (.invokevirtual idx, 3)) (hst : st = As.reverse ++ .ref b :: rest) (hrm : (rest.map fun v => v.category).sum ≤ 8) (hF : F' + 1 ≤ F) (hL : 8 + (nL' + 11) + L' ≤ L)
    (ct : Ct y cc' nL' ret' F' L' (.ref b :: As) h (pLng P)) (kk : ∀ (x : Int64) (h' : Hp) (X : Int), x.toInt = X → P x h' → V own cc nL ret F L post h' (pc + 3) ls (.long x :: rest)) : V own cc nL ret F L post h pc ls st := V_callV As rest cv hs hcl d hst hrm hF hL ct (fun r h' hp => by obtain ⟨x, rfl, hx⟩ := hp; exact kk x h' _ rfl hx)
theorem N_callVV {y : MethodName} {cc' : ByteArray} {nL' : Nat} {ret' : Option FieldType} {F' L' idx b ci : Nat} {ss : List Sl} {P : Hp → Prop} (As rest : List Value) (cv : CV own idx y cc' nL' ret' As.length) (hs : vv_sk[b]? = some (.inr (ci, ss))) (hcl : (classes[ci]?).map (fun q => q.1) = some y.cls) (d : decode cc pc = .ok (.invokevirtual idx, 3)) (hst : st = As.reverse ++ .ref b :: rest) (hrm : (rest.map fun v => v.category).sum ≤ 8) (hF : F' + 1 ≤ F) (hL : 8 + (nL' + 11) + L' ≤ L)
    (ct : Ct y cc' nL' ret' F' L' (.ref b :: As) h (pVd P)) (kk : ∀ h' : Hp, P h' → V own cc nL ret F L post h' (pc + 3) ls rest) : V own cc nL ret F L post h pc ls st := V_callV As rest cv hs hcl d hst hrm hF hL ct (fun r h' hp => by obtain ⟨rfl, hx⟩ := hp; exact kk h' hx)
theorem N_callSI {y : MethodName} {cc' : ByteArray} {nL' : Nat} {ret' : Option FieldType} {F' L' idx : Nat} {P : Int32 → Hp → Prop} (As rest : List Value) (cv : CS own idx y cc' nL' ret' As.length) (d : decode cc pc = .ok (.invokestatic idx, 3)) (hst : st = As.reverse ++ rest) (hrm : (rest.map fun v => v.category).sum ≤ 8) (hF : F' + 1 ≤ F) (hL : 8 + (nL' + 11) + L' ≤ L)
    (ct : Ct y cc' nL' ret' F' L' As h (pInt P)) (kk : ∀ (x : Int32) (h' : Hp) (X : Int), x.toInt = X → P x h' → V own cc nL ret F L post h' (pc + 3) ls (.int x :: rest)) : V own cc nL ret F L post h pc ls st := V_callS As rest cv d hst hrm hF hL ct (fun r h' hp => by obtain ⟨x, rfl, hx⟩ := hp; exact kk x h' _ rfl hx)
theorem N_callSL {y : MethodName} {cc' : ByteArray} {nL' : Nat} {ret' : Option FieldType} {F' L' idx : Nat} {P : Int64 → Hp → Prop} (As rest : List Value) (cv : CS own idx y cc' nL' ret' As.length) (d : decode cc pc = .ok (.invokestatic idx, 3)) (hst : st = As.reverse ++ rest) (hrm : (rest.map fun v => v.category).sum ≤ 8) (hF : F' + 1 ≤ F) (hL : 8 + (nL' + 11) + L' ≤ L)
    (ct : Ct y cc' nL' ret' F' L' As h (pLng P)) (kk : ∀ (x : Int64) (h' : Hp) (X : Int), x.toInt = X → P x h' → V own cc nL ret F L post h' (pc + 3) ls (.long x :: rest)) : V own cc nL ret F L post h pc ls st := V_callS As rest cv d hst hrm hF hL ct (fun r h' hp => by obtain ⟨x, rfl, hx⟩ := hp; exact kk x h' _ rfl hx)
theorem N_callSR {y : MethodName} {cc' : ByteArray} {nL' : Nat} {ret' : Option FieldType} {F' L' idx : Nat} {P : Nat → Hp → Prop} (As rest : List Value) (cv : CS own idx y cc' nL' ret' As.length) (d : decode cc pc = .ok (.invokestatic idx, 3)) (hst : st = As.reverse ++ rest) (hrm : (rest.map fun v => v.category).sum ≤ 8) (hF : F' + 1 ≤ F) (hL : 8 + (nL' + 11) + L' ≤ L)
    (ct : Ct y cc' nL' ret' F' L' As h (pRef P)) (kk : ∀ (x : Nat) (h' : Hp), P x h' → V own cc nL ret F L post h' (pc + 3) ls (.ref x :: rest)) : V own cc nL ret F L post h pc ls st := V_callS As rest cv d hst hrm hF hL ct (fun r h' hp => by obtain ⟨x, rfl, hx⟩ := hp; exact kk x h' hx)
theorem N_callSV {y : MethodName} {cc' : ByteArray} {nL' : Nat} {ret' : Option FieldType} {F' L' idx : Nat} {P : Hp → Prop} (As rest : List Value) (cv : CS own idx y cc' nL' ret' As.length) (d : decode cc pc = .ok (.invokestatic idx, 3)) (hst : st = As.reverse ++ rest) (hrm : (rest.map fun v => v.category).sum ≤ 8) (hF : F' + 1 ≤ F) (hL : 8 + (nL' + 11) + L' ≤ L)
    (ct : Ct y cc' nL' ret' F' L' As h (pVd P)) (kk : ∀ h' : Hp, P h' → V own cc nL ret F L post h' (pc + 3) ls rest) : V own cc nL ret F L post h pc ls st := V_callS As rest cv d hst hrm hF hL ct (fun r h' hp => by obtain ⟨rfl, hx⟩ := hp; exact kk h' hx)
theorem N_max {idx : Nat} {x y : Int32} {A B : Int} (ha : x.toInt = A) (hb : y.toInt = B) (hw : Cond.methodLink own idx Lib.Math.max.name ∈ vv_G) (d : decode cc pc = .ok (.invokestatic idx, 3)) (hrm : (st.map fun v => v.category).sum + 13 ≤ L) (hF : 1 ≤ F) (h1 : Cond.static Lib.Math.max.name ∈ vv_G) (h2 : Cond.initialized "java/lang/Math" ∈ vv_G) (h3 : Cond.code Lib.Math.max.name Lib.Math.max.code 2 (some .int) ∈ vv_G) (k : ∀ (z : Int32) (Z : Int), z.toInt = Z → z = (if x < y then y else x) → (A < B ∧ Z = B ∨ B ≤ A ∧ Z = A) → V own cc nL ret F L post h (pc + 3) ls (.int z :: st)) : V own cc nL ret F L post h pc ls (.int y :: .int x :: st) := fun p l e s m args below meth c X A9 H locs lsA C hP hS hl => by
  have hts := C.2.2.2.2.1
  have hr2 : ((st.map (rv X.2.1)).map fun v => v.category).sum + 13 ≤ L := by
    have : ((fun v : Value => v.category) ∘ rv X.2.1) = fun v => v.category := by funext v; exact rv_cat _ v
    rw [List.map_map, this]; exact hrm
  refine va_mmax C.1 C.2.1 (C.2.2.1.trans hl.1.symm) C.2.2.2.1 (hts _ hw) (hts _ h1) (hts _ h2) (hts _ h3) hF hr2 (Nat.zero_le _) (Nat.zero_le _) d (k _ _ rfl rfl ?_ p l e s m args below meth c X A9 H locs lsA C hP hS hl)
  by_cases q : x < y
  · rw [if_pos q]; exact Or.inl ⟨(ti_lt ha hb).mp q, hb⟩
  · rw [if_neg q]; exact Or.inr ⟨Int.not_lt.mp (fun z => q ((ti_lt ha hb).mpr z)), ha⟩
theorem N_min {idx : Nat} {x y : Int32} {A B : Int} (ha : x.toInt = A) (hb : y.toInt = B) (hw : Cond.methodLink own idx Lib.Math.min.name ∈ vv_G) (d : decode cc pc = .ok (.invokestatic idx, 3)) (hrm : (st.map fun v => v.category).sum + 13 ≤ L) (hF : 1 ≤ F) (h1 : Cond.static Lib.Math.min.name ∈ vv_G) (h2 : Cond.initialized "java/lang/Math" ∈ vv_G) (h3 : Cond.code Lib.Math.min.name Lib.Math.min.code 2 (some .int) ∈ vv_G) (k : ∀ (z : Int32) (Z : Int), z.toInt = Z → z = (if y < x then y else x) → (B < A ∧ Z = B ∨ A ≤ B ∧ Z = A) → V own cc nL ret F L post h (pc + 3) ls (.int z :: st)) : V own cc nL ret F L post h pc ls (.int y :: .int x :: st) := fun p l e s m args below meth c X A9 H locs lsA C hP hS hl => by
  have hts := C.2.2.2.2.1
  have hr2 : ((st.map (rv X.2.1)).map fun v => v.category).sum + 13 ≤ L := by
    have : ((fun v : Value => v.category) ∘ rv X.2.1) = fun v => v.category := by funext v; exact rv_cat _ v
    rw [List.map_map, this]; exact hrm
  refine va_mmin C.1 C.2.1 (C.2.2.1.trans hl.1.symm) C.2.2.2.1 (hts _ hw) (hts _ h1) (hts _ h2) (hts _ h3) hF hr2 (Nat.zero_le _) (Nat.zero_le _) d (k _ _ rfl rfl ?_ p l e s m args below meth c X A9 H locs lsA C hP hS hl)
  by_cases q : y < x
  · rw [if_pos q]; exact Or.inl ⟨(ti_lt hb ha).mp q, hb⟩
  · rw [if_neg q]; exact Or.inr ⟨Int.not_lt.mp (fun z => q ((ti_lt hb ha).mpr z)), ha⟩
/-- System.arraycopy between two rows of ints -/
theorem N_acopy {idx k0 k1 n0 n1 : Nat} {sp dp n : Int32} {S0 D0 N0 : Int} (hs0 : vv_sk[k0]? = some (vv_ar n0)) (hs1 : vv_sk[k1]? = some (vv_ar n1)) (ha : sp.toInt = S0) (hb : dp.toInt = D0) (hn : n.toInt = N0) (hr : 0 ≤ S0 ∧ 0 ≤ D0 ∧ 0 ≤ N0 ∧ S0 + N0 ≤ n0 ∧ D0 + N0 ≤ n1) (hw : Cond.methodLink own idx arraycopyName ∈ vv_G) (h1 : Cond.native arraycopyName ∈ vv_G) (h2 : Cond.static arraycopyName ∈ vv_G) (h3 : Cond.initialized "java/lang/System" ∈ vv_G) (d : decode cc pc = .ok (.invokestatic idx, 3)) (hF : 1 ≤ F) (hrm : (st.map fun v => v.category).sum + (nativeFrameWords "java/lang/System" "arraycopy" 5 + 11) ≤ L)
    (k : ∀ h2 : Hp, h2 = pR h k1 (va_cpy (h.1 k0) (h.1 k1) S0.toNat D0.toNat N0.toNat) → V own cc nL ret F L post h2 (pc + 3) ls st) : V own cc nL ret F L post h pc ls (.int n :: .int dp :: .ref k1 :: .int sp :: .ref k0 :: st) := fun p l e s m args below meth c X A9 H locs lsA C hP hS hl => by
  have hts := C.2.2.2.2.1
  have hr2 : ((st.map (rv X.2.1)).map fun v => v.category).sum + (nativeFrameWords "java/lang/System" "arraycopy" 5 + 11) ≤ L := by
    have : ((fun v : Value => v.category) ∘ rv X.2.1) = fun v => v.category := by funext v; exact rv_cat _ v
    rw [List.map_map, this]; exact hrm
  refine va_copyi (D := X.1) (ty := .int) C.1 C.2.1 (C.2.2.1.trans hl.1.symm) C.2.2.2.1 (hts _ hw) (hts _ h1) (hts _ h2) (hts _ h3) C.2.2.2.2.2.2.2.1 hP (C.2.2.2.2.2.2.2.2.1.D h) hS k0 k1 0 0 (wsX_get hs0) (wsX_get hs1) rfl rfl rfl ?_ ?_ ?_ ?_ ?_ (fun _ _ => rfl) hF hr2 d (fun H1 locs1 hP1 _ hS1 => ?_)
  · rw [ti_lt ha ti_0]; omega
  · rw [ti_lt hb ti_0]; omega
  · rw [ti_lt hn ti_0]; omega
  · rw [ti_cl, ti_cl, ha, hn]; omega
  · rw [ti_cl, ti_cl, hb, hn]; omega
  · rw [wsX_row hs1, ti_cl, ti_cl, ti_cl, ha, hb, hn] at hP1
    exact k _ rfl p l e s m args below meth c X A9 H1 locs1 lsA C hP1 hS1 hl
end VM
end
section
def vv_full : Int × Int := (-2147483648, 2147483647)
def rgSt (i : Nat) : Int × Int := if i % 144 = 86 ∨ i % 144 = 111 then (0, 8) else if 87 ≤ i % 144 ∧ i % 144 < 111 ∧ (i % 144) % 3 ≠ 2 then (0, 3) else if 112 ≤ i % 144 ∧ (i % 144) % 4 = 0 then (0, 15) else vv_full
def rgC (r i : Nat) : Int × Int := match r, i with
  | 1, 0 => (2, 4)
  | 1, 1 => (2, 4)
  | 7, 4 => (0, 8)
  | 12, 4 => (0, 8)
  | 13, _ => (0, 15)
  | _, _ => vv_full
def rgX (k i : Nat) : Int × Int := match k, i with
  | 0, 10 => vv_full
  | 4, 1 => (0, 160)
  | 4, 3 => (0, 160)
  | 4, 4 => (0, 160)
  | 17, 1 => (0, 4)
  | 19, 1 => (0, 48)
  | 23, 2 => (0, 40)
  | 25, 2 => (0, 40)
  | 27, 2 => (0, 40)
  | 29, 2 => (0, 40)
  | 31, 2 => (2, 4)
  | 31, 3 => (2, 4)
  | 31, 7 => (0, 4)
  | 31, 8 => (0, 4)
  | 31, 15 => (0, 160)
  | 31, 16 => (0, 160)
  | 31, 17 => (0, 160)
  | 31, 25 => (0, 4)
  | 31, 28 => (0, 48)
  | 32, i => rgSt i
  | 34, i => rgSt i
  | 38, _ => (-1, 16)
  | 44, _ => (0, 40)
  | _, _ => vv_full
def rg (k i : Nat) : Int × Int := if k < 85 then rgC (k % 17) i else rgX (k - 85) i
def Inv (h : Hp) : Prop := ∀ k i : Nat, (rg k i).1 ≤ (h.1 k i).toInt ∧ (h.1 k i).toInt ≤ (rg k i).2
theorem inv_at {h : Hp} {k i : Nat} {z : Int32} {Z lo hi : Int} (hI : Inv h) (hz : z.toInt = Z) (he : z = h.1 k i) (hr : rg k i = (lo, hi)) : lo ≤ Z ∧ Z ≤ hi := by
  have := hI k i
  rw [hr, ← he, hz] at this
  exact this
theorem inv_put {h h2 : Hp} {k i : Nat} {x : Int32} {X lo hi : Int} (hI : Inv h) (e : h2 = pI h k i x) (hr : rg k i = (lo, hi)) (hx : x.toInt = X) (hb : lo ≤ X ∧ X ≤ hi) : Inv h2 := by
  subst e
  intro k' i'
  by_cases hk : k' = k
  · subst hk
    by_cases hi' : i' = i
    · subst hi'
      rw [pI_eq, hr, hx]
      exact hb
    · rw [pI_nei hi']
      exact hI k' i'
  · rw [pI_ne hk]
    exact hI k' i'
theorem inv_full {h h2 : Hp} {k i : Nat} {x : Int32} (hI : Inv h) (e : h2 = pI h k i x) (hr : rg k i = vv_full) : Inv h2 := inv_put hI e hr rfl ⟨ti_lo x, ti_hi x⟩
theorem inv_long {h h2 : Hp} {x : Int64} (hI : Inv h) (e : h2 = pL h x) : Inv h2 := by subst e; exact hI
theorem inv_row {h h2 : Hp} {k : Nat} {f : Nat → Int32} (hI : Inv h) (e : h2 = pR h k f) (hf : ∀ i : Nat, (rg k i).1 ≤ (f i).toInt ∧ (f i).toInt ≤ (rg k i).2) : Inv h2 := by
  subst e
  intro k' i'
  by_cases hk : k' = k
  · subst hk
    rw [pR_eq]
    exact hf i'
  · rw [pR_ne hk]
    exact hI k' i'
/-- a row is copied whole or in part from a row of the same bounds -/
theorem inv_cpy {h h2 : Hp} {k k0 n : Nat} (hI : Inv h) (e : h2 = pR h k (va_cpy (h.1 k0) (h.1 k) 0 0 n)) (hr : ∀ i : Nat, rg k i = rg k0 i) : Inv h2 := by
  refine inv_row hI e (fun i => ?_)
  unfold va_cpy
  split
  · next hc => rw [hr, show 0 + (i - 0) = i by omega]; exact hI k0 i
  · exact hI k i
def inS (S : List (Nat × Option Nat)) (k i : Nat) : Bool := S.any (fun q => q.1 == k && (match q.2 with | none => true | some j => j == i))
/-- place 999 stands for the one long -/
def fr (S : List (Nat × Option Nat)) (h h' : Hp) : Prop := (∀ k i : Nat, inS S k i = false → h'.1 k i = h.1 k i) ∧ (inS S 999 0 = false → h'.2 = h.2)
theorem fr_rf {S : List (Nat × Option Nat)} {h : Hp} : fr S h h := ⟨fun _ _ _ => rfl, fun _ => rfl⟩
theorem fr_put {S : List (Nat × Option Nat)} {h h1 h2 : Hp} {k i : Nat} {x : Int32} (f : fr S h h1) (e : h2 = pI h1 k i x) (hin : inS S k i = true) : fr S h h2 := by
  subst e
  refine ⟨fun k' i' hf => ?_, f.2⟩
  by_cases hk : k' = k
  · subst hk
    by_cases hi : i' = i
    · subst hi; rw [hin] at hf; cases hf
    · rw [pI_nei hi]; exact f.1 _ _ hf
  · rw [pI_ne hk]; exact f.1 _ _ hf
theorem fr_long {S : List (Nat × Option Nat)} {h h1 h2 : Hp} {x : Int64} (f : fr S h h1) (e : h2 = pL h1 x) (hin : inS S 999 0 = true) : fr S h h2 := by
  subst e
  exact ⟨f.1, fun q => by rw [hin] at q; cases q⟩
theorem fr_row {S : List (Nat × Option Nat)} {h h1 h2 : Hp} {k : Nat} {g : Nat → Int32} (f : fr S h h1) (e : h2 = pR h1 k g) (hin : ∀ i : Nat, inS S k i = true) : fr S h h2 := by
  subst e
  refine ⟨fun k' i' hf => ?_, f.2⟩
  by_cases hk : k' = k
  · subst hk; rw [hin] at hf; cases hf
  · rw [pR_ne hk]; exact f.1 _ _ hf
def subS (S S' : List (Nat × Option Nat)) : Bool := S.all (fun q => S'.any (fun r => r.1 == q.1 && (r.2 == none || r.2 == q.2)))
theorem subS_in {S S' : List (Nat × Option Nat)} (hs : subS S S' = true) {k i : Nat} (h : inS S k i = true) : inS S' k i = true := by
  unfold inS at h ⊢
  obtain ⟨q, hq, h2⟩ := List.any_eq_true.mp h
  have h3 := List.all_eq_true.mp hs q hq
  obtain ⟨r, hr, h4⟩ := List.any_eq_true.mp h3
  refine List.any_eq_true.mpr ⟨r, hr, ?_⟩
  rw [Bool.and_eq_true] at h2 h4 ⊢
  have e1 : r.1 = q.1 := by simpa using h4.1
  have e2 : q.1 = k := by simpa using h2.1
  refine ⟨by simp [e1, e2], ?_⟩
  rcases Bool.or_eq_true .. |>.mp h4.2 with h5 | h5
  · have : r.2 = none := by simpa using h5
    rw [this]
  · have : r.2 = q.2 := by simpa using h5
    rw [this]; exact h2.2
theorem fr_call {S S' : List (Nat × Option Nat)} {h h1 h2 : Hp} (f : fr S h h1) (g : fr S' h1 h2) (hs : subS S' S = true) : fr S h h2 := by
  have key : ∀ k i : Nat, inS S k i = false → inS S' k i = false := fun k i hf => by
    cases hz : inS S' k i with
    | false => rfl
    | true => rw [subS_in hs hz] at hf; cases hf
  exact ⟨fun k i hf => (g.1 k i (key k i hf)).trans (f.1 k i hf), fun hf => (g.2 (key 999 0 hf)).trans (f.2 hf)⟩
theorem kn_ne {h h2 : Hp} {k k' i i' : Nat} {x v : Int32} (e : h2 = pI h k' i' x) (hk : h.1 k i = v) (hne : k ≠ k') : h2.1 k i = v := by subst e; rw [pI_ne hne]; exact hk
theorem kn_nei {h h2 : Hp} {k i i' : Nat} {x v : Int32} (e : h2 = pI h k i' x) (hk : h.1 k i = v) (hne : i ≠ i') : h2.1 k i = v := by subst e; rw [pI_nei hne]; exact hk
theorem kn_put {h h2 : Hp} {k i : Nat} {x : Int32} (e : h2 = pI h k i x) : h2.1 k i = x := by subst e; exact pI_eq _ _ _ _
theorem kn_row {h h2 : Hp} {k k' i : Nat} {f : Nat → Int32} {v : Int32} (e : h2 = pR h k' f) (hk : h.1 k i = v) (hne : k ≠ k') : h2.1 k i = v := by subst e; rw [pR_ne hne]; exact hk
theorem kn_long {h h2 : Hp} {k i : Nat} {x : Int64} {v : Int32} (e : h2 = pL h x) (hk : h.1 k i = v) : h2.1 k i = v := by subst e; exact hk
theorem kn_call {S : List (Nat × Option Nat)} {h h2 : Hp} {k i : Nat} {v : Int32} (f : fr S h h2) (hk : h.1 k i = v) (hs : inS S k i = false) : h2.1 k i = v := by rw [f.1 k i hs]; exact hk
theorem mul24 {A B : Int} (ha : 2 ≤ A ∧ A ≤ 4) (hb : 2 ≤ B ∧ B ≤ 4) : 4 ≤ A * B ∧ A * B ≤ 16 := by
  rcases (by omega : A = 2 ∨ A = 3 ∨ A = 4) with rfl | rfl | rfl <;> omega
section VQ
variable {own : String} {cc : ByteArray} {nL : Nat} {ret : Option FieldType} {F L : Nat} {post : Option Value → Hp → Prop} {h : Hp} {pc : Nat} {ls : Pl} {st : List Value}
theorem N_mul24 {x y : Int32} {A B : Int} (ha : x.toInt = A) (hb : y.toInt = B) (hr : 2 ≤ A ∧ A ≤ 4) (hr2 : 2 ≤ B ∧ B ≤ 4) (d : decode cc pc = .ok (.imul, 1)) (k : ∀ (z : Int32) (Z : Int), z.toInt = Z → z = x * y → 4 ≤ Z ∧ Z ≤ 16 → Z = A * B → V own cc nL ret F L post h (pc + 1) ls (.int z :: st)) : V own cc nL ret F L post h pc ls (.int y :: .int x :: st) := V_imul ha hb (by have := mul24 hr hr2; omega) d (fun z e1 e2 => k z _ e2 e1 (mul24 hr hr2) rfl)
end VQ
theorem ct_ow {y : MethodName} {cc : ByteArray} {nL : Nat} {ret : Option FieldType} {F L : Nat} {As : List Value} {h : Hp} {post : Option Value → Hp → Prop} (own : String) (ls : Pl) (ho : y.cls = own) (hy : plainName y.cls = true) (hls : argLs As ++ List.replicate (nL - (argLs As).length) none = ls) (hn : (argLs As).length ≤ nL) (hV : V own cc nL ret F L post h 0 ls []) : Ct y cc nL ret F L As h post := ct_of ls hy hls hn (by rw [ho]; exact hV)
theorem st_lo {I : Int} (h : 0 ≤ I ∧ I < 86) : rgSt I.toNat = vv_full := by
  unfold rgSt
  rw [if_neg (by omega), if_neg (by omega), if_neg (by omega)]
theorem st_8 {I : Int} (h : I = 86 ∨ I = 111) : rgSt I.toNat = (0, 8) := by
  unfold rgSt
  rw [if_pos (by omega)]
theorem st_a {I : Int} (h : 87 ≤ I ∧ I < 111 ∧ I % 3 ≠ 2) : rgSt I.toNat = (0, 3) := by
  unfold rgSt
  rw [if_neg (by omega), if_pos (by omega)]
theorem st_b {I : Int} (h : 87 ≤ I ∧ I < 111 ∧ I % 3 = 2) : rgSt I.toNat = vv_full := by
  unfold rgSt
  rw [if_neg (by omega), if_neg (by omega), if_neg (by omega)]
theorem st_c {I : Int} (h : 112 ≤ I ∧ I < 144 ∧ I % 4 = 0) : rgSt I.toNat = (0, 15) := by
  unfold rgSt
  rw [if_neg (by omega), if_neg (by omega), if_pos (by omega)]
theorem st_d {I : Int} (h : 112 ≤ I ∧ I < 144 ∧ I % 4 ≠ 0) : rgSt I.toNat = vv_full := by
  unfold rgSt
  rw [if_neg (by omega), if_neg (by omega), if_neg (by omega)]
theorem st_per {I J : Int} (h : 0 ≤ I ∧ 0 ≤ J ∧ I % 144 = J % 144) : rgSt I.toNat = rgSt J.toNat := by
  have e : I.toNat % 144 = J.toNat % 144 := by omega
  unfold rgSt
  rw [e]
def stOk (I X : Int) : Prop := ∃ lo hi : Int, rgSt I.toNat = (lo, hi) ∧ lo ≤ X ∧ X ≤ hi
theorem stOk_lo {I X : Int} {x : Int32} (hx : x.toInt = X) (h : 0 ≤ I ∧ I < 86) : stOk I X := ⟨_, _, st_lo h, by rw [← hx]; exact ti_lo x, by rw [← hx]; exact ti_hi x⟩
theorem stOk_8 {I X : Int} (h : I = 86 ∨ I = 111) (hx : 0 ≤ X ∧ X ≤ 8) : stOk I X := ⟨_, _, st_8 h, hx.1, hx.2⟩
theorem stOk_3 {I X : Int} (h : 0 ≤ X ∧ X ≤ 3) : stOk I X := by
  unfold stOk rgSt
  split
  · exact ⟨_, _, rfl, by omega⟩
  · split
    · exact ⟨_, _, rfl, by omega⟩
    · split
      · exact ⟨_, _, rfl, by omega⟩
      · exact ⟨_, _, rfl, by omega⟩
theorem inv_st {h h2 : Hp} {k : Nat} {I X : Int} {x : Int32} (hI : Inv h) (e : h2 = pI h k I.toNat x) (hk : k = 117 ∨ k = 119) (hx : x.toInt = X) (hs : stOk I X) : Inv h2 := by
  obtain ⟨lo, hi, h1, h2', h3⟩ := hs
  rcases hk with rfl | rfl
  · exact inv_put hI e (show rg 117 I.toNat = (lo, hi) from h1) hx ⟨h2', h3⟩
  · exact inv_put hI e (show rg 119 I.toNat = (lo, hi) from h1) hx ⟨h2', h3⟩
theorem stOk_of {h : Hp} {k : Nat} {I J X : Int} {x : Int32} (hI : Inv h) (hk : k = 117 ∨ k = 119) (hx : x.toInt = X) (e : x = h.1 k J.toNat) (hp : 0 ≤ I ∧ 0 ≤ J ∧ I % 144 = J % 144) : stOk I X := by
  have h1 := st_per hp
  have h2 := hI k J.toNat
  rcases hk with rfl | rfl
  · have h3 : (rgSt J.toNat).1 ≤ (h.1 117 J.toNat).toInt ∧ (h.1 117 J.toNat).toInt ≤ (rgSt J.toNat).2 := h2
    rw [← e, hx, ← h1] at h3
    exact ⟨_, _, rfl, h3⟩
  · have h3 : (rgSt J.toNat).1 ≤ (h.1 119 J.toNat).toInt ∧ (h.1 119 J.toNat).toInt ≤ (rgSt J.toNat).2 := h2
    rw [← e, hx, ← h1] at h3
    exact ⟨_, _, rfl, h3⟩
section VQ2
variable {own : String} {cc : ByteArray} {nL : Nat} {ret : Option FieldType} {F L : Nat} {post : Option Value → Hp → Prop} {h : Hp} {pc : Nat} {ls : Pl} {st : List Value}
theorem N_ialdK {k n : Nat} {i z : Int32} {I : Int} (hs : vv_sk[k]? = some (vv_ar n)) (ha : i.toInt = I) (hin : 0 ≤ I ∧ I < n) (d : decode cc pc = .ok (.iaload, 1)) (hk : h.1 k I.toNat = z) (kk : V own cc nL ret F L post h (pc + 1) ls (.int z :: st)) : V own cc nL ret F L post h pc ls (.int i :: .ref k :: st) := V_iald hs ha hin d (fun z' e => by rw [e, hk]; exact kk)
end VQ2
theorem V_drop {own : String} {cc : ByteArray} {nL : Nat} {ret : Option FieldType} {F L : Nat} {post : Option Value → Hp → Prop} {h : Hp} {pc : Nat} {ls : Pl} {st : List Value} (i : Nat) (ls1 : Pl) (h1 : ls.set i none = ls1) (k : V own cc nL ret F L post h pc ls1 st) : V own cc nL ret F L post h pc ls st := by
  refine V_ls ls1 (fun j v hj => ?_) k
  rw [← h1] at hj
  by_cases e : i = j
  · subst e
    by_cases hlt : i < ls.length
    · rw [List.getElem?_set_self hlt] at hj; cases hj
    · rw [List.getElem?_eq_none (by rw [List.length_set]; omega)] at hj; cases hj
  · rw [List.getElem?_set_ne e] at hj
    exact hj
theorem knL_put {h h2 : Hp} {k' i' : Nat} {x : Int32} {v : Int64} (e : h2 = pI h k' i' x) (hk : h.2 = v) : h2.2 = v := by subst e; exact hk
theorem knL_long {h h2 : Hp} {x : Int64} (e : h2 = pL h x) : h2.2 = x := by subst e; rfl
section VQ3
variable {own : String} {cc : ByteArray} {nL : Nat} {ret : Option FieldType} {F L : Nat} {post : Option Value → Hp → Prop} {h : Hp} {pc : Nat} {ls : Pl} {st : List Value}
theorem N_getLK {idx ci i k : Nat} {ss : List Sl} {z : Int64} (fa : FA own idx ci i) (hs : vv_sk[k]? = some (.inr (ci, ss))) (hi : ss[i]? = some (.inr true)) (d : decode cc pc = .ok (.getfield idx, 3)) (hk : h.2 = z) (kk : V own cc nL ret F L post h (pc + 3) ls (.long z :: st)) : V own cc nL ret F L post h pc ls (.ref k :: st) := V_getL fa hs hi d (by rw [hk]; exact kk)
end VQ3
theorem subw_ti {x y z : Int32} {A B Z : Int} (ha : x.toInt = A) (hb : y.toInt = B) (e : z = x - y) (hz : z.toInt = Z) : (Z = A - B ∨ Z = A - B + 4294967296 ∨ Z = A - B - 4294967296) ∧ -2147483648 ≤ A ∧ A ≤ 2147483647 ∧ -2147483648 ≤ Z ∧ Z ≤ 2147483647 := by
  have h1 := ti_lo x; have h2 := ti_hi x; have h3 := ti_lo z; have h4 := ti_hi z; have h5 := ti_lo y; have h6 := ti_hi y
  rw [ha] at h1 h2; rw [hz] at h3 h4; rw [hb] at h5 h6
  refine ⟨?_, h1, h2, h3, h4⟩
  have h7 : (A - B).bmod (2 ^ 32) = Z := by rw [← hz, e, Int32.toInt_sub, ha, hb]
  unfold Int.bmod at h7
  simp only [show ((2 ^ 32 : Nat) : Int) = 4294967296 from rfl] at h7
  split at h7 <;> omega
theorem and_ti {x y z : Int32} {Z : Int} (k : Nat) (hm : y.toBitVec.toNat = 2 ^ k - 1) (hk : k ≤ 30) (e : z = x &&& y) (hz : z.toInt = Z) : 0 ≤ Z ∧ Z < 2 ^ k := by
  have := vp_in_iff.mp (pk_andIn x k hm hk)
  rw [← e, hz] at this
  exact ⟨this.1, by have h2 := this.2; push_cast at h2; exact h2⟩
theorem t64_rem {x y : Int64} {A B : Int} (ha : x.toInt = A) (hb : y.toInt = B) (h0 : 0 ≤ A) (hB : 0 < B) : (x - x / y * y).toInt = A % B := by
  have h2 := x.toInt_lt
  have h3 := Int.mul_ediv_add_emod A B
  have h4 := Int.emod_nonneg A (Int.ne_of_gt hB)
  have h5 := Int.emod_lt_of_pos A hB
  have h6 : A / B * B = A - A % B := by rw [Int.mul_comm]; omega
  have h7 := Int.mul_nonneg (Int.ediv_nonneg h0 (Int.le_of_lt hB)) (Int.le_of_lt hB)
  have h8 := Int.ediv_le_self B h0
  have h9 := Int.ediv_nonneg h0 (Int.le_of_lt hB)
  have d1 : (x / y).toInt = A / B := by rw [Int64.toInt_div, ha, hb, Int.tdiv_eq_ediv_of_nonneg h0, Int.bmod_eq_of_le] <;> omega
  have d2 : (x / y * y).toInt = A / B * B := by rw [Int64.toInt_mul, d1, hb, Int.bmod_eq_of_le] <;> omega
  rw [Int64.toInt_sub, ha, d2, Int.bmod_eq_of_le] <;> omega
def zc (x : Int) : Int := if x = 0 then 1 else 0
theorem zc_b (x : Int) : 0 ≤ zc x ∧ zc x ≤ 1 := by unfold zc; split <;> omega
theorem zc_0 {x : Int} (h : x = 0) : zc x = 1 := if_pos h
theorem zc_n {x : Int} (h : x ≠ 0) : zc x = 0 := if_neg h
def rmN (w g c : Nat) : Nat := (((List.range 16).filter (fun i => decide (c ≤ i) && decide (i < w * g))).map (fun i => (w - 1 - i % w) + (g - 1 - i / w))).sum
def rm (w g c : Int) : Int := (rmN w.toNat g.toNat c.toNat : Nat)
theorem rm_p (w g c : Int) : 0 ≤ rm w g c := Int.natCast_nonneg _
theorem rmN_all : ∀ w, w < 5 → 2 ≤ w → ∀ g, g < 5 → 2 ≤ g → rmN w g 0 ≤ 48 ∧ ∀ c, c < w * g → rmN w g c = (w - 1 - c % w) + (g - 1 - c / w) + rmN w g (c + 1) := by decide +kernel
theorem rm_0 {w g : Int} (hw : 2 ≤ w ∧ w ≤ 4) (hg : 2 ≤ g ∧ g ≤ 4) : rm w g 0 ≤ 48 := by
  have := (rmN_all w.toNat (by omega) (by omega) g.toNat (by omega) (by omega)).1
  unfold rm
  show ((rmN w.toNat g.toNat 0 : Nat) : Int) ≤ 48
  omega
theorem rm_s {w g c M : Int} (hw : 2 ≤ w ∧ w ≤ 4) (hg : 2 ≤ g ∧ g ≤ 4) (hM : M = w * g) (hc : 0 ≤ c ∧ c < M) : rm w g c = (w - 1 - c % w) + (g - 1 - c / w) + rm w g (c + 1) ∧ 0 ≤ c / w ∧ c / w < g ∧ 0 ≤ c % w ∧ c % w < w := by
  obtain ⟨a, rfl⟩ := Int.eq_ofNat_of_zero_le (by omega : 0 ≤ w)
  obtain ⟨b, rfl⟩ := Int.eq_ofNat_of_zero_le (by omega : 0 ≤ g)
  obtain ⟨d, rfl⟩ := Int.eq_ofNat_of_zero_le hc.1
  have hd : d < a * b := by
    have h1 : (d : Int) < (a : Int) * (b : Int) := by rw [← hM]; exact hc.2
    exact_mod_cast h1
  have h1 := (rmN_all a (by omega) (by omega) b (by omega) (by omega)).2 d hd
  have h2 : d / a < b := Nat.div_lt_of_lt_mul (by rw [Nat.mul_comm] at hd; rw [Nat.mul_comm]; exact hd)
  have h3 : d % a < a := Nat.mod_lt _ (by omega)
  have e1 : ((d : Int) / (a : Int)) = ((d / a : Nat) : Int) := (Int.natCast_ediv d a).symm
  have e2 : ((d : Int) % (a : Int)) = ((d % a : Nat) : Int) := (Int.natCast_emod d a).symm
  rw [e1, e2]
  unfold rm
  rw [show ((d : Int) + 1).toNat = d + 1 by omega]
  simp only [Int.toNat_natCast]
  clear e1 e2
  generalize d / a = Q at *
  generalize d % a = Rr at *
  omega
/-- what is left of a search through rows of up to four cells -/
def plM (k a b c d : Int) : Int := if k < 0 then 0 else if k = 0 then (17 - a) * 6859 else if k = 1 then (17 - a) * 6859 + (17 - b) * 361 else if k = 2 then (17 - a) * 6859 + (17 - b) * 361 + (17 - c) * 19 else (17 - a) * 6859 + (17 - b) * 361 + (17 - c) * 19 + (17 - d)
theorem plM_m1 (a b c d : Int) : plM (-1) a b c d = 0 := by simp [plM]
theorem plM_0 (a b c d : Int) : plM 0 a b c d = (17 - a) * 6859 := by simp [plM]
theorem plM_1 (a b c d : Int) : plM 1 a b c d = (17 - a) * 6859 + (17 - b) * 361 := by simp [plM]
theorem plM_2 (a b c d : Int) : plM 2 a b c d = (17 - a) * 6859 + (17 - b) * 361 + (17 - c) * 19 := by simp [plM]
theorem plM_3 (a b c d : Int) : plM 3 a b c d = (17 - a) * 6859 + (17 - b) * 361 + (17 - c) * 19 + (17 - d) := by simp [plM]
theorem plM_p {k a b c d : Int} (ha : a ≤ 16) (hb : b ≤ 16) (hc : c ≤ 16) (hd : d ≤ 16) : 0 ≤ plM k a b c d := by
  unfold plM
  split
  · omega
  · split
    · omega
    · split
      · omega
      · split <;> omega
theorem t64_add {x y : Int64} {A B : Int} (ha : x.toInt = A) (hb : y.toInt = B) (h : -9223372036854775808 ≤ A + B ∧ A + B ≤ 9223372036854775807) : (x + y).toInt = A + B := by
  rw [Int64.toInt_add, ha, hb, Int.bmod_eq_of_le] <;> omega
end
section
theorem sk_0 : vv_sk[0]? = some (.inr (1, [.inl 1, .inl 7, .inl 12, .inr false, .inr false])) := by decide +kernel
theorem sk_1 : vv_sk[1]? = some (.inr (2, [.inr false, .inr false, .inr false, .inr false, .inl 2, .inl 3, .inl 4, .inl 5, .inl 6])) := by decide +kernel
theorem sk_2 : vv_sk[2]? = some (vv_ar 16) := by decide +kernel
theorem sk_3 : vv_sk[3]? = some (vv_ar 16) := by decide +kernel
theorem sk_4 : vv_sk[4]? = some (vv_ar 16) := by decide +kernel
theorem sk_5 : vv_sk[5]? = some (vv_ar 16) := by decide +kernel
theorem sk_6 : vv_sk[6]? = some (vv_ar 16) := by decide +kernel
theorem sk_7 : vv_sk[7]? = some (.inr (3, [.inl 8, .inl 9, .inl 10, .inl 11, .inr false])) := by decide +kernel
theorem sk_8 : vv_sk[8]? = some (vv_ar 4) := by decide +kernel
theorem sk_9 : vv_sk[9]? = some (vv_ar 8) := by decide +kernel
theorem sk_10 : vv_sk[10]? = some (vv_ar 8) := by decide +kernel
theorem sk_11 : vv_sk[11]? = some (vv_ar 8) := by decide +kernel
theorem sk_12 : vv_sk[12]? = some (.inr (7, [.inl 13, .inl 14, .inl 15, .inl 16, .inr false])) := by decide +kernel
theorem sk_13 : vv_sk[13]? = some (vv_ar 8) := by decide +kernel
theorem sk_14 : vv_sk[14]? = some (vv_ar 8) := by decide +kernel
theorem sk_15 : vv_sk[15]? = some (vv_ar 8) := by decide +kernel
theorem sk_16 : vv_sk[16]? = some (vv_ar 8) := by decide +kernel
theorem sk_17 : vv_sk[17]? = some (.inr (1, [.inl 18, .inl 24, .inl 29, .inr false, .inr false])) := by decide +kernel
theorem sk_18 : vv_sk[18]? = some (.inr (2, [.inr false, .inr false, .inr false, .inr false, .inl 19, .inl 20, .inl 21, .inl 22, .inl 23])) := by decide +kernel
theorem sk_19 : vv_sk[19]? = some (vv_ar 16) := by decide +kernel
theorem sk_20 : vv_sk[20]? = some (vv_ar 16) := by decide +kernel
theorem sk_21 : vv_sk[21]? = some (vv_ar 16) := by decide +kernel
theorem sk_22 : vv_sk[22]? = some (vv_ar 16) := by decide +kernel
theorem sk_23 : vv_sk[23]? = some (vv_ar 16) := by decide +kernel
theorem sk_24 : vv_sk[24]? = some (.inr (3, [.inl 25, .inl 26, .inl 27, .inl 28, .inr false])) := by decide +kernel
theorem sk_25 : vv_sk[25]? = some (vv_ar 4) := by decide +kernel
theorem sk_26 : vv_sk[26]? = some (vv_ar 8) := by decide +kernel
theorem sk_27 : vv_sk[27]? = some (vv_ar 8) := by decide +kernel
theorem sk_28 : vv_sk[28]? = some (vv_ar 8) := by decide +kernel
theorem sk_29 : vv_sk[29]? = some (.inr (7, [.inl 30, .inl 31, .inl 32, .inl 33, .inr false])) := by decide +kernel
theorem sk_30 : vv_sk[30]? = some (vv_ar 8) := by decide +kernel
theorem sk_31 : vv_sk[31]? = some (vv_ar 8) := by decide +kernel
theorem sk_32 : vv_sk[32]? = some (vv_ar 8) := by decide +kernel
theorem sk_33 : vv_sk[33]? = some (vv_ar 8) := by decide +kernel
theorem sk_34 : vv_sk[34]? = some (.inr (1, [.inl 35, .inl 41, .inl 46, .inr false, .inr false])) := by decide +kernel
theorem sk_35 : vv_sk[35]? = some (.inr (2, [.inr false, .inr false, .inr false, .inr false, .inl 36, .inl 37, .inl 38, .inl 39, .inl 40])) := by decide +kernel
theorem sk_36 : vv_sk[36]? = some (vv_ar 16) := by decide +kernel
theorem sk_37 : vv_sk[37]? = some (vv_ar 16) := by decide +kernel
theorem sk_38 : vv_sk[38]? = some (vv_ar 16) := by decide +kernel
theorem sk_39 : vv_sk[39]? = some (vv_ar 16) := by decide +kernel
theorem sk_40 : vv_sk[40]? = some (vv_ar 16) := by decide +kernel
theorem sk_41 : vv_sk[41]? = some (.inr (3, [.inl 42, .inl 43, .inl 44, .inl 45, .inr false])) := by decide +kernel
theorem sk_42 : vv_sk[42]? = some (vv_ar 4) := by decide +kernel
theorem sk_43 : vv_sk[43]? = some (vv_ar 8) := by decide +kernel
theorem sk_44 : vv_sk[44]? = some (vv_ar 8) := by decide +kernel
theorem sk_45 : vv_sk[45]? = some (vv_ar 8) := by decide +kernel
theorem sk_46 : vv_sk[46]? = some (.inr (7, [.inl 47, .inl 48, .inl 49, .inl 50, .inr false])) := by decide +kernel
theorem sk_47 : vv_sk[47]? = some (vv_ar 8) := by decide +kernel
theorem sk_48 : vv_sk[48]? = some (vv_ar 8) := by decide +kernel
theorem sk_49 : vv_sk[49]? = some (vv_ar 8) := by decide +kernel
theorem sk_50 : vv_sk[50]? = some (vv_ar 8) := by decide +kernel
theorem sk_51 : vv_sk[51]? = some (.inr (1, [.inl 52, .inl 58, .inl 63, .inr false, .inr false])) := by decide +kernel
theorem sk_52 : vv_sk[52]? = some (.inr (2, [.inr false, .inr false, .inr false, .inr false, .inl 53, .inl 54, .inl 55, .inl 56, .inl 57])) := by decide +kernel
theorem sk_53 : vv_sk[53]? = some (vv_ar 16) := by decide +kernel
theorem sk_54 : vv_sk[54]? = some (vv_ar 16) := by decide +kernel
theorem sk_55 : vv_sk[55]? = some (vv_ar 16) := by decide +kernel
theorem sk_56 : vv_sk[56]? = some (vv_ar 16) := by decide +kernel
theorem sk_57 : vv_sk[57]? = some (vv_ar 16) := by decide +kernel
theorem sk_58 : vv_sk[58]? = some (.inr (3, [.inl 59, .inl 60, .inl 61, .inl 62, .inr false])) := by decide +kernel
theorem sk_59 : vv_sk[59]? = some (vv_ar 4) := by decide +kernel
theorem sk_60 : vv_sk[60]? = some (vv_ar 8) := by decide +kernel
theorem sk_61 : vv_sk[61]? = some (vv_ar 8) := by decide +kernel
theorem sk_62 : vv_sk[62]? = some (vv_ar 8) := by decide +kernel
theorem sk_63 : vv_sk[63]? = some (.inr (7, [.inl 64, .inl 65, .inl 66, .inl 67, .inr false])) := by decide +kernel
theorem sk_64 : vv_sk[64]? = some (vv_ar 8) := by decide +kernel
theorem sk_65 : vv_sk[65]? = some (vv_ar 8) := by decide +kernel
theorem sk_66 : vv_sk[66]? = some (vv_ar 8) := by decide +kernel
theorem sk_67 : vv_sk[67]? = some (vv_ar 8) := by decide +kernel
theorem sk_68 : vv_sk[68]? = some (.inr (1, [.inl 69, .inl 75, .inl 80, .inr false, .inr false])) := by decide +kernel
theorem sk_69 : vv_sk[69]? = some (.inr (2, [.inr false, .inr false, .inr false, .inr false, .inl 70, .inl 71, .inl 72, .inl 73, .inl 74])) := by decide +kernel
theorem sk_70 : vv_sk[70]? = some (vv_ar 16) := by decide +kernel
theorem sk_71 : vv_sk[71]? = some (vv_ar 16) := by decide +kernel
theorem sk_72 : vv_sk[72]? = some (vv_ar 16) := by decide +kernel
theorem sk_73 : vv_sk[73]? = some (vv_ar 16) := by decide +kernel
theorem sk_74 : vv_sk[74]? = some (vv_ar 16) := by decide +kernel
theorem sk_75 : vv_sk[75]? = some (.inr (3, [.inl 76, .inl 77, .inl 78, .inl 79, .inr false])) := by decide +kernel
theorem sk_76 : vv_sk[76]? = some (vv_ar 4) := by decide +kernel
theorem sk_77 : vv_sk[77]? = some (vv_ar 8) := by decide +kernel
theorem sk_78 : vv_sk[78]? = some (vv_ar 8) := by decide +kernel
theorem sk_79 : vv_sk[79]? = some (vv_ar 8) := by decide +kernel
theorem sk_80 : vv_sk[80]? = some (.inr (7, [.inl 81, .inl 82, .inl 83, .inl 84, .inr false])) := by decide +kernel
theorem sk_81 : vv_sk[81]? = some (vv_ar 8) := by decide +kernel
theorem sk_82 : vv_sk[82]? = some (vv_ar 8) := by decide +kernel
theorem sk_83 : vv_sk[83]? = some (vv_ar 8) := by decide +kernel
theorem sk_84 : vv_sk[84]? = some (vv_ar 8) := by decide +kernel
theorem sk_85 : vv_sk[85]? = some (.inr (10, [.inl 0, .inl 17, .inl 86, .inl 87, .inl 88, .inl 89, .inl 93, .inl 102, .inl 104, .inl 107, .inr false])) := by decide +kernel
theorem sk_86 : vv_sk[86]? = some (.inl (3, 2, some [34, 51])) := by decide +kernel
theorem sk_87 : vv_sk[87]? = some (.inl (2, 2, none)) := by decide +kernel
theorem sk_88 : vv_sk[88]? = some (.inr (5, [.inl 89, .inl 68, .inl 91, .inl 92, .inr false, .inr false, .inr false])) := by decide +kernel
theorem sk_89 : vv_sk[89]? = some (.inr (8, [.inl 90, .inr false, .inr false, .inr false, .inr false, .inr false])) := by decide +kernel
theorem sk_90 : vv_sk[90]? = some (.inl (1, 160, none)) := by decide +kernel
theorem sk_91 : vv_sk[91]? = some (vv_ar 3) := by decide +kernel
theorem sk_92 : vv_sk[92]? = some (vv_ar 10) := by decide +kernel
theorem sk_93 : vv_sk[93]? = some (.inr (9, [.inl 94, .inl 101])) := by decide +kernel
theorem sk_94 : vv_sk[94]? = some (.inl (5, 6, some [95, 96, 97, 98, 99, 100])) := by decide +kernel
theorem sk_95 : vv_sk[95]? = some (vv_ar 16) := by decide +kernel
theorem sk_96 : vv_sk[96]? = some (vv_ar 16) := by decide +kernel
theorem sk_97 : vv_sk[97]? = some (vv_ar 16) := by decide +kernel
theorem sk_98 : vv_sk[98]? = some (vv_ar 16) := by decide +kernel
theorem sk_99 : vv_sk[99]? = some (vv_ar 16) := by decide +kernel
theorem sk_100 : vv_sk[100]? = some (vv_ar 16) := by decide +kernel
theorem sk_101 : vv_sk[101]? = some (vv_ar 6) := by decide +kernel
theorem sk_102 : vv_sk[102]? = some (.inr (4, [.inl 103, .inr false, .inr false])) := by decide +kernel
theorem sk_103 : vv_sk[103]? = some (vv_ar 4) := by decide +kernel
theorem sk_104 : vv_sk[104]? = some (.inr (0, [.inl 105, .inr false, .inl 106, .inr false, .inr false, .inr false, .inr false, .inr false])) := by decide +kernel
theorem sk_105 : vv_sk[105]? = some (vv_ar 48) := by decide +kernel
theorem sk_106 : vv_sk[106]? = some (vv_ar 10) := by decide +kernel
theorem sk_107 : vv_sk[107]? = some (.inl (4, 4, some [108, 110, 112, 114])) := by decide +kernel
theorem sk_108 : vv_sk[108]? = some (.inr (6, [.inl 109, .inr false, .inr false])) := by decide +kernel
theorem sk_109 : vv_sk[109]? = some (vv_ar 40) := by decide +kernel
theorem sk_110 : vv_sk[110]? = some (.inr (6, [.inl 111, .inr false, .inr false])) := by decide +kernel
theorem sk_111 : vv_sk[111]? = some (vv_ar 40) := by decide +kernel
theorem sk_112 : vv_sk[112]? = some (.inr (6, [.inl 113, .inr false, .inr false])) := by decide +kernel
theorem sk_113 : vv_sk[113]? = some (vv_ar 40) := by decide +kernel
theorem sk_114 : vv_sk[114]? = some (.inr (6, [.inl 115, .inr false, .inr false])) := by decide +kernel
theorem sk_115 : vv_sk[115]? = some (vv_ar 40) := by decide +kernel
theorem sk_116 : vv_sk[116]? = some (.inr (11, [.inl 117, .inl 118, .inr false, .inr false, .inr false, .inr false, .inl 119, .inr false, .inr false, .inr false, .inr false, .inr false, .inl 120, .inr false, .inl 121, .inr false, .inr false, .inr false, .inr false, .inr false, .inr false, .inr false, .inl 122, .inl 123, .inl 124, .inr false, .inr true, .inl 125, .inr false, .inl 126, .inr false, .inl 127, .inl 128, .inl 129, .inl 130, .inr false, .inl 131])) := by decide +kernel
theorem sk_117 : vv_sk[117]? = some (vv_ar 432) := by decide +kernel
theorem sk_118 : vv_sk[118]? = some (.inl (2, 2, none)) := by decide +kernel
theorem sk_119 : vv_sk[119]? = some (vv_ar 144) := by decide +kernel
theorem sk_120 : vv_sk[120]? = some (vv_ar 6) := by decide +kernel
theorem sk_121 : vv_sk[121]? = some (vv_ar 160) := by decide +kernel
theorem sk_122 : vv_sk[122]? = some (vv_ar 128) := by decide +kernel
theorem sk_123 : vv_sk[123]? = some (vv_ar 4) := by decide +kernel
theorem sk_124 : vv_sk[124]? = some (vv_ar 4) := by decide +kernel
theorem sk_125 : vv_sk[125]? = some (vv_ar 48) := by decide +kernel
theorem sk_126 : vv_sk[126]? = some (vv_ar 4) := by decide +kernel
theorem sk_127 : vv_sk[127]? = some (vv_ar 16) := by decide +kernel
theorem sk_128 : vv_sk[128]? = some (vv_ar 4) := by decide +kernel
theorem sk_129 : vv_sk[129]? = some (vv_ar 4) := by decide +kernel
theorem sk_130 : vv_sk[130]? = some (vv_ar 160) := by decide +kernel
theorem sk_131 : vv_sk[131]? = some (vv_ar 20) := by decide +kernel
theorem lo_116 : ∀ j : Nat, j ≠ 26 → ([.inl 117, .inl 118, .inr false, .inr false, .inr false, .inr false, .inl 119, .inr false, .inr false, .inr false, .inr false, .inr false, .inl 120, .inr false, .inl 121, .inr false, .inr false, .inr false, .inr false, .inr false, .inr false, .inr false, .inl 122, .inl 123, .inl 124, .inr false, .inr true, .inl 125, .inr false, .inl 126, .inr false, .inl 127, .inl 128, .inl 129, .inl 130, .inr false, .inl 131] : List Sl)[j]? ≠ some (.inr true) := by
  intro j hj
  by_cases h : j < 37
  · have : ∀ j, j < 37 → j ≠ 26 → ([.inl 117, .inl 118, .inr false, .inr false, .inr false, .inr false, .inl 119, .inr false, .inr false, .inr false, .inr false, .inr false, .inl 120, .inr false, .inl 121, .inr false, .inr false, .inr false, .inr false, .inr false, .inr false, .inr false, .inl 122, .inl 123, .inl 124, .inr false, .inr true, .inl 125, .inr false, .inl 126, .inr false, .inl 127, .inl 128, .inl 129, .inl 130, .inr false, .inl 131] : List Sl)[j]? ≠ some (.inr true) := by decide +kernel
    exact this j h hj
  · rw [List.getElem?_eq_none (by simp; omega)]; intro q; cases q
theorem wmax1 : Cond.static Lib.Math.max.name ∈ vv_G := by decide +kernel
theorem wmax3 : Cond.code Lib.Math.max.name Lib.Math.max.code 2 (some .int) ∈ vv_G := by decide +kernel
theorem wmin1 : Cond.static Lib.Math.min.name ∈ vv_G := by decide +kernel
theorem wmin3 : Cond.code Lib.Math.min.name Lib.Math.min.code 2 (some .int) ∈ vv_G := by decide +kernel
theorem wM2 : Cond.initialized "java/lang/Math" ∈ vv_G := by decide +kernel
theorem wA1 : Cond.native arraycopyName ∈ vv_G := by decide +kernel
theorem wA2 : Cond.static arraycopyName ∈ vv_G := by decide +kernel
theorem wA3 : Cond.initialized "java/lang/System" ∈ vv_G := by decide +kernel
theorem t64_lt {x y : Int64} {A B : Int} (ha : x.toInt = A) (hb : y.toInt = B) : x < y ↔ A < B := by rw [Int64.lt_iff_toInt_lt, ha, hb]
theorem t64_eq {x y : Int64} {A B : Int} (ha : x.toInt = A) (hb : y.toInt = B) : x = y ↔ A = B := by rw [← Int64.toInt_inj, ha, hb]
theorem lcmp_ti {x y : Int64} {A B : Int} {z : Int32} {Z : Int} (ha : x.toInt = A) (hb : y.toInt = B) (e : z = lg_cmp x y) (hz : z.toInt = Z) : Z = 1 ∧ B < A ∨ Z = 0 ∧ A = B ∨ Z = -1 ∧ A < B := by
  subst e
  unfold lg_cmp at hz
  split at hz
  · next h => exact Or.inl ⟨hz.symm.trans rfl, (t64_lt hb ha).mp h⟩
  · next h =>
    have h1 := fun q => h ((t64_lt hb ha).mpr q)
    split at hz
    · next h2 => exact Or.inr (Or.inl ⟨hz.symm.trans rfl, (t64_eq ha hb).mp h2⟩)
    · next h2 =>
      have h3 := fun q => h2 ((t64_eq ha hb).mpr q)
      refine Or.inr (Or.inr ⟨hz.symm.trans (by rfl), ?_⟩)
      rcases Int.lt_trichotomy A B with q | q | q
      · exact q
      · exact absurd q h3
      · exact absurd q h1
theorem gridAt {I : Int} (hI : 0 ≤ I ∧ I < 6) : ([95, 96, 97, 98, 99, 100] : List Nat)[I.toNat]? = some (95 + I.toNat) := by
  rcases (by omega : I = 0 ∨ I = 1 ∨ I = 2 ∨ I = 3 ∨ I = 4 ∨ I = 5) with rfl | rfl | rfl | rfl | rfl | rfl <;> rfl
theorem gridSk {I : Int} (hI : 0 ≤ I ∧ I < 6) : vv_sk[95 + I.toNat]? = some (vv_ar 16) := by
  rcases (by omega : I = 0 ∨ I = 1 ∨ I = 2 ∨ I = 3 ∨ I = 4 ∨ I = 5) with rfl | rfl | rfl | rfl | rfl | rfl
  · exact sk_95
  · exact sk_96
  · exact sk_97
  · exact sk_98
  · exact sk_99
  · exact sk_100
end
section
theorem tc_0 : (0 : Int32).toInt = 0 := rfl
theorem tc_1 : (1 : Int32).toInt = 1 := rfl
theorem fa_Mod_99 : FA R_Mod 99 11 15 := ⟨_, _, _, rfl, i_Mod, by decide, vv_Gin (List.mem_append_right _ (List.mem_append_right _ (List.mem_append_right _ (List.mem_append_right _ (List.mem_append_left _ (List.mem_of_getElem? (i := 238) rfl)))))) rfl⟩
theorem tc_m1 : ((-1) : Int32).toInt = (-1) := rfl
theorem fa_Mod_23 : FA R_Mod 23 11 14 := ⟨_, _, _, rfl, i_Mod, by decide, vv_Gin (List.mem_append_right _ (List.mem_append_right _ (List.mem_append_right _ (List.mem_append_right _ (List.mem_append_left _ (List.mem_of_getElem? (i := 237) rfl)))))) rfl⟩
theorem fa_Mod_81 : FA R_Mod 81 11 2 := ⟨_, _, _, rfl, i_Mod, by decide, vv_Gin (List.mem_append_right _ (List.mem_append_right _ (List.mem_append_right _ (List.mem_append_right _ (List.mem_append_left _ (List.mem_of_getElem? (i := 225) rfl)))))) rfl⟩
theorem fa_Mod_84 : FA R_Mod 84 11 3 := ⟨_, _, _, rfl, i_Mod, by decide, vv_Gin (List.mem_append_right _ (List.mem_append_right _ (List.mem_append_right _ (List.mem_append_right _ (List.mem_append_left _ (List.mem_of_getElem? (i := 226) rfl)))))) rfl⟩
theorem tl_0 : (0 : Int64).toInt = 0 := rfl
theorem cb_Mod_cellMany : CB y_Mod_cellMany b_Mod_cellMany 1 (some .int) 0 := ⟨vv_Gin (List.mem_append_right _ (List.mem_append_right _ (List.mem_append_right _ (List.mem_append_right _ (List.mem_append_right _ (List.mem_append_left _ (List.mem_of_getElem? (i := 198) rfl))))))) rfl, by decide +kernel, vv_Gin (List.mem_append_right _ (List.mem_append_left _ (List.mem_of_getElem? (i := 13) rfl))) rfl⟩
theorem im_Mod_cellMany : Cond.instanceMethod y_Mod_cellMany ∈ vv_G := vv_Gin (List.mem_append_right _ (List.mem_append_right _ (List.mem_append_right _ (List.mem_append_right _ (List.mem_append_right _ (List.mem_append_left _ (List.mem_of_getElem? (i := 197) rfl))))))) rfl
theorem se_Mod_cellMany : Cond.selects y_Mod_cellMany.cls y_Mod_cellMany y_Mod_cellMany ∈ vv_G := vv_Gin (List.mem_append_left _ (List.mem_of_getElem? (i := 36) rfl)) rfl
theorem cv_Mod_183 : CV R_Mod 183 y_Mod_cellMany b_Mod_cellMany 1 (some .int) 0 := ⟨cb_Mod_cellMany, im_Mod_cellMany, se_Mod_cellMany, vv_Gin (List.mem_append_right _ (List.mem_append_right _ (List.mem_append_right _ (List.mem_append_right _ (List.mem_append_right _ (List.mem_append_left _ (List.mem_of_getElem? (i := 195) rfl))))))) rfl⟩
theorem cb_Mod_in : CB y_Mod_in b_Mod_in 6 (some .boolean) 3 := ⟨vv_Gin (List.mem_append_right _ (List.mem_append_right _ (List.mem_append_right _ (List.mem_append_right _ (List.mem_append_right _ (List.mem_append_left _ (List.mem_of_getElem? (i := 102) rfl))))))) rfl, by decide +kernel, vv_Gin (List.mem_append_right _ (List.mem_append_left _ (List.mem_of_getElem? (i := 13) rfl))) rfl⟩
theorem st_Mod_in : Cond.static y_Mod_in ∈ vv_G := vv_Gin (List.mem_append_right _ (List.mem_append_right _ (List.mem_append_right _ (List.mem_append_right _ (List.mem_append_right _ (List.mem_append_left _ (List.mem_of_getElem? (i := 101) rfl))))))) rfl
theorem cs_Mod_95 : CS R_Mod 95 y_Mod_in b_Mod_in 6 (some .boolean) 3 := ⟨cb_Mod_in, st_Mod_in, Or.inl (vv_Gin (List.mem_append_right _ (List.mem_append_right _ (List.mem_append_right _ (List.mem_append_right _ (List.mem_append_right _ (List.mem_append_left _ (List.mem_of_getElem? (i := 100) rfl))))))) rfl)⟩
theorem wl_Mod_186 : Cond.constantLong R_Mod 186 3 ∈ vv_G := by decide +kernel
theorem tl_3 : (3 : Int64).toInt = 3 := rfl
theorem fa_Mod_7 : FA R_Mod 7 11 0 := ⟨_, _, _, rfl, i_Mod, by decide, vv_Gin (List.mem_append_right _ (List.mem_append_right _ (List.mem_append_right _ (List.mem_append_right _ (List.mem_append_left _ (List.mem_of_getElem? (i := 223) rfl)))))) rfl⟩
theorem tc_64 : (64 : Int32).toInt = 64 := rfl
theorem cb_Mod_isWellBy : CB y_Mod_isWellBy b_Mod_isWellBy 2 (some .boolean) 2 := ⟨vv_Gin (List.mem_append_right _ (List.mem_append_right _ (List.mem_append_right _ (List.mem_append_right _ (List.mem_append_right _ (List.mem_append_left _ (List.mem_of_getElem? (i := 206) rfl))))))) rfl, by decide +kernel, vv_Gin (List.mem_append_right _ (List.mem_append_left _ (List.mem_of_getElem? (i := 13) rfl))) rfl⟩
theorem st_Mod_isWellBy : Cond.static y_Mod_isWellBy ∈ vv_G := vv_Gin (List.mem_append_right _ (List.mem_append_right _ (List.mem_append_right _ (List.mem_append_right _ (List.mem_append_right _ (List.mem_append_left _ (List.mem_of_getElem? (i := 205) rfl))))))) rfl
theorem cs_Mod_188 : CS R_Mod 188 y_Mod_isWellBy b_Mod_isWellBy 2 (some .boolean) 2 := ⟨cb_Mod_isWellBy, st_Mod_isWellBy, Or.inl (vv_Gin (List.mem_append_right _ (List.mem_append_right _ (List.mem_append_right _ (List.mem_append_right _ (List.mem_append_right _ (List.mem_append_left _ (List.mem_of_getElem? (i := 204) rfl))))))) rfl)⟩
theorem wl_Mod_93 : Cond.constantLong R_Mod 93 127 ∈ vv_G := by decide +kernel
theorem tl_127 : (127 : Int64).toInt = 127 := rfl
theorem tc_160 : (160 : Int32).toInt = 160 := rfl
theorem fp_Mod_99 : FP R_Mod 99 11 15 .int := ⟨_, _, _, t_Mod, rfl, i_Mod, by decide, vv_Gin (List.mem_append_right _ (List.mem_append_right _ (List.mem_append_right _ (List.mem_append_right _ (List.mem_append_left _ (List.mem_of_getElem? (i := 238) rfl)))))) rfl, t_Mod_ok, n_Mod, rfl, t_Mod_ok 15 (by decide)⟩
theorem tc_m3 : ((-3) : Int32).toInt = (-3) := rfl
theorem fa_Mod_102 : FA R_Mod 102 11 20 := ⟨_, _, _, rfl, i_Mod, by decide, vv_Gin (List.mem_append_right _ (List.mem_append_right _ (List.mem_append_right _ (List.mem_append_right _ (List.mem_append_right _ (List.mem_append_left _ (List.mem_of_getElem? (i := 3) rfl))))))) rfl⟩
theorem fa_Mod_328 : FA R_Mod 328 11 35 := ⟨_, _, _, rfl, i_Mod, by decide, vv_Gin (List.mem_append_right _ (List.mem_append_right _ (List.mem_append_right _ (List.mem_append_right _ (List.mem_append_right _ (List.mem_append_left _ (List.mem_of_getElem? (i := 18) rfl))))))) rfl⟩
theorem fa_Mod_87 : FA R_Mod 87 11 4 := ⟨_, _, _, rfl, i_Mod, by decide, vv_Gin (List.mem_append_right _ (List.mem_append_right _ (List.mem_append_right _ (List.mem_append_right _ (List.mem_append_left _ (List.mem_of_getElem? (i := 227) rfl)))))) rfl⟩
theorem fa_Mod_90 : FA R_Mod 90 11 5 := ⟨_, _, _, rfl, i_Mod, by decide, vv_Gin (List.mem_append_right _ (List.mem_append_right _ (List.mem_append_right _ (List.mem_append_right _ (List.mem_append_left _ (List.mem_of_getElem? (i := 228) rfl)))))) rfl⟩
theorem tc_84 : (84 : Int32).toInt = 84 := rfl
theorem tc_85 : (85 : Int32).toInt = 85 := rfl
theorem tc_86 : (86 : Int32).toInt = 86 := rfl
theorem cb_Mod_isOwner : CB y_Mod_isOwner b_Mod_isOwner 1 (some .boolean) 1 := ⟨vv_Gin (List.mem_append_right _ (List.mem_append_right _ (List.mem_append_right _ (List.mem_append_right _ (List.mem_append_right _ (List.mem_append_left _ (List.mem_of_getElem? (i := 216) rfl))))))) rfl, by decide +kernel, vv_Gin (List.mem_append_right _ (List.mem_append_left _ (List.mem_of_getElem? (i := 13) rfl))) rfl⟩
theorem st_Mod_isOwner : Cond.static y_Mod_isOwner ∈ vv_G := vv_Gin (List.mem_append_right _ (List.mem_append_right _ (List.mem_append_right _ (List.mem_append_right _ (List.mem_append_right _ (List.mem_append_left _ (List.mem_of_getElem? (i := 215) rfl))))))) rfl
theorem cs_Mod_205 : CS R_Mod 205 y_Mod_isOwner b_Mod_isOwner 1 (some .boolean) 1 := ⟨cb_Mod_isOwner, st_Mod_isOwner, Or.inl (vv_Gin (List.mem_append_right _ (List.mem_append_right _ (List.mem_append_right _ (List.mem_append_right _ (List.mem_append_right _ (List.mem_append_left _ (List.mem_of_getElem? (i := 214) rfl))))))) rfl)⟩
theorem tc_80 : (80 : Int32).toInt = 80 := rfl
theorem d_Mod_in_0 : decode b_Mod_in 0 = .ok (.lload_n 0, 1) := dc_30 (by decide +kernel)
theorem d_Mod_in_1 : decode b_Mod_in 1 = .ok (.lload_n 2, 1) := dc_32 (by decide +kernel)
theorem d_Mod_in_2 : decode b_Mod_in 2 = .ok (.lcmp, 1) := dc_148 (by decide +kernel)
theorem d_Mod_in_3 : decode b_Mod_in 3 = .ok (.ifCond .lt 14, 3) := dc_155 (a := 0) (b := 14) (by decide +kernel) rfl
theorem d_Mod_in_6 : decode b_Mod_in 6 = .ok (.lload_n 0, 1) := dc_30 (by decide +kernel)
theorem d_Mod_in_7 : decode b_Mod_in 7 = .ok (.lload 4, 2) := dc_22 (a := 4) (by decide +kernel) rfl
theorem d_Mod_in_9 : decode b_Mod_in 9 = .ok (.lcmp, 1) := dc_148 (by decide +kernel)
theorem d_Mod_in_10 : decode b_Mod_in 10 = .ok (.ifCond .gt 7, 3) := dc_157 (a := 0) (b := 7) (by decide +kernel) rfl
theorem d_Mod_in_13 : decode b_Mod_in 13 = .ok (.iconst 1, 1) := dc_4 (by decide +kernel)
theorem d_Mod_in_14 : decode b_Mod_in 14 = .ok (.goto 4, 3) := dc_167 (a := 0) (b := 4) (by decide +kernel) rfl
theorem d_Mod_in_17 : decode b_Mod_in 17 = .ok (.iconst 0, 1) := dc_3 (by decide +kernel)
theorem d_Mod_in_18 : decode b_Mod_in 18 = .ok (.ireturn, 1) := dc_172 (by decide +kernel)
abbrev q_Mod_in (h : Hp) (v : Int64) (vZ : Int) (lo : Int64) (loZ : Int) (hi : Int64) (hiZ : Int) : Option Value → Hp → Prop := pInt (fun r h' => h = h' ∧ (r.toInt = 1 ∧ loZ ≤ vZ ∧ vZ ≤ hiZ ∨ r.toInt = 0 ∧ (vZ < loZ ∨ hiZ < vZ)))
set_option maxRecDepth 100000 in
theorem c_Mod_in (h : Hp) (v : Int64) (vZ : Int) (vE : v.toInt = vZ) (lo : Int64) (loZ : Int) (loE : lo.toInt = loZ) (hi : Int64) (hiZ : Int) (hiE : hi.toInt = hiZ) : Ct y_Mod_in b_Mod_in 6 (some .boolean) 0 0 [.long v, .long lo, .long hi] h (q_Mod_in h v vZ lo loZ hi hiZ) := by
  refine ct_ow R_Mod [some (.long v), none, some (.long lo), none, some (.long hi), none] rfl (by decide) rfl (Nat.le_of_ble_eq_true rfl) ?_
  have f0 : fr [] h h := fr_rf
  refine V_lload_n 0 d_Mod_in_0 rfl rfl ?_
  refine V_lload_n 2 d_Mod_in_1 rfl rfl ?_
  refine N_lcmp d_Mod_in_2 (fun z1 z1Z z1E z1e => ?_)
  have g2 := lcmp_ti vE loE z1e z1E
  refine V_if_lt 17 z1E d_Mod_in_3 (by decide) (fun c3 => ?_) (fun c3 => ?_)
  ·
    refine V_iconst 0 d_Mod_in_17 (by decide) ?_
    exact V_zret rfl (by decide) d_Mod_in_18 ⟨0, rfl, ⟨rfl, (by (try rw [show Int32.toInt 0 = 0 from rfl]); omega)⟩⟩
  ·
    refine V_lload_n 0 d_Mod_in_6 rfl rfl ?_
    refine V_lload d_Mod_in_7 rfl ?_
    refine N_lcmp d_Mod_in_9 (fun z4 z4Z z4E z4e => ?_)
    have g5 := lcmp_ti vE hiE z4e z4E
    refine V_if_gt 17 z4E d_Mod_in_10 (by decide) (fun c6 => ?_) (fun c6 => ?_)
    ·
      refine V_iconst 0 d_Mod_in_17 (by decide) ?_
      exact V_zret rfl (by decide) d_Mod_in_18 ⟨0, rfl, ⟨rfl, (by (try rw [show Int32.toInt 0 = 0 from rfl]); omega)⟩⟩
    ·
      refine V_iconst 1 d_Mod_in_13 (by decide) ?_
      refine V_goto 18 d_Mod_in_14 (by decide) ?_
      exact V_zret rfl (by decide) d_Mod_in_18 ⟨1, rfl, ⟨rfl, (by (try rw [show Int32.toInt 1 = 1 from rfl]); omega)⟩⟩
theorem d_Mod_flag_0 : decode b_Mod_flag 0 = .ok (.iload_n 0, 1) := dc_26 (by decide +kernel)
theorem d_Mod_flag_1 : decode b_Mod_flag 1 = .ok (.ifCond .eq 7, 3) := dc_153 (a := 0) (b := 7) (by decide +kernel) rfl
theorem d_Mod_flag_4 : decode b_Mod_flag 4 = .ok (.iconst 1, 1) := dc_4 (by decide +kernel)
theorem d_Mod_flag_5 : decode b_Mod_flag 5 = .ok (.goto 4, 3) := dc_167 (a := 0) (b := 4) (by decide +kernel) rfl
theorem d_Mod_flag_8 : decode b_Mod_flag 8 = .ok (.iconst 0, 1) := dc_3 (by decide +kernel)
theorem d_Mod_flag_9 : decode b_Mod_flag 9 = .ok (.ireturn, 1) := dc_172 (by decide +kernel)
abbrev q_Mod_flag (h : Hp) (b : Int32) (bZ : Int) : Option Value → Hp → Prop := pInt (fun r h' => h = h' ∧ (bZ ≠ 0 ∧ r.toInt = 1 ∨ bZ = 0 ∧ r.toInt = 0))
set_option maxRecDepth 100000 in
theorem c_Mod_flag (h : Hp) (b : Int32) (bZ : Int) (bE : b.toInt = bZ) : Ct y_Mod_flag b_Mod_flag 1 (some .int) 0 0 [.int b] h (q_Mod_flag h b bZ) := by
  refine ct_ow R_Mod [some (.int b)] rfl (by decide) rfl (Nat.le_of_ble_eq_true rfl) ?_
  have f0 : fr [] h h := fr_rf
  refine V_iload_n 0 d_Mod_flag_0 rfl rfl ?_
  refine V_if_eq 8 bE d_Mod_flag_1 (by decide) (fun c1 => ?_) (fun c1 => ?_)
  ·
    refine V_iconst 0 d_Mod_flag_8 (by decide) ?_
    exact V_iret rfl d_Mod_flag_9 ⟨0, rfl, ⟨rfl, (by (try rw [show Int32.toInt 0 = 0 from rfl]); omega)⟩⟩
  ·
    refine V_iconst 1 d_Mod_flag_4 (by decide) ?_
    refine V_goto 9 d_Mod_flag_5 (by decide) ?_
    exact V_iret rfl d_Mod_flag_9 ⟨1, rfl, ⟨rfl, (by (try rw [show Int32.toInt 1 = 1 from rfl]); omega)⟩⟩
theorem d_Mod_look_0 : decode b_Mod_look 0 = .ok (.iload_n 1, 1) := dc_27 (by decide +kernel)
theorem d_Mod_look_1 : decode b_Mod_look 1 = .ok (.aload_n 0, 1) := dc_42 (by decide +kernel)
theorem d_Mod_look_2 : decode b_Mod_look 2 = .ok (.getfield 99, 3) := dc_180 (a := 0) (b := 99) (by decide +kernel) rfl
theorem d_Mod_look_5 : decode b_Mod_look 5 = .ok (.if_icmp .ge 12, 3) := dc_162 (a := 0) (b := 12) (by decide +kernel) rfl
theorem d_Mod_look_8 : decode b_Mod_look 8 = .ok (.aload_n 0, 1) := dc_42 (by decide +kernel)
theorem d_Mod_look_9 : decode b_Mod_look 9 = .ok (.getfield 23, 3) := dc_180 (a := 0) (b := 23) (by decide +kernel) rfl
theorem d_Mod_look_12 : decode b_Mod_look 12 = .ok (.iload_n 1, 1) := dc_27 (by decide +kernel)
theorem d_Mod_look_13 : decode b_Mod_look 13 = .ok (.iaload, 1) := dc_46 (by decide +kernel)
theorem d_Mod_look_14 : decode b_Mod_look 14 = .ok (.goto 4, 3) := dc_167 (a := 0) (b := 4) (by decide +kernel) rfl
theorem d_Mod_look_17 : decode b_Mod_look 17 = .ok (.iconst (-1), 1) := dc_2 (by decide +kernel)
theorem d_Mod_look_18 : decode b_Mod_look 18 = .ok (.ireturn, 1) := dc_172 (by decide +kernel)
theorem d_Mod_cellMany_0 : decode b_Mod_cellMany 0 = .ok (.aload_n 0, 1) := dc_42 (by decide +kernel)
theorem d_Mod_cellMany_1 : decode b_Mod_cellMany 1 = .ok (.getfield 81, 3) := dc_180 (a := 0) (b := 81) (by decide +kernel) rfl
theorem d_Mod_cellMany_4 : decode b_Mod_cellMany 4 = .ok (.aload_n 0, 1) := dc_42 (by decide +kernel)
theorem d_Mod_cellMany_5 : decode b_Mod_cellMany 5 = .ok (.getfield 84, 3) := dc_180 (a := 0) (b := 84) (by decide +kernel) rfl
theorem d_Mod_cellMany_8 : decode b_Mod_cellMany 8 = .ok (.imul, 1) := dc_104 (by decide +kernel)
theorem d_Mod_cellMany_9 : decode b_Mod_cellMany 9 = .ok (.ireturn, 1) := dc_172 (by decide +kernel)
abbrev q_Mod_cellMany (h : Hp) (w : Int32) (wZ : Int) (g : Int32) (gZ : Int) : Option Value → Hp → Prop := pInt (fun r h' => h = h' ∧ (4 ≤ r.toInt ∧ r.toInt ≤ 16 ∧ r.toInt = wZ * gZ))
set_option maxRecDepth 100000 in
theorem c_Mod_cellMany (h : Hp) (hI : Inv h) (w : Int32) (wZ : Int) (wE : w.toInt = wZ) (wK : h.1 116 2 = w) (g : Int32) (gZ : Int) (gE : g.toInt = gZ) (gK : h.1 116 3 = g) : Ct y_Mod_cellMany b_Mod_cellMany 1 (some .int) 0 0 [.ref 116] h (q_Mod_cellMany h w wZ g gZ) := by
  refine ct_ow R_Mod [some (.ref 116)] rfl (by decide) rfl (Nat.le_of_ble_eq_true rfl) ?_
  have f0 : fr [] h h := fr_rf
  have g1 : 2 ≤ wZ ∧ wZ ≤ 4 := inv_at hI wE wK.symm rfl
  have g2 : 2 ≤ gZ ∧ gZ ≤ 4 := inv_at hI gE gK.symm rfl
  refine V_aload_n 0 d_Mod_cellMany_0 rfl rfl ?_
  refine N_getK fa_Mod_81 sk_116 rfl d_Mod_cellMany_1 wK ?_
  refine V_aload_n 0 d_Mod_cellMany_4 rfl rfl ?_
  refine N_getK fa_Mod_84 sk_116 rfl d_Mod_cellMany_5 gK ?_
  refine N_mul24 wE gE (by omega) (by omega) d_Mod_cellMany_8 (fun z3 z3Z z3E z3e z3r z3m => ?_)
  exact V_iret rfl d_Mod_cellMany_9 ⟨z3, rfl, ⟨rfl, (by (try rw [z3E]); omega)⟩⟩
theorem d_Mod_isCell_0 : decode b_Mod_isCell 0 = .ok (.iload_n 1, 1) := dc_27 (by decide +kernel)
theorem d_Mod_isCell_1 : decode b_Mod_isCell 1 = .ok (.i2l, 1) := dc_133 (by decide +kernel)
theorem d_Mod_isCell_2 : decode b_Mod_isCell 2 = .ok (.lconst 0, 1) := dc_9 (by decide +kernel)
theorem d_Mod_isCell_3 : decode b_Mod_isCell 3 = .ok (.aload_n 0, 1) := dc_42 (by decide +kernel)
theorem d_Mod_isCell_4 : decode b_Mod_isCell 4 = .ok (.invokevirtual 183, 3) := dc_182 (a := 0) (b := 183) (by decide +kernel) rfl
theorem d_Mod_isCell_7 : decode b_Mod_isCell 7 = .ok (.iconst 1, 1) := dc_4 (by decide +kernel)
theorem d_Mod_isCell_8 : decode b_Mod_isCell 8 = .ok (.isub, 1) := dc_100 (by decide +kernel)
theorem d_Mod_isCell_9 : decode b_Mod_isCell 9 = .ok (.i2l, 1) := dc_133 (by decide +kernel)
theorem d_Mod_isCell_10 : decode b_Mod_isCell 10 = .ok (.invokestatic 95, 3) := dc_184 (a := 0) (b := 95) (by decide +kernel) rfl
theorem d_Mod_isCell_13 : decode b_Mod_isCell 13 = .ok (.ireturn, 1) := dc_172 (by decide +kernel)
abbrev q_Mod_isCell (h : Hp) (c : Int32) (cZ : Int) (w : Int32) (wZ : Int) (g : Int32) (gZ : Int) : Option Value → Hp → Prop := pInt (fun r h' => h = h' ∧ (r.toInt = 1 ∧ 0 ≤ cZ ∧ cZ ≤ 15 ∨ r.toInt = 0))
set_option maxRecDepth 100000 in
theorem c_Mod_isCell (h : Hp) (hI : Inv h) (c : Int32) (cZ : Int) (cE : c.toInt = cZ) (w : Int32) (wZ : Int) (wE : w.toInt = wZ) (wK : h.1 116 2 = w) (g : Int32) (gZ : Int) (gE : g.toInt = gZ) (gK : h.1 116 3 = g) : Ct y_Mod_isCell b_Mod_isCell 2 (some .boolean) 1 25 [.ref 116, .int c] h (q_Mod_isCell h c cZ w wZ g gZ) := by
  refine ct_ow R_Mod [some (.ref 116), some (.int c)] rfl (by decide) rfl (Nat.le_of_ble_eq_true rfl) ?_
  have f0 : fr [] h h := fr_rf
  have g1 : 2 ≤ wZ ∧ wZ ≤ 4 := inv_at hI wE wK.symm rfl
  have g2 : 2 ≤ gZ ∧ gZ ≤ 4 := inv_at hI gE gK.symm rfl
  refine V_iload_n 1 d_Mod_isCell_0 rfl rfl ?_
  refine V_i2l d_Mod_isCell_1 (fun z3 z3e z3E => ?_)
  have z3F : z3.toInt = cZ := z3E.trans cE
  refine V_lconst 0 d_Mod_isCell_2 (by decide) ?_
  refine V_aload_n 0 d_Mod_isCell_3 rfl rfl ?_
  refine N_callVI [] [.long 0, .long z3] cv_Mod_183 sk_116 rfl d_Mod_isCell_4 rfl (Nat.le_of_ble_eq_true rfl) (by decide) (by decide) (c_Mod_cellMany h hI w wZ wE wK g gZ gE gK) (fun z4 h5 z4Z z4E p6 => ?_)
  obtain ⟨eh5, p6⟩ := p6
  subst eh5
  refine V_iconst 1 d_Mod_isCell_7 (by decide) ?_
  refine V_isub z4E tc_1 (by omega) d_Mod_isCell_8 (fun z7 z7e z7E => ?_)
  refine V_i2l d_Mod_isCell_9 (fun z8 z8e z8E => ?_)
  have z8F : z8.toInt = (z4Z - 1) := z8E.trans z7E
  refine N_callSI [.long z3, .long 0, .long z8] [] cs_Mod_95 d_Mod_isCell_10 rfl (Nat.le_of_ble_eq_true rfl) (by decide) (by decide) (c_Mod_in h z3 cZ z3F 0 0 tl_0 z8 ((z4Z - 1)) z8F) (fun z9 h10 z9Z z9E p11 => ?_)
  obtain ⟨eh10, p11⟩ := p11
  subst eh10
  exact V_zret rfl (by rw [z9E]; omega) d_Mod_isCell_13 ⟨z9, rfl, ⟨rfl, (by (try rw [z9E]); omega)⟩⟩
theorem d_Mod_isOwner_0 : decode b_Mod_isOwner 0 = .ok (.iload_n 0, 1) := dc_26 (by decide +kernel)
theorem d_Mod_isOwner_1 : decode b_Mod_isOwner 1 = .ok (.i2l, 1) := dc_133 (by decide +kernel)
theorem d_Mod_isOwner_2 : decode b_Mod_isOwner 2 = .ok (.lconst 0, 1) := dc_9 (by decide +kernel)
theorem d_Mod_isOwner_3 : decode b_Mod_isOwner 3 = .ok (.ldc2_w 186, 3) := dc_20 (a := 0) (b := 186) (by decide +kernel) rfl
theorem d_Mod_isOwner_6 : decode b_Mod_isOwner 6 = .ok (.invokestatic 95, 3) := dc_184 (a := 0) (b := 95) (by decide +kernel) rfl
theorem d_Mod_isOwner_9 : decode b_Mod_isOwner 9 = .ok (.ireturn, 1) := dc_172 (by decide +kernel)
abbrev q_Mod_isOwner (h : Hp) (o : Int32) (oZ : Int) : Option Value → Hp → Prop := pInt (fun r h' => h = h' ∧ (r.toInt = 1 ∧ 0 ≤ oZ ∧ oZ ≤ 3 ∨ r.toInt = 0 ∧ (oZ < 0 ∨ 3 < oZ)))
set_option maxRecDepth 100000 in
theorem c_Mod_isOwner (h : Hp) (o : Int32) (oZ : Int) (oE : o.toInt = oZ) : Ct y_Mod_isOwner b_Mod_isOwner 1 (some .boolean) 1 25 [.int o] h (q_Mod_isOwner h o oZ) := by
  refine ct_ow R_Mod [some (.int o)] rfl (by decide) rfl (Nat.le_of_ble_eq_true rfl) ?_
  have f0 : fr [] h h := fr_rf
  refine V_iload_n 0 d_Mod_isOwner_0 rfl rfl ?_
  refine V_i2l d_Mod_isOwner_1 (fun z1 z1e z1E => ?_)
  have z1F : z1.toInt = oZ := z1E.trans oE
  refine V_lconst 0 d_Mod_isOwner_2 (by decide) ?_
  refine V_ldc2 d_Mod_isOwner_3 wl_Mod_186 ?_
  refine N_callSI [.long z1, .long 0, .long 3] [] cs_Mod_95 d_Mod_isOwner_6 rfl (Nat.le_of_ble_eq_true rfl) (by decide) (by decide) (c_Mod_in h z1 oZ z1F 0 0 tl_0 3 3 tl_3) (fun z2 h3 z2Z z2E p4 => ?_)
  obtain ⟨eh3, p4⟩ := p4
  subst eh3
  exact V_zret rfl (by rw [z2E]; omega) d_Mod_isOwner_9 ⟨z2, rfl, ⟨rfl, (by (try rw [z2E]); omega)⟩⟩
theorem d_Mod_isWellBy_0 : decode b_Mod_isWellBy 0 = .ok (.iload_n 0, 1) := dc_26 (by decide +kernel)
theorem d_Mod_isWellBy_1 : decode b_Mod_isWellBy 1 = .ok (.ifCond .le 12, 3) := dc_158 (a := 0) (b := 12) (by decide +kernel) rfl
theorem d_Mod_isWellBy_4 : decode b_Mod_isWellBy 4 = .ok (.iload_n 0, 1) := dc_26 (by decide +kernel)
theorem d_Mod_isWellBy_5 : decode b_Mod_isWellBy 5 = .ok (.iload_n 1, 1) := dc_27 (by decide +kernel)
theorem d_Mod_isWellBy_6 : decode b_Mod_isWellBy 6 = .ok (.if_icmp .gt 7, 3) := dc_163 (a := 0) (b := 7) (by decide +kernel) rfl
theorem d_Mod_isWellBy_9 : decode b_Mod_isWellBy 9 = .ok (.iconst 1, 1) := dc_4 (by decide +kernel)
theorem d_Mod_isWellBy_10 : decode b_Mod_isWellBy 10 = .ok (.goto 4, 3) := dc_167 (a := 0) (b := 4) (by decide +kernel) rfl
theorem d_Mod_isWellBy_13 : decode b_Mod_isWellBy 13 = .ok (.iconst 0, 1) := dc_3 (by decide +kernel)
theorem d_Mod_isWellBy_14 : decode b_Mod_isWellBy 14 = .ok (.ireturn, 1) := dc_172 (by decide +kernel)
abbrev q_Mod_isWellBy (h : Hp) (a : Int32) (aZ : Int) (b : Int32) (bZ : Int) : Option Value → Hp → Prop := pInt (fun r h' => h = h' ∧ (r.toInt = 0 ∨ r.toInt = 1))
set_option maxRecDepth 100000 in
theorem c_Mod_isWellBy (h : Hp) (a : Int32) (aZ : Int) (aE : a.toInt = aZ) (b : Int32) (bZ : Int) (bE : b.toInt = bZ) : Ct y_Mod_isWellBy b_Mod_isWellBy 2 (some .boolean) 0 0 [.int a, .int b] h (q_Mod_isWellBy h a aZ b bZ) := by
  refine ct_ow R_Mod [some (.int a), some (.int b)] rfl (by decide) rfl (Nat.le_of_ble_eq_true rfl) ?_
  have f0 : fr [] h h := fr_rf
  refine V_iload_n 0 d_Mod_isWellBy_0 rfl rfl ?_
  refine V_if_le 13 aE d_Mod_isWellBy_1 (by decide) (fun c1 => ?_) (fun c1 => ?_)
  ·
    refine V_iconst 0 d_Mod_isWellBy_13 (by decide) ?_
    exact V_zret rfl (by decide) d_Mod_isWellBy_14 ⟨0, rfl, ⟨rfl, (by (try rw [show Int32.toInt 0 = 0 from rfl]); omega)⟩⟩
  ·
    refine V_iload_n 0 d_Mod_isWellBy_4 rfl rfl ?_
    refine V_iload_n 1 d_Mod_isWellBy_5 rfl rfl ?_
    refine V_icmp_gt 13 aE bE d_Mod_isWellBy_6 (by decide) (fun c2 => ?_) (fun c2 => ?_)
    ·
      refine V_iconst 0 d_Mod_isWellBy_13 (by decide) ?_
      exact V_zret rfl (by decide) d_Mod_isWellBy_14 ⟨0, rfl, ⟨rfl, (by (try rw [show Int32.toInt 0 = 0 from rfl]); omega)⟩⟩
    ·
      refine V_iconst 1 d_Mod_isWellBy_9 (by decide) ?_
      refine V_goto 14 d_Mod_isWellBy_10 (by decide) ?_
      exact V_zret rfl (by decide) d_Mod_isWellBy_14 ⟨1, rfl, ⟨rfl, (by (try rw [show Int32.toInt 1 = 1 from rfl]); omega)⟩⟩
theorem d_Mod_isWell_0 : decode b_Mod_isWell 0 = .ok (.aload_n 0, 1) := dc_42 (by decide +kernel)
theorem d_Mod_isWell_1 : decode b_Mod_isWell 1 = .ok (.getfield 7, 3) := dc_180 (a := 0) (b := 7) (by decide +kernel) rfl
theorem d_Mod_isWell_4 : decode b_Mod_isWell 4 = .ok (.iconst 0, 1) := dc_3 (by decide +kernel)
theorem d_Mod_isWell_5 : decode b_Mod_isWell 5 = .ok (.iload_n 1, 1) := dc_27 (by decide +kernel)
theorem d_Mod_isWell_6 : decode b_Mod_isWell 6 = .ok (.iadd, 1) := dc_96 (by decide +kernel)
theorem d_Mod_isWell_7 : decode b_Mod_isWell 7 = .ok (.iaload, 1) := dc_46 (by decide +kernel)
theorem d_Mod_isWell_8 : decode b_Mod_isWell 8 = .ok (.aload_n 0, 1) := dc_42 (by decide +kernel)
theorem d_Mod_isWell_9 : decode b_Mod_isWell 9 = .ok (.getfield 7, 3) := dc_180 (a := 0) (b := 7) (by decide +kernel) rfl
theorem d_Mod_isWell_12 : decode b_Mod_isWell 12 = .ok (.bipush 64, 2) := dc_16 (a := 64) (by decide +kernel) rfl
theorem d_Mod_isWell_14 : decode b_Mod_isWell 14 = .ok (.iload_n 1, 1) := dc_27 (by decide +kernel)
theorem d_Mod_isWell_15 : decode b_Mod_isWell 15 = .ok (.iadd, 1) := dc_96 (by decide +kernel)
theorem d_Mod_isWell_16 : decode b_Mod_isWell 16 = .ok (.iaload, 1) := dc_46 (by decide +kernel)
theorem d_Mod_isWell_17 : decode b_Mod_isWell 17 = .ok (.invokestatic 188, 3) := dc_184 (a := 0) (b := 188) (by decide +kernel) rfl
theorem d_Mod_isWell_20 : decode b_Mod_isWell 20 = .ok (.ireturn, 1) := dc_172 (by decide +kernel)
abbrev q_Mod_isWell (h : Hp) (c : Int32) (cZ : Int) : Option Value → Hp → Prop := pInt (fun r h' => h = h' ∧ (r.toInt = 0 ∨ r.toInt = 1))
set_option maxRecDepth 100000 in
theorem c_Mod_isWell (h : Hp) (hI : Inv h) (c : Int32) (cZ : Int) (cE : c.toInt = cZ) (hy0 : 0 ≤ cZ ∧ cZ ≤ 15) : Ct y_Mod_isWell b_Mod_isWell 2 (some .boolean) 1 21 [.ref 116, .int c] h (q_Mod_isWell h c cZ) := by
  refine ct_ow R_Mod [some (.ref 116), some (.int c)] rfl (by decide) rfl (Nat.le_of_ble_eq_true rfl) ?_
  have f0 : fr [] h h := fr_rf
  refine V_aload_n 0 d_Mod_isWell_0 rfl rfl ?_
  refine V_getR fa_Mod_7 sk_116 rfl d_Mod_isWell_1 ?_
  refine V_iconst 0 d_Mod_isWell_4 (by decide) ?_
  refine V_iload_n 1 d_Mod_isWell_5 rfl rfl ?_
  refine V_iadd tc_0 cE (by omega) d_Mod_isWell_6 (fun z1 z1e z1E => ?_)
  refine N_iald sk_117 z1E (by omega) d_Mod_isWell_7 (fun z2 z2Z z2E z2e => ?_)
  refine V_aload_n 0 d_Mod_isWell_8 rfl rfl ?_
  refine V_getR fa_Mod_7 sk_116 rfl d_Mod_isWell_9 ?_
  refine V_bipush 64 d_Mod_isWell_12 (by decide) ?_
  refine V_iload_n 1 d_Mod_isWell_14 rfl rfl ?_
  refine V_iadd tc_64 cE (by omega) d_Mod_isWell_15 (fun z3 z3e z3E => ?_)
  refine N_iald sk_117 z3E (by omega) d_Mod_isWell_16 (fun z4 z4Z z4E z4e => ?_)
  refine N_callSI [.int z2, .int z4] [] cs_Mod_188 d_Mod_isWell_17 rfl (Nat.le_of_ble_eq_true rfl) (by decide) (by decide) (c_Mod_isWellBy h z2 z2Z z2E z4 z4Z z4E) (fun z5 h6 z5Z z5E p7 => ?_)
  obtain ⟨eh6, p7⟩ := p7
  subst eh6
  exact V_zret rfl (by rw [z5E]; omega) d_Mod_isWell_20 ⟨z5, rfl, ⟨rfl, (by (try rw [z5E]); omega)⟩⟩
theorem d_Mod_feed_0 : decode b_Mod_feed 0 = .ok (.iload_n 1, 1) := dc_27 (by decide +kernel)
theorem d_Mod_feed_1 : decode b_Mod_feed 1 = .ok (.i2l, 1) := dc_133 (by decide +kernel)
theorem d_Mod_feed_2 : decode b_Mod_feed 2 = .ok (.lconst 0, 1) := dc_9 (by decide +kernel)
theorem d_Mod_feed_3 : decode b_Mod_feed 3 = .ok (.ldc2_w 93, 3) := dc_20 (a := 0) (b := 93) (by decide +kernel) rfl
theorem d_Mod_feed_6 : decode b_Mod_feed 6 = .ok (.invokestatic 95, 3) := dc_184 (a := 0) (b := 95) (by decide +kernel) rfl
theorem d_Mod_feed_9 : decode b_Mod_feed 9 = .ok (.ifCond .ne 5, 3) := dc_154 (a := 0) (b := 5) (by decide +kernel) rfl
theorem d_Mod_feed_12 : decode b_Mod_feed 12 = .ok (.iconst (-1), 1) := dc_2 (by decide +kernel)
theorem d_Mod_feed_13 : decode b_Mod_feed 13 = .ok (.ireturn, 1) := dc_172 (by decide +kernel)
theorem d_Mod_feed_14 : decode b_Mod_feed 14 = .ok (.aload_n 0, 1) := dc_42 (by decide +kernel)
theorem d_Mod_feed_15 : decode b_Mod_feed 15 = .ok (.getfield 99, 3) := dc_180 (a := 0) (b := 99) (by decide +kernel) rfl
theorem d_Mod_feed_18 : decode b_Mod_feed 18 = .ok (.sipush 160, 3) := dc_17 (a := 0) (b := 160) (by decide +kernel) rfl
theorem d_Mod_feed_21 : decode b_Mod_feed 21 = .ok (.if_icmp .ne 6, 3) := dc_160 (a := 0) (b := 6) (by decide +kernel) rfl
theorem d_Mod_feed_24 : decode b_Mod_feed 24 = .ok (.bipush (-3), 2) := dc_16 (a := 253) (by decide +kernel) rfl
theorem d_Mod_feed_26 : decode b_Mod_feed 26 = .ok (.ireturn, 1) := dc_172 (by decide +kernel)
theorem d_Mod_feed_27 : decode b_Mod_feed 27 = .ok (.aload_n 0, 1) := dc_42 (by decide +kernel)
theorem d_Mod_feed_28 : decode b_Mod_feed 28 = .ok (.getfield 23, 3) := dc_180 (a := 0) (b := 23) (by decide +kernel) rfl
theorem d_Mod_feed_31 : decode b_Mod_feed 31 = .ok (.aload_n 0, 1) := dc_42 (by decide +kernel)
theorem d_Mod_feed_32 : decode b_Mod_feed 32 = .ok (.getfield 99, 3) := dc_180 (a := 0) (b := 99) (by decide +kernel) rfl
theorem d_Mod_feed_35 : decode b_Mod_feed 35 = .ok (.iload_n 1, 1) := dc_27 (by decide +kernel)
theorem d_Mod_feed_36 : decode b_Mod_feed 36 = .ok (.iastore, 1) := dc_79 (by decide +kernel)
theorem d_Mod_feed_37 : decode b_Mod_feed 37 = .ok (.aload_n 0, 1) := dc_42 (by decide +kernel)
theorem d_Mod_feed_38 : decode b_Mod_feed 38 = .ok (.dup, 1) := dc_89 (by decide +kernel)
theorem d_Mod_feed_39 : decode b_Mod_feed 39 = .ok (.getfield 99, 3) := dc_180 (a := 0) (b := 99) (by decide +kernel) rfl
theorem d_Mod_feed_42 : decode b_Mod_feed 42 = .ok (.iconst 1, 1) := dc_4 (by decide +kernel)
theorem d_Mod_feed_43 : decode b_Mod_feed 43 = .ok (.iadd, 1) := dc_96 (by decide +kernel)
theorem d_Mod_feed_44 : decode b_Mod_feed 44 = .ok (.putfield 99, 3) := dc_181 (a := 0) (b := 99) (by decide +kernel) rfl
theorem d_Mod_feed_47 : decode b_Mod_feed 47 = .ok (.aload_n 0, 1) := dc_42 (by decide +kernel)
theorem d_Mod_feed_48 : decode b_Mod_feed 48 = .ok (.getfield 99, 3) := dc_180 (a := 0) (b := 99) (by decide +kernel) rfl
theorem d_Mod_feed_51 : decode b_Mod_feed 51 = .ok (.ireturn, 1) := dc_172 (by decide +kernel)
theorem d_Mod_end_0 : decode b_Mod_end 0 = .ok (.iload_n 1, 1) := dc_27 (by decide +kernel)
theorem d_Mod_end_1 : decode b_Mod_end 1 = .ok (.i2l, 1) := dc_133 (by decide +kernel)
theorem d_Mod_end_2 : decode b_Mod_end 2 = .ok (.lconst 0, 1) := dc_9 (by decide +kernel)
theorem d_Mod_end_3 : decode b_Mod_end 3 = .ok (.aload_n 0, 1) := dc_42 (by decide +kernel)
theorem d_Mod_end_4 : decode b_Mod_end 4 = .ok (.getfield 99, 3) := dc_180 (a := 0) (b := 99) (by decide +kernel) rfl
theorem d_Mod_end_7 : decode b_Mod_end 7 = .ok (.i2l, 1) := dc_133 (by decide +kernel)
theorem d_Mod_end_8 : decode b_Mod_end 8 = .ok (.invokestatic 95, 3) := dc_184 (a := 0) (b := 95) (by decide +kernel) rfl
theorem d_Mod_end_11 : decode b_Mod_end 11 = .ok (.ifCond .ne 5, 3) := dc_154 (a := 0) (b := 5) (by decide +kernel) rfl
theorem d_Mod_end_14 : decode b_Mod_end 14 = .ok (.iconst (-1), 1) := dc_2 (by decide +kernel)
theorem d_Mod_end_15 : decode b_Mod_end 15 = .ok (.ireturn, 1) := dc_172 (by decide +kernel)
theorem d_Mod_end_16 : decode b_Mod_end 16 = .ok (.aload_n 0, 1) := dc_42 (by decide +kernel)
theorem d_Mod_end_17 : decode b_Mod_end 17 = .ok (.getfield 99, 3) := dc_180 (a := 0) (b := 99) (by decide +kernel) rfl
theorem d_Mod_end_20 : decode b_Mod_end 20 = .ok (.istore_n 2, 1) := dc_61 (by decide +kernel)
theorem d_Mod_end_21 : decode b_Mod_end 21 = .ok (.aload_n 0, 1) := dc_42 (by decide +kernel)
theorem d_Mod_end_22 : decode b_Mod_end 22 = .ok (.iload_n 1, 1) := dc_27 (by decide +kernel)
theorem d_Mod_end_23 : decode b_Mod_end 23 = .ok (.putfield 99, 3) := dc_181 (a := 0) (b := 99) (by decide +kernel) rfl
theorem d_Mod_end_26 : decode b_Mod_end 26 = .ok (.iload_n 2, 1) := dc_28 (by decide +kernel)
theorem d_Mod_end_27 : decode b_Mod_end 27 = .ok (.ireturn, 1) := dc_172 (by decide +kernel)
def S_Mod_end : List (Nat × Option Nat) := [(116, some 15)]
abbrev q_Mod_end (h : Hp) (n : Int32) (nZ : Int) (t : Int32) (tZ : Int) : Option Value → Hp → Prop := pInt (fun r h' => Inv h' ∧ fr S_Mod_end h h' ∧ ∃ (u : Int32) (uZ : Int), u.toInt = uZ ∧ h'.1 116 15 = u ∧ (0 ≤ nZ ∧ nZ ≤ tZ ∧ uZ = nZ ∧ r.toInt = tZ ∨ (nZ < 0 ∨ tZ < nZ) ∧ uZ = tZ ∧ r.toInt = -1))
set_option maxRecDepth 100000 in
theorem c_Mod_end (h : Hp) (hI : Inv h) (n : Int32) (nZ : Int) (nE : n.toInt = nZ) (t : Int32) (tZ : Int) (tE : t.toInt = tZ) (tK : h.1 116 15 = t) : Ct y_Mod_end b_Mod_end 3 (some .int) 1 25 [.ref 116, .int n] h (q_Mod_end h n nZ t tZ) := by
  refine ct_ow R_Mod [some (.ref 116), some (.int n), none] rfl (by decide) rfl (Nat.le_of_ble_eq_true rfl) ?_
  have f0 : fr S_Mod_end h h := fr_rf
  have g1 : 0 ≤ tZ ∧ tZ ≤ 160 := inv_at hI tE tK.symm rfl
  refine V_iload_n 1 d_Mod_end_0 rfl rfl ?_
  refine V_i2l d_Mod_end_1 (fun z2 z2e z2E => ?_)
  have z2F : z2.toInt = nZ := z2E.trans nE
  refine V_lconst 0 d_Mod_end_2 (by decide) ?_
  refine V_aload_n 0 d_Mod_end_3 rfl rfl ?_
  refine N_getK fa_Mod_99 sk_116 rfl d_Mod_end_4 tK ?_
  refine V_i2l d_Mod_end_7 (fun z3 z3e z3E => ?_)
  have z3F : z3.toInt = tZ := z3E.trans tE
  refine N_callSI [.long z2, .long 0, .long z3] [] cs_Mod_95 d_Mod_end_8 rfl (Nat.le_of_ble_eq_true rfl) (by decide) (by decide) (c_Mod_in h z2 nZ z2F 0 0 tl_0 z3 tZ z3F) (fun z4 h5 z4Z z4E p6 => ?_)
  obtain ⟨eh5, p6⟩ := p6
  subst eh5
  refine V_if_ne 16 z4E d_Mod_end_11 (by decide) (fun c7 => ?_) (fun c7 => ?_)
  ·
    refine V_aload_n 0 d_Mod_end_16 rfl rfl ?_
    refine N_getK fa_Mod_99 sk_116 rfl d_Mod_end_17 tK ?_
    refine V_istore_n 2 [some (.ref 116), some (.int n), some (.int t)] d_Mod_end_20 rfl (by decide) rfl rfl ?_
    refine V_aload_n 0 d_Mod_end_21 rfl rfl ?_
    refine V_iload_n 1 d_Mod_end_22 rfl rfl ?_
    refine N_putI fp_Mod_99 sk_116 rfl d_Mod_end_23 (fun h8 eh8 => ?_)
    have hI9 : Inv h8 := inv_put (lo := 0) (hi := 160) hI eh8 rfl nE (by omega)
    have f10 : fr S_Mod_end h h8 := fr_put f0 eh8 rfl
    refine V_iload_n 2 d_Mod_end_26 rfl rfl ?_
    exact V_iret rfl d_Mod_end_27 ⟨t, rfl, ⟨hI9, f10, n, nZ, nE, (kn_put eh8), (by (try rw [tE]); omega)⟩⟩
  ·
    refine V_iconst (-1) d_Mod_end_14 (by decide) ?_
    exact V_iret rfl d_Mod_end_15 ⟨(-1), rfl, ⟨hI, f0, t, tZ, tE, tK, (by (try rw [show Int32.toInt (-1) = (-1) from rfl]); omega)⟩⟩
theorem d_Mod_fault_0 : decode b_Mod_fault 0 = .ok (.aload_n 0, 1) := dc_42 (by decide +kernel)
theorem d_Mod_fault_1 : decode b_Mod_fault 1 = .ok (.getfield 102, 3) := dc_180 (a := 0) (b := 102) (by decide +kernel) rfl
theorem d_Mod_fault_4 : decode b_Mod_fault 4 = .ok (.ireturn, 1) := dc_172 (by decide +kernel)
theorem d_Mod_torn_0 : decode b_Mod_torn 0 = .ok (.aload_n 0, 1) := dc_42 (by decide +kernel)
theorem d_Mod_torn_1 : decode b_Mod_torn 1 = .ok (.getfield 328, 3) := dc_180 (a := 1) (b := 72) (by decide +kernel) rfl
theorem d_Mod_torn_4 : decode b_Mod_torn 4 = .ok (.ireturn, 1) := dc_172 (by decide +kernel)
abbrev q_Mod_torn (h : Hp)  : Option Value → Hp → Prop := pInt (fun r h' => h = h')
set_option maxRecDepth 100000 in
theorem c_Mod_torn (h : Hp) (hI : Inv h) : Ct y_Mod_torn b_Mod_torn 1 (some .int) 0 0 [.ref 116] h (q_Mod_torn h ) := by
  refine ct_ow R_Mod [some (.ref 116)] rfl (by decide) rfl (Nat.le_of_ble_eq_true rfl) ?_
  have f0 : fr [] h h := fr_rf
  refine V_aload_n 0 d_Mod_torn_0 rfl rfl ?_
  refine N_getI fa_Mod_328 sk_116 rfl d_Mod_torn_1 (fun z1 z1Z z1E z1e => ?_)
  exact V_iret rfl d_Mod_torn_4 ⟨z1, rfl, rfl⟩
theorem d_Mod_rule_0 : decode b_Mod_rule 0 = .ok (.iload_n 1, 1) := dc_27 (by decide +kernel)
theorem d_Mod_rule_1 : decode b_Mod_rule 1 = .ok (.tableswitch 87 0 6 #[43, 48, 53, 58, 63, 71, 79], 43) := by decide +kernel
theorem d_Mod_rule_44 : decode b_Mod_rule 44 = .ok (.aload_n 0, 1) := dc_42 (by decide +kernel)
theorem d_Mod_rule_45 : decode b_Mod_rule 45 = .ok (.getfield 81, 3) := dc_180 (a := 0) (b := 81) (by decide +kernel) rfl
theorem d_Mod_rule_48 : decode b_Mod_rule 48 = .ok (.ireturn, 1) := dc_172 (by decide +kernel)
theorem d_Mod_rule_49 : decode b_Mod_rule 49 = .ok (.aload_n 0, 1) := dc_42 (by decide +kernel)
theorem d_Mod_rule_50 : decode b_Mod_rule 50 = .ok (.getfield 84, 3) := dc_180 (a := 0) (b := 84) (by decide +kernel) rfl
theorem d_Mod_rule_53 : decode b_Mod_rule 53 = .ok (.ireturn, 1) := dc_172 (by decide +kernel)
theorem d_Mod_rule_54 : decode b_Mod_rule 54 = .ok (.aload_n 0, 1) := dc_42 (by decide +kernel)
theorem d_Mod_rule_55 : decode b_Mod_rule 55 = .ok (.getfield 87, 3) := dc_180 (a := 0) (b := 87) (by decide +kernel) rfl
theorem d_Mod_rule_58 : decode b_Mod_rule 58 = .ok (.ireturn, 1) := dc_172 (by decide +kernel)
theorem d_Mod_rule_59 : decode b_Mod_rule 59 = .ok (.aload_n 0, 1) := dc_42 (by decide +kernel)
theorem d_Mod_rule_60 : decode b_Mod_rule 60 = .ok (.getfield 90, 3) := dc_180 (a := 0) (b := 90) (by decide +kernel) rfl
theorem d_Mod_rule_63 : decode b_Mod_rule 63 = .ok (.ireturn, 1) := dc_172 (by decide +kernel)
theorem d_Mod_rule_64 : decode b_Mod_rule 64 = .ok (.aload_n 0, 1) := dc_42 (by decide +kernel)
theorem d_Mod_rule_65 : decode b_Mod_rule 65 = .ok (.getfield 7, 3) := dc_180 (a := 0) (b := 7) (by decide +kernel) rfl
theorem d_Mod_rule_68 : decode b_Mod_rule 68 = .ok (.bipush 84, 2) := dc_16 (a := 84) (by decide +kernel) rfl
theorem d_Mod_rule_70 : decode b_Mod_rule 70 = .ok (.iaload, 1) := dc_46 (by decide +kernel)
theorem d_Mod_rule_71 : decode b_Mod_rule 71 = .ok (.ireturn, 1) := dc_172 (by decide +kernel)
theorem d_Mod_rule_72 : decode b_Mod_rule 72 = .ok (.aload_n 0, 1) := dc_42 (by decide +kernel)
theorem d_Mod_rule_73 : decode b_Mod_rule 73 = .ok (.getfield 7, 3) := dc_180 (a := 0) (b := 7) (by decide +kernel) rfl
theorem d_Mod_rule_76 : decode b_Mod_rule 76 = .ok (.bipush 85, 2) := dc_16 (a := 85) (by decide +kernel) rfl
theorem d_Mod_rule_78 : decode b_Mod_rule 78 = .ok (.iaload, 1) := dc_46 (by decide +kernel)
theorem d_Mod_rule_79 : decode b_Mod_rule 79 = .ok (.ireturn, 1) := dc_172 (by decide +kernel)
theorem d_Mod_rule_80 : decode b_Mod_rule 80 = .ok (.aload_n 0, 1) := dc_42 (by decide +kernel)
theorem d_Mod_rule_81 : decode b_Mod_rule 81 = .ok (.getfield 7, 3) := dc_180 (a := 0) (b := 7) (by decide +kernel) rfl
theorem d_Mod_rule_84 : decode b_Mod_rule 84 = .ok (.bipush 86, 2) := dc_16 (a := 86) (by decide +kernel) rfl
theorem d_Mod_rule_86 : decode b_Mod_rule 86 = .ok (.iaload, 1) := dc_46 (by decide +kernel)
theorem d_Mod_rule_87 : decode b_Mod_rule 87 = .ok (.ireturn, 1) := dc_172 (by decide +kernel)
theorem d_Mod_rule_88 : decode b_Mod_rule 88 = .ok (.iconst (-1), 1) := dc_2 (by decide +kernel)
theorem d_Mod_rule_89 : decode b_Mod_rule 89 = .ok (.ireturn, 1) := dc_172 (by decide +kernel)
theorem d_Mod_purse_0 : decode b_Mod_purse 0 = .ok (.iload_n 1, 1) := dc_27 (by decide +kernel)
theorem d_Mod_purse_1 : decode b_Mod_purse 1 = .ok (.invokestatic 205, 3) := dc_184 (a := 0) (b := 205) (by decide +kernel) rfl
theorem d_Mod_purse_4 : decode b_Mod_purse 4 = .ok (.ifCond .eq 15, 3) := dc_153 (a := 0) (b := 15) (by decide +kernel) rfl
theorem d_Mod_purse_7 : decode b_Mod_purse 7 = .ok (.aload_n 0, 1) := dc_42 (by decide +kernel)
theorem d_Mod_purse_8 : decode b_Mod_purse 8 = .ok (.getfield 7, 3) := dc_180 (a := 0) (b := 7) (by decide +kernel) rfl
theorem d_Mod_purse_11 : decode b_Mod_purse 11 = .ok (.bipush 80, 2) := dc_16 (a := 80) (by decide +kernel) rfl
theorem d_Mod_purse_13 : decode b_Mod_purse 13 = .ok (.iload_n 1, 1) := dc_27 (by decide +kernel)
theorem d_Mod_purse_14 : decode b_Mod_purse 14 = .ok (.iadd, 1) := dc_96 (by decide +kernel)
theorem d_Mod_purse_15 : decode b_Mod_purse 15 = .ok (.iaload, 1) := dc_46 (by decide +kernel)
theorem d_Mod_purse_16 : decode b_Mod_purse 16 = .ok (.goto 4, 3) := dc_167 (a := 0) (b := 4) (by decide +kernel) rfl
theorem d_Mod_purse_19 : decode b_Mod_purse 19 = .ok (.iconst (-1), 1) := dc_2 (by decide +kernel)
theorem d_Mod_purse_20 : decode b_Mod_purse 20 = .ok (.ireturn, 1) := dc_172 (by decide +kernel)
abbrev q_Mod_purse (h : Hp) (o : Int32) (oZ : Int) : Option Value → Hp → Prop := pInt (fun r h' => h = h')
set_option maxRecDepth 100000 in
theorem c_Mod_purse (h : Hp) (hI : Inv h) (o : Int32) (oZ : Int) (oE : o.toInt = oZ) : Ct y_Mod_purse b_Mod_purse 2 (some .int) 2 45 [.ref 116, .int o] h (q_Mod_purse h o oZ) := by
  refine ct_ow R_Mod [some (.ref 116), some (.int o)] rfl (by decide) rfl (Nat.le_of_ble_eq_true rfl) ?_
  have f0 : fr [] h h := fr_rf
  refine V_iload_n 1 d_Mod_purse_0 rfl rfl ?_
  refine N_callSI [.int o] [] cs_Mod_205 d_Mod_purse_1 rfl (Nat.le_of_ble_eq_true rfl) (by decide) (by decide) (c_Mod_isOwner h o oZ oE) (fun z1 h2 z1Z z1E p3 => ?_)
  obtain ⟨eh2, p3⟩ := p3
  subst eh2
  refine V_if_eq 19 z1E d_Mod_purse_4 (by decide) (fun c4 => ?_) (fun c4 => ?_)
  ·
    refine V_iconst (-1) d_Mod_purse_19 (by decide) ?_
    exact V_iret rfl d_Mod_purse_20 ⟨(-1), rfl, rfl⟩
  ·
    refine V_aload_n 0 d_Mod_purse_7 rfl rfl ?_
    refine V_getR fa_Mod_7 sk_116 rfl d_Mod_purse_8 ?_
    refine V_bipush 80 d_Mod_purse_11 (by decide) ?_
    refine V_iload_n 1 d_Mod_purse_13 rfl rfl ?_
    refine V_iadd tc_80 oE (by omega) d_Mod_purse_14 (fun z5 z5e z5E => ?_)
    refine N_iald sk_117 z5E (by omega) d_Mod_purse_15 (fun z6 z6Z z6E z6e => ?_)
    refine V_goto 20 d_Mod_purse_16 (by decide) ?_
    exact V_iret rfl d_Mod_purse_20 ⟨z6, rfl, rfl⟩
end
section
theorem cb_Mod_isWell : CB y_Mod_isWell b_Mod_isWell 2 (some .boolean) 1 := ⟨vv_Gin (List.mem_append_right _ (List.mem_append_right _ (List.mem_append_right _ (List.mem_append_right _ (List.mem_append_right _ (List.mem_append_left _ (List.mem_of_getElem? (i := 203) rfl))))))) rfl, by decide +kernel, vv_Gin (List.mem_append_right _ (List.mem_append_left _ (List.mem_of_getElem? (i := 13) rfl))) rfl⟩
theorem im_Mod_isWell : Cond.instanceMethod y_Mod_isWell ∈ vv_G := vv_Gin (List.mem_append_right _ (List.mem_append_right _ (List.mem_append_right _ (List.mem_append_right _ (List.mem_append_right _ (List.mem_append_left _ (List.mem_of_getElem? (i := 202) rfl))))))) rfl
theorem se_Mod_isWell : Cond.selects y_Mod_isWell.cls y_Mod_isWell y_Mod_isWell ∈ vv_G := vv_Gin (List.mem_append_left _ (List.mem_of_getElem? (i := 37) rfl)) rfl
theorem cv_Mod_192 : CV R_Mod 192 y_Mod_isWell b_Mod_isWell 2 (some .boolean) 1 := ⟨cb_Mod_isWell, im_Mod_isWell, se_Mod_isWell, vv_Gin (List.mem_append_right _ (List.mem_append_right _ (List.mem_append_right _ (List.mem_append_right _ (List.mem_append_right _ (List.mem_append_left _ (List.mem_of_getElem? (i := 200) rfl))))))) rfl⟩
theorem cb_Mod_flag : CB y_Mod_flag b_Mod_flag 1 (some .int) 1 := ⟨vv_Gin (List.mem_append_right _ (List.mem_append_right _ (List.mem_append_right _ (List.mem_append_right _ (List.mem_append_right _ (List.mem_append_left _ (List.mem_of_getElem? (i := 209) rfl))))))) rfl, by decide +kernel, vv_Gin (List.mem_append_right _ (List.mem_append_left _ (List.mem_of_getElem? (i := 13) rfl))) rfl⟩
theorem st_Mod_flag : Cond.static y_Mod_flag ∈ vv_G := vv_Gin (List.mem_append_right _ (List.mem_append_right _ (List.mem_append_right _ (List.mem_append_right _ (List.mem_append_right _ (List.mem_append_left _ (List.mem_of_getElem? (i := 208) rfl))))))) rfl
theorem cs_Mod_196 : CS R_Mod 196 y_Mod_flag b_Mod_flag 1 (some .int) 1 := ⟨cb_Mod_flag, st_Mod_flag, Or.inl (vv_Gin (List.mem_append_right _ (List.mem_append_right _ (List.mem_append_right _ (List.mem_append_right _ (List.mem_append_right _ (List.mem_append_left _ (List.mem_of_getElem? (i := 207) rfl))))))) rfl)⟩
theorem cb_Mod_isCell : CB y_Mod_isCell b_Mod_isCell 2 (some .boolean) 1 := ⟨vv_Gin (List.mem_append_right _ (List.mem_append_right _ (List.mem_append_right _ (List.mem_append_right _ (List.mem_append_right _ (List.mem_append_left _ (List.mem_of_getElem? (i := 194) rfl))))))) rfl, by decide +kernel, vv_Gin (List.mem_append_right _ (List.mem_append_left _ (List.mem_of_getElem? (i := 13) rfl))) rfl⟩
theorem im_Mod_isCell : Cond.instanceMethod y_Mod_isCell ∈ vv_G := vv_Gin (List.mem_append_right _ (List.mem_append_right _ (List.mem_append_right _ (List.mem_append_right _ (List.mem_append_right _ (List.mem_append_left _ (List.mem_of_getElem? (i := 193) rfl))))))) rfl
theorem se_Mod_isCell : Cond.selects y_Mod_isCell.cls y_Mod_isCell y_Mod_isCell ∈ vv_G := vv_Gin (List.mem_append_left _ (List.mem_of_getElem? (i := 35) rfl)) rfl
theorem cv_Mod_200 : CV R_Mod 200 y_Mod_isCell b_Mod_isCell 2 (some .boolean) 1 := ⟨cb_Mod_isCell, im_Mod_isCell, se_Mod_isCell, vv_Gin (List.mem_append_right _ (List.mem_append_right _ (List.mem_append_right _ (List.mem_append_right _ (List.mem_append_right _ (List.mem_append_left _ (List.mem_of_getElem? (i := 191) rfl))))))) rfl⟩
theorem wl_Mod_203 : Cond.constantLong R_Mod 203 5 ∈ vv_G := by decide +kernel
theorem tl_5 : (5 : Int64).toInt = 5 := rfl
theorem tc_5 : (5 : Int32).toInt = 5 := rfl
theorem tc_16 : (16 : Int32).toInt = 16 := rfl
theorem wl_Mod_208 : Cond.constantLong R_Mod 208 9 ∈ vv_G := by decide +kernel
theorem tl_9 : (9 : Int64).toInt = 9 := rfl
theorem cb_Mod_becomes : CB y_Mod_becomes b_Mod_becomes 4 (some .int) 2 := ⟨vv_Gin (List.mem_append_right _ (List.mem_append_right _ (List.mem_append_right _ (List.mem_append_right _ (List.mem_append_right _ (List.mem_append_left _ (List.mem_of_getElem? (i := 226) rfl))))))) rfl, by decide +kernel, vv_Gin (List.mem_append_right _ (List.mem_append_left _ (List.mem_of_getElem? (i := 13) rfl))) rfl⟩
theorem im_Mod_becomes : Cond.instanceMethod y_Mod_becomes ∈ vv_G := vv_Gin (List.mem_append_right _ (List.mem_append_right _ (List.mem_append_right _ (List.mem_append_right _ (List.mem_append_right _ (List.mem_append_left _ (List.mem_of_getElem? (i := 225) rfl))))))) rfl
theorem se_Mod_becomes : Cond.selects y_Mod_becomes.cls y_Mod_becomes y_Mod_becomes ∈ vv_G := vv_Gin (List.mem_append_left _ (List.mem_of_getElem? (i := 38) rfl)) rfl
theorem cv_Mod_210 : CV R_Mod 210 y_Mod_becomes b_Mod_becomes 4 (some .int) 2 := ⟨cb_Mod_becomes, im_Mod_becomes, se_Mod_becomes, vv_Gin (List.mem_append_right _ (List.mem_append_right _ (List.mem_append_right _ (List.mem_append_right _ (List.mem_append_right _ (List.mem_append_left _ (List.mem_of_getElem? (i := 223) rfl))))))) rfl⟩
theorem wl_Mod_213 : Cond.constantLong R_Mod 213 10 ∈ vv_G := by decide +kernel
theorem tl_10 : (10 : Int64).toInt = 10 := rfl
theorem tc_32 : (32 : Int32).toInt = 32 := rfl
theorem tc_m4 : ((-4) : Int32).toInt = (-4) := rfl
theorem tc_48 : (48 : Int32).toInt = 48 := rfl
theorem wl_Mod_215 : Cond.constantLong R_Mod 215 999 ∈ vv_G := by decide +kernel
theorem tl_999 : (999 : Int64).toInt = 999 := rfl
theorem wl_Mod_217 : Cond.constantLong R_Mod 217 4 ∈ vv_G := by decide +kernel
theorem tl_4 : (4 : Int64).toInt = 4 := rfl
theorem tl_1 : (1 : Int64).toInt = 1 := rfl
theorem wl_Mod_219 : Cond.constantLong R_Mod 219 99 ∈ vv_G := by decide +kernel
theorem tl_99 : (99 : Int64).toInt = 99 := rfl
theorem tc_8 : (8 : Int32).toInt = 8 := rfl
theorem tc_87 : (87 : Int32).toInt = 87 := rfl
theorem tc_3 : (3 : Int32).toInt = 3 := rfl
theorem tc_2 : (2 : Int32).toInt = 2 := rfl
theorem wl_Mod_221 : Cond.constantLong R_Mod 221 8 ∈ vv_G := by decide +kernel
theorem tl_8 : (8 : Int64).toInt = 8 := rfl
theorem cb_Mod_wells : CB y_Mod_wells b_Mod_wells 3 (some .int) 0 := ⟨vv_Gin (List.mem_append_right _ (List.mem_append_right _ (List.mem_append_right _ (List.mem_append_right _ (List.mem_append_right _ (List.mem_append_right _ (List.mem_of_getElem? (i := 27) rfl))))))) rfl, by decide +kernel, vv_Gin (List.mem_append_right _ (List.mem_append_left _ (List.mem_of_getElem? (i := 13) rfl))) rfl⟩
theorem im_Mod_wells : Cond.instanceMethod y_Mod_wells ∈ vv_G := vv_Gin (List.mem_append_right _ (List.mem_append_right _ (List.mem_append_right _ (List.mem_append_right _ (List.mem_append_right _ (List.mem_append_right _ (List.mem_of_getElem? (i := 26) rfl))))))) rfl
theorem se_Mod_wells : Cond.selects y_Mod_wells.cls y_Mod_wells y_Mod_wells ∈ vv_G := vv_Gin (List.mem_append_left _ (List.mem_of_getElem? (i := 39) rfl)) rfl
theorem cv_Mod_223 : CV R_Mod 223 y_Mod_wells b_Mod_wells 3 (some .int) 0 := ⟨cb_Mod_wells, im_Mod_wells, se_Mod_wells, vv_Gin (List.mem_append_right _ (List.mem_append_right _ (List.mem_append_right _ (List.mem_append_right _ (List.mem_append_right _ (List.mem_append_right _ (List.mem_of_getElem? (i := 24) rfl))))))) rfl⟩
theorem cb_Mod_isSeen : CB y_Mod_isSeen b_Mod_isSeen 4 (some .boolean) 3 := ⟨vv_Gin (List.mem_append_right _ (List.mem_append_right _ (List.mem_append_right _ (List.mem_append_right _ (List.mem_append_right _ (List.mem_append_right _ (List.mem_of_getElem? (i := 35) rfl))))))) rfl, by decide +kernel, vv_Gin (List.mem_append_right _ (List.mem_append_left _ (List.mem_of_getElem? (i := 13) rfl))) rfl⟩
theorem im_Mod_isSeen : Cond.instanceMethod y_Mod_isSeen ∈ vv_G := vv_Gin (List.mem_append_right _ (List.mem_append_right _ (List.mem_append_right _ (List.mem_append_right _ (List.mem_append_right _ (List.mem_append_right _ (List.mem_of_getElem? (i := 34) rfl))))))) rfl
theorem se_Mod_isSeen : Cond.selects y_Mod_isSeen.cls y_Mod_isSeen y_Mod_isSeen ∈ vv_G := vv_Gin (List.mem_append_left _ (List.mem_of_getElem? (i := 40) rfl)) rfl
theorem cv_Mod_226 : CV R_Mod 226 y_Mod_isSeen b_Mod_isSeen 4 (some .boolean) 3 := ⟨cb_Mod_isSeen, im_Mod_isSeen, se_Mod_isSeen, vv_Gin (List.mem_append_right _ (List.mem_append_right _ (List.mem_append_right _ (List.mem_append_right _ (List.mem_append_right _ (List.mem_append_right _ (List.mem_of_getElem? (i := 32) rfl))))))) rfl⟩
theorem cb_Mod_doesTwitch : CB y_Mod_doesTwitch b_Mod_doesTwitch 8 (some .boolean) 5 := ⟨vv_Gin (List.mem_append_right _ (List.mem_append_right _ (List.mem_append_right _ (List.mem_append_right _ (List.mem_append_right _ (List.mem_append_right _ (List.mem_of_getElem? (i := 39) rfl))))))) rfl, by decide +kernel, vv_Gin (List.mem_append_right _ (List.mem_append_left _ (List.mem_of_getElem? (i := 13) rfl))) rfl⟩
theorem im_Mod_doesTwitch : Cond.instanceMethod y_Mod_doesTwitch ∈ vv_G := vv_Gin (List.mem_append_right _ (List.mem_append_right _ (List.mem_append_right _ (List.mem_append_right _ (List.mem_append_right _ (List.mem_append_right _ (List.mem_of_getElem? (i := 38) rfl))))))) rfl
theorem se_Mod_doesTwitch : Cond.selects y_Mod_doesTwitch.cls y_Mod_doesTwitch y_Mod_doesTwitch ∈ vv_G := vv_Gin (List.mem_append_left _ (List.mem_of_getElem? (i := 41) rfl)) rfl
theorem cv_Mod_229 : CV R_Mod 229 y_Mod_doesTwitch b_Mod_doesTwitch 8 (some .boolean) 5 := ⟨cb_Mod_doesTwitch, im_Mod_doesTwitch, se_Mod_doesTwitch, vv_Gin (List.mem_append_right _ (List.mem_append_right _ (List.mem_append_right _ (List.mem_append_right _ (List.mem_append_right _ (List.mem_append_right _ (List.mem_of_getElem? (i := 36) rfl))))))) rfl⟩
theorem tc_111 : (111 : Int32).toInt = 111 := rfl
theorem tc_112 : (112 : Int32).toInt = 112 := rfl
theorem tc_4 : (4 : Int32).toInt = 4 := rfl
theorem tc_9 : (9 : Int32).toInt = 9 := rfl
theorem cb_Mod_reachesOf : CB y_Mod_reachesOf b_Mod_reachesOf 1 (some .int) 1 := ⟨vv_Gin (List.mem_append_right _ (List.mem_append_right _ (List.mem_append_right _ (List.mem_append_right _ (List.mem_append_right _ (List.mem_append_right _ (List.mem_of_getElem? (i := 54) rfl))))))) rfl, by decide +kernel, vv_Gin (List.mem_append_right _ (List.mem_append_left _ (List.mem_of_getElem? (i := 13) rfl))) rfl⟩
theorem st_Mod_reachesOf : Cond.static y_Mod_reachesOf ∈ vv_G := vv_Gin (List.mem_append_right _ (List.mem_append_right _ (List.mem_append_right _ (List.mem_append_right _ (List.mem_append_right _ (List.mem_append_right _ (List.mem_of_getElem? (i := 53) rfl))))))) rfl
theorem cs_Mod_233 : CS R_Mod 233 y_Mod_reachesOf b_Mod_reachesOf 1 (some .int) 1 := ⟨cb_Mod_reachesOf, st_Mod_reachesOf, Or.inl (vv_Gin (List.mem_append_right _ (List.mem_append_right _ (List.mem_append_right _ (List.mem_append_right _ (List.mem_append_right _ (List.mem_append_right _ (List.mem_of_getElem? (i := 52) rfl))))))) rfl)⟩
theorem cb_Mod_doesFit : CB y_Mod_doesFit b_Mod_doesFit 6 (some .boolean) 2 := ⟨vv_Gin (List.mem_append_right _ (List.mem_append_right _ (List.mem_append_right _ (List.mem_append_right _ (List.mem_append_right _ (List.mem_append_right _ (List.mem_of_getElem? (i := 58) rfl))))))) rfl, by decide +kernel, vv_Gin (List.mem_append_right _ (List.mem_append_left _ (List.mem_of_getElem? (i := 13) rfl))) rfl⟩
theorem im_Mod_doesFit : Cond.instanceMethod y_Mod_doesFit ∈ vv_G := vv_Gin (List.mem_append_right _ (List.mem_append_right _ (List.mem_append_right _ (List.mem_append_right _ (List.mem_append_right _ (List.mem_append_right _ (List.mem_of_getElem? (i := 57) rfl))))))) rfl
theorem se_Mod_doesFit : Cond.selects y_Mod_doesFit.cls y_Mod_doesFit y_Mod_doesFit ∈ vv_G := vv_Gin (List.mem_append_left _ (List.mem_of_getElem? (i := 42) rfl)) rfl
theorem cv_Mod_236 : CV R_Mod 236 y_Mod_doesFit b_Mod_doesFit 6 (some .boolean) 2 := ⟨cb_Mod_doesFit, im_Mod_doesFit, se_Mod_doesFit, vv_Gin (List.mem_append_right _ (List.mem_append_right _ (List.mem_append_right _ (List.mem_append_right _ (List.mem_append_right _ (List.mem_append_right _ (List.mem_of_getElem? (i := 55) rfl))))))) rfl⟩
theorem cb_Mod_rodsBy : CB y_Mod_rodsBy b_Mod_rodsBy 8 (some .int) 4 := ⟨vv_Gin (List.mem_append_right _ (List.mem_append_right _ (List.mem_append_right _ (List.mem_append_right _ (List.mem_append_right _ (List.mem_append_right _ (List.mem_of_getElem? (i := 70) rfl))))))) rfl, by decide +kernel, vv_Gin (List.mem_append_right _ (List.mem_append_left _ (List.mem_of_getElem? (i := 13) rfl))) rfl⟩
theorem im_Mod_rodsBy : Cond.instanceMethod y_Mod_rodsBy ∈ vv_G := vv_Gin (List.mem_append_right _ (List.mem_append_right _ (List.mem_append_right _ (List.mem_append_right _ (List.mem_append_right _ (List.mem_append_right _ (List.mem_of_getElem? (i := 69) rfl))))))) rfl
theorem se_Mod_rodsBy : Cond.selects y_Mod_rodsBy.cls y_Mod_rodsBy y_Mod_rodsBy ∈ vv_G := vv_Gin (List.mem_append_left _ (List.mem_of_getElem? (i := 43) rfl)) rfl
theorem cv_Mod_239 : CV R_Mod 239 y_Mod_rodsBy b_Mod_rodsBy 8 (some .int) 4 := ⟨cb_Mod_rodsBy, im_Mod_rodsBy, se_Mod_rodsBy, vv_Gin (List.mem_append_right _ (List.mem_append_right _ (List.mem_append_right _ (List.mem_append_right _ (List.mem_append_right _ (List.mem_append_right _ (List.mem_of_getElem? (i := 67) rfl))))))) rfl⟩
theorem tc_10 : (10 : Int32).toInt = 10 := rfl
theorem d_Mod_wells_0 : decode b_Mod_wells 0 = .ok (.iconst 0, 1) := dc_3 (by decide +kernel)
theorem d_Mod_wells_1 : decode b_Mod_wells 1 = .ok (.istore_n 1, 1) := dc_60 (by decide +kernel)
theorem d_Mod_wells_2 : decode b_Mod_wells 2 = .ok (.iconst 0, 1) := dc_3 (by decide +kernel)
theorem d_Mod_wells_3 : decode b_Mod_wells 3 = .ok (.istore_n 2, 1) := dc_61 (by decide +kernel)
theorem d_Mod_wells_4 : decode b_Mod_wells 4 = .ok (.iload_n 2, 1) := dc_28 (by decide +kernel)
theorem d_Mod_wells_5 : decode b_Mod_wells 5 = .ok (.aload_n 0, 1) := dc_42 (by decide +kernel)
theorem d_Mod_wells_6 : decode b_Mod_wells 6 = .ok (.invokevirtual 183, 3) := dc_182 (a := 0) (b := 183) (by decide +kernel) rfl
theorem d_Mod_wells_9 : decode b_Mod_wells 9 = .ok (.if_icmp .ge 20, 3) := dc_162 (a := 0) (b := 20) (by decide +kernel) rfl
theorem d_Mod_wells_12 : decode b_Mod_wells 12 = .ok (.iload_n 1, 1) := dc_27 (by decide +kernel)
theorem d_Mod_wells_13 : decode b_Mod_wells 13 = .ok (.aload_n 0, 1) := dc_42 (by decide +kernel)
theorem d_Mod_wells_14 : decode b_Mod_wells 14 = .ok (.iload_n 2, 1) := dc_28 (by decide +kernel)
theorem d_Mod_wells_15 : decode b_Mod_wells 15 = .ok (.invokevirtual 192, 3) := dc_182 (a := 0) (b := 192) (by decide +kernel) rfl
theorem d_Mod_wells_18 : decode b_Mod_wells 18 = .ok (.invokestatic 196, 3) := dc_184 (a := 0) (b := 196) (by decide +kernel) rfl
theorem d_Mod_wells_21 : decode b_Mod_wells 21 = .ok (.iadd, 1) := dc_96 (by decide +kernel)
theorem d_Mod_wells_22 : decode b_Mod_wells 22 = .ok (.istore_n 1, 1) := dc_60 (by decide +kernel)
theorem d_Mod_wells_23 : decode b_Mod_wells 23 = .ok (.iinc 2 1, 3) := dc_132 (a := 2) (b := 1) (by decide +kernel) rfl
theorem d_Mod_wells_26 : decode b_Mod_wells 26 = .ok (.goto (-22), 3) := dc_167 (a := 255) (b := 234) (by decide +kernel) rfl
theorem d_Mod_wells_29 : decode b_Mod_wells 29 = .ok (.iload_n 1, 1) := dc_27 (by decide +kernel)
theorem d_Mod_wells_30 : decode b_Mod_wells 30 = .ok (.ireturn, 1) := dc_172 (by decide +kernel)
abbrev q_Mod_wells (h : Hp) (w : Int32) (wZ : Int) (g : Int32) (gZ : Int) : Option Value → Hp → Prop := pInt (fun r h' => h = h')
set_option maxRecDepth 100000 in
theorem c_Mod_wells (h : Hp) (hI : Inv h) (w : Int32) (wZ : Int) (wE : w.toInt = wZ) (wK : h.1 116 2 = w) (g : Int32) (gZ : Int) (gE : g.toInt = gZ) (gK : h.1 116 3 = g) : Ct y_Mod_wells b_Mod_wells 3 (some .int) 2 42 [.ref 116] h (q_Mod_wells h w wZ g gZ) := by
  refine ct_ow R_Mod [some (.ref 116), none, none] rfl (by decide) rfl (Nat.le_of_ble_eq_true rfl) ?_
  have f0 : fr [] h h := fr_rf
  have g1 : 2 ≤ wZ ∧ wZ ≤ 4 := inv_at hI wE wK.symm rfl
  have g2 : 2 ≤ gZ ∧ gZ ≤ 4 := inv_at hI gE gK.symm rfl
  refine V_iconst 0 d_Mod_wells_0 (by decide) ?_
  refine V_istore_n 1 [some (.ref 116), some (.int 0), none] d_Mod_wells_1 rfl (by decide) rfl rfl ?_
  refine V_iconst 0 d_Mod_wells_2 (by decide) ?_
  refine V_istore_n 2 [some (.ref 116), some (.int 0), some (.int 0)] d_Mod_wells_3 rfl (by decide) rfl rfl ?_
  have L3 : ∀ (nn : Nat) (v5 : Int32) (v5Z : Int) (v6 : Int32) (v6Z : Int), v5.toInt = v5Z → v6.toInt = v6Z → 0 ≤ v6Z ∧ v6Z ≤ 16 → 16 - v6Z < (nn : Int) → V R_Mod b_Mod_wells 3 (some .int) 2 42 (q_Mod_wells h w wZ g gZ) h 4 [some (.ref 116), some (.int v5), some (.int v6)] [] := by
    intro nn
    induction nn with
    | zero => intro v5 v5Z v6 v6Z v5E v6E q7 hm8; exact absurd hm8 (by omega)
    | succ nn ihL3 =>
      intro v5 v5Z v6 v6Z v5E v6E q7 hm8
      refine V_iload_n 2 d_Mod_wells_4 rfl rfl ?_
      refine V_aload_n 0 d_Mod_wells_5 rfl rfl ?_
      refine N_callVI [] [.int v6] cv_Mod_183 sk_116 rfl d_Mod_wells_6 rfl (Nat.le_of_ble_eq_true rfl) (by decide) (by decide) (c_Mod_cellMany h hI w wZ wE wK g gZ gE gK) (fun z9 h10 z9Z z9E p11 => ?_)
      obtain ⟨eh10, p11⟩ := p11
      subst eh10
      refine V_icmp_ge 29 v6E z9E d_Mod_wells_9 (by decide) (fun c12 => ?_) (fun c12 => ?_)
      ·
        refine V_iload_n 1 d_Mod_wells_29 rfl rfl ?_
        exact V_iret rfl d_Mod_wells_30 ⟨v5, rfl, rfl⟩
      ·
        refine V_iload_n 1 d_Mod_wells_12 rfl rfl ?_
        refine V_aload_n 0 d_Mod_wells_13 rfl rfl ?_
        refine V_iload_n 2 d_Mod_wells_14 rfl rfl ?_
        refine N_callVI [.int v6] [.int v5] cv_Mod_192 sk_116 rfl d_Mod_wells_15 rfl (Nat.le_of_ble_eq_true rfl) (by decide) (by decide) (c_Mod_isWell h hI v6 v6Z v6E (by omega)) (fun z13 h14 z13Z z13E p15 => ?_)
        obtain ⟨eh14, p15⟩ := p15
        subst eh14
        refine N_callSI [.int z13] [.int v5] cs_Mod_196 d_Mod_wells_18 rfl (Nat.le_of_ble_eq_true rfl) (by decide) (by decide) (c_Mod_flag h z13 z13Z z13E) (fun z16 h17 z16Z z16E p18 => ?_)
        obtain ⟨eh17, p18⟩ := p18
        subst eh17
        refine N_iaddw d_Mod_wells_21 (fun z19 z19Z z19E z19e => ?_)
        refine V_istore_n 1 [some (.ref 116), some (.int z19), some (.int v6)] d_Mod_wells_22 rfl (by decide) rfl rfl ?_
        obtain ⟨z20, z20E, z20e⟩ : ∃ y : Int32, y.toInt = v6Z + 1 ∧ y = v6 + Int32.ofInt 1 := ⟨_, ti_add v6E (by decide) (by omega), rfl⟩
        refine V_iinc 2 [some (.ref 116), some (.int z19), some (.int z20)] d_Mod_wells_23 rfl z20e.symm (by decide) rfl rfl ?_
        refine V_goto 4 d_Mod_wells_26 (by decide) ?_
        exact ihL3 z19 z19Z z20 ((v6Z + 1)) z19E z20E (by omega) (by omega)
  exact L3 (Int.toNat ((16 - 0 : Int) + 1)) 0 0 0 0 tc_0 tc_0 (by omega) (by omega)
theorem d_Mod_cell_0 : decode b_Mod_cell 0 = .ok (.aload_n 0, 1) := dc_42 (by decide +kernel)
theorem d_Mod_cell_1 : decode b_Mod_cell 1 = .ok (.iload_n 1, 1) := dc_27 (by decide +kernel)
theorem d_Mod_cell_2 : decode b_Mod_cell 2 = .ok (.invokevirtual 200, 3) := dc_182 (a := 0) (b := 200) (by decide +kernel) rfl
theorem d_Mod_cell_5 : decode b_Mod_cell 5 = .ok (.ifCond .eq 15, 3) := dc_153 (a := 0) (b := 15) (by decide +kernel) rfl
theorem d_Mod_cell_8 : decode b_Mod_cell 8 = .ok (.iload_n 2, 1) := dc_28 (by decide +kernel)
theorem d_Mod_cell_9 : decode b_Mod_cell 9 = .ok (.i2l, 1) := dc_133 (by decide +kernel)
theorem d_Mod_cell_10 : decode b_Mod_cell 10 = .ok (.lconst 0, 1) := dc_9 (by decide +kernel)
theorem d_Mod_cell_11 : decode b_Mod_cell 11 = .ok (.ldc2_w 203, 3) := dc_20 (a := 0) (b := 203) (by decide +kernel) rfl
theorem d_Mod_cell_14 : decode b_Mod_cell 14 = .ok (.invokestatic 95, 3) := dc_184 (a := 0) (b := 95) (by decide +kernel) rfl
theorem d_Mod_cell_17 : decode b_Mod_cell 17 = .ok (.ifCond .ne 5, 3) := dc_154 (a := 0) (b := 5) (by decide +kernel) rfl
theorem d_Mod_cell_20 : decode b_Mod_cell 20 = .ok (.iconst (-1), 1) := dc_2 (by decide +kernel)
theorem d_Mod_cell_21 : decode b_Mod_cell 21 = .ok (.ireturn, 1) := dc_172 (by decide +kernel)
theorem d_Mod_cell_22 : decode b_Mod_cell 22 = .ok (.iload_n 2, 1) := dc_28 (by decide +kernel)
theorem d_Mod_cell_23 : decode b_Mod_cell 23 = .ok (.iconst 5, 1) := dc_8 (by decide +kernel)
theorem d_Mod_cell_24 : decode b_Mod_cell 24 = .ok (.if_icmp .ne 14, 3) := dc_160 (a := 0) (b := 14) (by decide +kernel) rfl
theorem d_Mod_cell_27 : decode b_Mod_cell 27 = .ok (.aload_n 0, 1) := dc_42 (by decide +kernel)
theorem d_Mod_cell_28 : decode b_Mod_cell 28 = .ok (.iload_n 1, 1) := dc_27 (by decide +kernel)
theorem d_Mod_cell_29 : decode b_Mod_cell 29 = .ok (.invokevirtual 192, 3) := dc_182 (a := 0) (b := 192) (by decide +kernel) rfl
theorem d_Mod_cell_32 : decode b_Mod_cell 32 = .ok (.invokestatic 196, 3) := dc_184 (a := 0) (b := 196) (by decide +kernel) rfl
theorem d_Mod_cell_35 : decode b_Mod_cell 35 = .ok (.goto 14, 3) := dc_167 (a := 0) (b := 14) (by decide +kernel) rfl
theorem d_Mod_cell_38 : decode b_Mod_cell 38 = .ok (.aload_n 0, 1) := dc_42 (by decide +kernel)
theorem d_Mod_cell_39 : decode b_Mod_cell 39 = .ok (.getfield 7, 3) := dc_180 (a := 0) (b := 7) (by decide +kernel) rfl
theorem d_Mod_cell_42 : decode b_Mod_cell 42 = .ok (.bipush 16, 2) := dc_16 (a := 16) (by decide +kernel) rfl
theorem d_Mod_cell_44 : decode b_Mod_cell 44 = .ok (.iload_n 2, 1) := dc_28 (by decide +kernel)
theorem d_Mod_cell_45 : decode b_Mod_cell 45 = .ok (.imul, 1) := dc_104 (by decide +kernel)
theorem d_Mod_cell_46 : decode b_Mod_cell 46 = .ok (.iload_n 1, 1) := dc_27 (by decide +kernel)
theorem d_Mod_cell_47 : decode b_Mod_cell 47 = .ok (.iadd, 1) := dc_96 (by decide +kernel)
theorem d_Mod_cell_48 : decode b_Mod_cell 48 = .ok (.iaload, 1) := dc_46 (by decide +kernel)
theorem d_Mod_cell_49 : decode b_Mod_cell 49 = .ok (.ireturn, 1) := dc_172 (by decide +kernel)
abbrev q_Mod_cell (h : Hp) (c : Int32) (cZ : Int) (a : Int32) (aZ : Int) (w : Int32) (wZ : Int) (g : Int32) (gZ : Int) : Option Value → Hp → Prop := pInt (fun r h' => h = h')
set_option maxRecDepth 100000 in
theorem c_Mod_cell (h : Hp) (hI : Inv h) (c : Int32) (cZ : Int) (cE : c.toInt = cZ) (a : Int32) (aZ : Int) (aE : a.toInt = aZ) (w : Int32) (wZ : Int) (wE : w.toInt = wZ) (wK : h.1 116 2 = w) (g : Int32) (gZ : Int) (gE : g.toInt = gZ) (gK : h.1 116 3 = g) : Ct y_Mod_cell b_Mod_cell 3 (some .int) 2 46 [.ref 116, .int c, .int a] h (q_Mod_cell h c cZ a aZ w wZ g gZ) := by
  refine ct_ow R_Mod [some (.ref 116), some (.int c), some (.int a)] rfl (by decide) rfl (Nat.le_of_ble_eq_true rfl) ?_
  have f0 : fr [] h h := fr_rf
  have g1 : 2 ≤ wZ ∧ wZ ≤ 4 := inv_at hI wE wK.symm rfl
  have g2 : 2 ≤ gZ ∧ gZ ≤ 4 := inv_at hI gE gK.symm rfl
  refine V_aload_n 0 d_Mod_cell_0 rfl rfl ?_
  refine V_iload_n 1 d_Mod_cell_1 rfl rfl ?_
  refine N_callVI [.int c] [] cv_Mod_200 sk_116 rfl d_Mod_cell_2 rfl (Nat.le_of_ble_eq_true rfl) (by decide) (by decide) (c_Mod_isCell h hI c cZ cE w wZ wE wK g gZ gE gK) (fun z3 h4 z3Z z3E p5 => ?_)
  obtain ⟨eh4, p5⟩ := p5
  subst eh4
  refine V_if_eq 20 z3E d_Mod_cell_5 (by decide) (fun c6 => ?_) (fun c6 => ?_)
  ·
    refine V_iconst (-1) d_Mod_cell_20 (by decide) ?_
    exact V_iret rfl d_Mod_cell_21 ⟨(-1), rfl, rfl⟩
  ·
    refine V_iload_n 2 d_Mod_cell_8 rfl rfl ?_
    refine V_i2l d_Mod_cell_9 (fun z7 z7e z7E => ?_)
    have z7F : z7.toInt = aZ := z7E.trans aE
    refine V_lconst 0 d_Mod_cell_10 (by decide) ?_
    refine V_ldc2 d_Mod_cell_11 wl_Mod_203 ?_
    refine N_callSI [.long z7, .long 0, .long 5] [] cs_Mod_95 d_Mod_cell_14 rfl (Nat.le_of_ble_eq_true rfl) (by decide) (by decide) (c_Mod_in h z7 aZ z7F 0 0 tl_0 5 5 tl_5) (fun z8 h9 z8Z z8E p10 => ?_)
    obtain ⟨eh9, p10⟩ := p10
    subst eh9
    refine V_if_ne 22 z8E d_Mod_cell_17 (by decide) (fun c11 => ?_) (fun c11 => ?_)
    ·
      refine V_iload_n 2 d_Mod_cell_22 rfl rfl ?_
      refine V_iconst 5 d_Mod_cell_23 (by decide) ?_
      refine V_icmp_ne 38 aE tc_5 d_Mod_cell_24 (by decide) (fun c12 => ?_) (fun c12 => ?_)
      ·
        refine V_aload_n 0 d_Mod_cell_38 rfl rfl ?_
        refine V_getR fa_Mod_7 sk_116 rfl d_Mod_cell_39 ?_
        refine V_bipush 16 d_Mod_cell_42 (by decide) ?_
        refine V_iload_n 2 d_Mod_cell_44 rfl rfl ?_
        refine V_imul tc_16 aE (by omega) d_Mod_cell_45 (fun z13 z13e z13E => ?_)
        refine V_iload_n 1 d_Mod_cell_46 rfl rfl ?_
        refine V_iadd z13E cE (by omega) d_Mod_cell_47 (fun z14 z14e z14E => ?_)
        refine N_iald sk_117 z14E (by omega) d_Mod_cell_48 (fun z15 z15Z z15E z15e => ?_)
        exact V_iret rfl d_Mod_cell_49 ⟨z15, rfl, rfl⟩
      ·
        refine V_aload_n 0 d_Mod_cell_27 rfl rfl ?_
        refine V_iload_n 1 d_Mod_cell_28 rfl rfl ?_
        refine N_callVI [.int c] [] cv_Mod_192 sk_116 rfl d_Mod_cell_29 rfl (Nat.le_of_ble_eq_true rfl) (by decide) (by decide) (c_Mod_isWell h hI c cZ cE (by omega)) (fun z16 h17 z16Z z16E p18 => ?_)
        obtain ⟨eh17, p18⟩ := p18
        subst eh17
        refine N_callSI [.int z16] [] cs_Mod_196 d_Mod_cell_32 rfl (Nat.le_of_ble_eq_true rfl) (by decide) (by decide) (c_Mod_flag h z16 z16Z z16E) (fun z19 h20 z19Z z19E p21 => ?_)
        obtain ⟨eh20, p21⟩ := p21
        subst eh20
        refine V_goto 49 d_Mod_cell_35 (by decide) ?_
        exact V_iret rfl d_Mod_cell_49 ⟨z19, rfl, rfl⟩
    ·
      refine V_iconst (-1) d_Mod_cell_20 (by decide) ?_
      exact V_iret rfl d_Mod_cell_21 ⟨(-1), rfl, rfl⟩
theorem d_Mod_becomes_0 : decode b_Mod_becomes 0 = .ok (.aload_n 0, 1) := dc_42 (by decide +kernel)
theorem d_Mod_becomes_1 : decode b_Mod_becomes 1 = .ok (.getfield 7, 3) := dc_180 (a := 0) (b := 7) (by decide +kernel) rfl
theorem d_Mod_becomes_4 : decode b_Mod_becomes 4 = .ok (.iload_n 1, 1) := dc_27 (by decide +kernel)
theorem d_Mod_becomes_5 : decode b_Mod_becomes 5 = .ok (.iaload, 1) := dc_46 (by decide +kernel)
theorem d_Mod_becomes_6 : decode b_Mod_becomes 6 = .ok (.istore_n 3, 1) := dc_62 (by decide +kernel)
theorem d_Mod_becomes_7 : decode b_Mod_becomes 7 = .ok (.aload_n 0, 1) := dc_42 (by decide +kernel)
theorem d_Mod_becomes_8 : decode b_Mod_becomes 8 = .ok (.getfield 7, 3) := dc_180 (a := 0) (b := 7) (by decide +kernel) rfl
theorem d_Mod_becomes_11 : decode b_Mod_becomes 11 = .ok (.iload_n 1, 1) := dc_27 (by decide +kernel)
theorem d_Mod_becomes_12 : decode b_Mod_becomes 12 = .ok (.iload_n 2, 1) := dc_28 (by decide +kernel)
theorem d_Mod_becomes_13 : decode b_Mod_becomes 13 = .ok (.iastore, 1) := dc_79 (by decide +kernel)
theorem d_Mod_becomes_14 : decode b_Mod_becomes 14 = .ok (.iload_n 3, 1) := dc_29 (by decide +kernel)
theorem d_Mod_becomes_15 : decode b_Mod_becomes 15 = .ok (.ireturn, 1) := dc_172 (by decide +kernel)
theorem d_Mod_wet_0 : decode b_Mod_wet 0 = .ok (.aload_n 0, 1) := dc_42 (by decide +kernel)
theorem d_Mod_wet_1 : decode b_Mod_wet 1 = .ok (.iload_n 1, 1) := dc_27 (by decide +kernel)
theorem d_Mod_wet_2 : decode b_Mod_wet 2 = .ok (.invokevirtual 200, 3) := dc_182 (a := 0) (b := 200) (by decide +kernel) rfl
theorem d_Mod_wet_5 : decode b_Mod_wet 5 = .ok (.ifCond .eq 15, 3) := dc_153 (a := 0) (b := 15) (by decide +kernel) rfl
theorem d_Mod_wet_8 : decode b_Mod_wet 8 = .ok (.iload_n 2, 1) := dc_28 (by decide +kernel)
theorem d_Mod_wet_9 : decode b_Mod_wet 9 = .ok (.i2l, 1) := dc_133 (by decide +kernel)
theorem d_Mod_wet_10 : decode b_Mod_wet 10 = .ok (.lconst 0, 1) := dc_9 (by decide +kernel)
theorem d_Mod_wet_11 : decode b_Mod_wet 11 = .ok (.ldc2_w 208, 3) := dc_20 (a := 0) (b := 208) (by decide +kernel) rfl
theorem d_Mod_wet_14 : decode b_Mod_wet 14 = .ok (.invokestatic 95, 3) := dc_184 (a := 0) (b := 95) (by decide +kernel) rfl
theorem d_Mod_wet_17 : decode b_Mod_wet 17 = .ok (.ifCond .ne 5, 3) := dc_154 (a := 0) (b := 5) (by decide +kernel) rfl
theorem d_Mod_wet_20 : decode b_Mod_wet 20 = .ok (.iconst (-1), 1) := dc_2 (by decide +kernel)
theorem d_Mod_wet_21 : decode b_Mod_wet 21 = .ok (.ireturn, 1) := dc_172 (by decide +kernel)
theorem d_Mod_wet_22 : decode b_Mod_wet 22 = .ok (.aload_n 0, 1) := dc_42 (by decide +kernel)
theorem d_Mod_wet_23 : decode b_Mod_wet 23 = .ok (.getfield 7, 3) := dc_180 (a := 0) (b := 7) (by decide +kernel) rfl
theorem d_Mod_wet_26 : decode b_Mod_wet 26 = .ok (.bipush 64, 2) := dc_16 (a := 64) (by decide +kernel) rfl
theorem d_Mod_wet_28 : decode b_Mod_wet 28 = .ok (.iload_n 1, 1) := dc_27 (by decide +kernel)
theorem d_Mod_wet_29 : decode b_Mod_wet 29 = .ok (.iadd, 1) := dc_96 (by decide +kernel)
theorem d_Mod_wet_30 : decode b_Mod_wet 30 = .ok (.iaload, 1) := dc_46 (by decide +kernel)
theorem d_Mod_wet_31 : decode b_Mod_wet 31 = .ok (.ifCond .le 8, 3) := dc_158 (a := 0) (b := 8) (by decide +kernel) rfl
theorem d_Mod_wet_34 : decode b_Mod_wet 34 = .ok (.bipush (-2), 2) := dc_16 (a := 254) (by decide +kernel) rfl
theorem d_Mod_wet_36 : decode b_Mod_wet 36 = .ok (.goto 11, 3) := dc_167 (a := 0) (b := 11) (by decide +kernel) rfl
theorem d_Mod_wet_39 : decode b_Mod_wet 39 = .ok (.aload_n 0, 1) := dc_42 (by decide +kernel)
theorem d_Mod_wet_40 : decode b_Mod_wet 40 = .ok (.iconst 0, 1) := dc_3 (by decide +kernel)
theorem d_Mod_wet_41 : decode b_Mod_wet 41 = .ok (.iload_n 1, 1) := dc_27 (by decide +kernel)
theorem d_Mod_wet_42 : decode b_Mod_wet 42 = .ok (.iadd, 1) := dc_96 (by decide +kernel)
theorem d_Mod_wet_43 : decode b_Mod_wet 43 = .ok (.iload_n 2, 1) := dc_28 (by decide +kernel)
theorem d_Mod_wet_44 : decode b_Mod_wet 44 = .ok (.invokevirtual 210, 3) := dc_182 (a := 0) (b := 210) (by decide +kernel) rfl
theorem d_Mod_wet_47 : decode b_Mod_wet 47 = .ok (.ireturn, 1) := dc_172 (by decide +kernel)
theorem d_Mod_iron_0 : decode b_Mod_iron 0 = .ok (.aload_n 0, 1) := dc_42 (by decide +kernel)
theorem d_Mod_iron_1 : decode b_Mod_iron 1 = .ok (.iload_n 1, 1) := dc_27 (by decide +kernel)
theorem d_Mod_iron_2 : decode b_Mod_iron 2 = .ok (.invokevirtual 200, 3) := dc_182 (a := 0) (b := 200) (by decide +kernel) rfl
theorem d_Mod_iron_5 : decode b_Mod_iron 5 = .ok (.ifCond .eq 18, 3) := dc_153 (a := 0) (b := 18) (by decide +kernel) rfl
theorem d_Mod_iron_8 : decode b_Mod_iron 8 = .ok (.aload_n 0, 1) := dc_42 (by decide +kernel)
theorem d_Mod_iron_9 : decode b_Mod_iron 9 = .ok (.bipush 16, 2) := dc_16 (a := 16) (by decide +kernel) rfl
theorem d_Mod_iron_11 : decode b_Mod_iron 11 = .ok (.iload_n 1, 1) := dc_27 (by decide +kernel)
theorem d_Mod_iron_12 : decode b_Mod_iron 12 = .ok (.iadd, 1) := dc_96 (by decide +kernel)
theorem d_Mod_iron_13 : decode b_Mod_iron 13 = .ok (.iload_n 2, 1) := dc_28 (by decide +kernel)
theorem d_Mod_iron_14 : decode b_Mod_iron 14 = .ok (.invokestatic 196, 3) := dc_184 (a := 0) (b := 196) (by decide +kernel) rfl
theorem d_Mod_iron_17 : decode b_Mod_iron 17 = .ok (.invokevirtual 210, 3) := dc_182 (a := 0) (b := 210) (by decide +kernel) rfl
theorem d_Mod_iron_20 : decode b_Mod_iron 20 = .ok (.goto 4, 3) := dc_167 (a := 0) (b := 4) (by decide +kernel) rfl
theorem d_Mod_iron_23 : decode b_Mod_iron 23 = .ok (.iconst (-1), 1) := dc_2 (by decide +kernel)
theorem d_Mod_iron_24 : decode b_Mod_iron 24 = .ok (.ireturn, 1) := dc_172 (by decide +kernel)
theorem d_Mod_odd_0 : decode b_Mod_odd 0 = .ok (.aload_n 0, 1) := dc_42 (by decide +kernel)
theorem d_Mod_odd_1 : decode b_Mod_odd 1 = .ok (.iload_n 1, 1) := dc_27 (by decide +kernel)
theorem d_Mod_odd_2 : decode b_Mod_odd 2 = .ok (.invokevirtual 200, 3) := dc_182 (a := 0) (b := 200) (by decide +kernel) rfl
theorem d_Mod_odd_5 : decode b_Mod_odd 5 = .ok (.ifCond .eq 27, 3) := dc_153 (a := 0) (b := 27) (by decide +kernel) rfl
theorem d_Mod_odd_8 : decode b_Mod_odd 8 = .ok (.iload_n 2, 1) := dc_28 (by decide +kernel)
theorem d_Mod_odd_9 : decode b_Mod_odd 9 = .ok (.i2l, 1) := dc_133 (by decide +kernel)
theorem d_Mod_odd_10 : decode b_Mod_odd 10 = .ok (.lconst 0, 1) := dc_9 (by decide +kernel)
theorem d_Mod_odd_11 : decode b_Mod_odd 11 = .ok (.ldc2_w 213, 3) := dc_20 (a := 0) (b := 213) (by decide +kernel) rfl
theorem d_Mod_odd_14 : decode b_Mod_odd 14 = .ok (.invokestatic 95, 3) := dc_184 (a := 0) (b := 95) (by decide +kernel) rfl
theorem d_Mod_odd_17 : decode b_Mod_odd 17 = .ok (.ifCond .eq 15, 3) := dc_153 (a := 0) (b := 15) (by decide +kernel) rfl
theorem d_Mod_odd_20 : decode b_Mod_odd 20 = .ok (.aload_n 0, 1) := dc_42 (by decide +kernel)
theorem d_Mod_odd_21 : decode b_Mod_odd 21 = .ok (.bipush 32, 2) := dc_16 (a := 32) (by decide +kernel) rfl
theorem d_Mod_odd_23 : decode b_Mod_odd 23 = .ok (.iload_n 1, 1) := dc_27 (by decide +kernel)
theorem d_Mod_odd_24 : decode b_Mod_odd 24 = .ok (.iadd, 1) := dc_96 (by decide +kernel)
theorem d_Mod_odd_25 : decode b_Mod_odd 25 = .ok (.iload_n 2, 1) := dc_28 (by decide +kernel)
theorem d_Mod_odd_26 : decode b_Mod_odd 26 = .ok (.invokevirtual 210, 3) := dc_182 (a := 0) (b := 210) (by decide +kernel) rfl
theorem d_Mod_odd_29 : decode b_Mod_odd 29 = .ok (.goto 4, 3) := dc_167 (a := 0) (b := 4) (by decide +kernel) rfl
theorem d_Mod_odd_32 : decode b_Mod_odd 32 = .ok (.iconst (-1), 1) := dc_2 (by decide +kernel)
theorem d_Mod_odd_33 : decode b_Mod_odd 33 = .ok (.ireturn, 1) := dc_172 (by decide +kernel)
theorem d_Mod_claim_0 : decode b_Mod_claim 0 = .ok (.aload_n 0, 1) := dc_42 (by decide +kernel)
theorem d_Mod_claim_1 : decode b_Mod_claim 1 = .ok (.iload_n 1, 1) := dc_27 (by decide +kernel)
theorem d_Mod_claim_2 : decode b_Mod_claim 2 = .ok (.invokevirtual 200, 3) := dc_182 (a := 0) (b := 200) (by decide +kernel) rfl
theorem d_Mod_claim_5 : decode b_Mod_claim 5 = .ok (.ifCond .eq 28, 3) := dc_153 (a := 0) (b := 28) (by decide +kernel) rfl
theorem d_Mod_claim_8 : decode b_Mod_claim 8 = .ok (.iload_n 2, 1) := dc_28 (by decide +kernel)
theorem d_Mod_claim_9 : decode b_Mod_claim 9 = .ok (.bipush (-4), 2) := dc_16 (a := 252) (by decide +kernel) rfl
theorem d_Mod_claim_11 : decode b_Mod_claim 11 = .ok (.if_icmp .eq 10, 3) := dc_159 (a := 0) (b := 10) (by decide +kernel) rfl
theorem d_Mod_claim_14 : decode b_Mod_claim 14 = .ok (.iload_n 2, 1) := dc_28 (by decide +kernel)
theorem d_Mod_claim_15 : decode b_Mod_claim 15 = .ok (.invokestatic 205, 3) := dc_184 (a := 0) (b := 205) (by decide +kernel) rfl
theorem d_Mod_claim_18 : decode b_Mod_claim 18 = .ok (.ifCond .eq 15, 3) := dc_153 (a := 0) (b := 15) (by decide +kernel) rfl
theorem d_Mod_claim_21 : decode b_Mod_claim 21 = .ok (.aload_n 0, 1) := dc_42 (by decide +kernel)
theorem d_Mod_claim_22 : decode b_Mod_claim 22 = .ok (.bipush 48, 2) := dc_16 (a := 48) (by decide +kernel) rfl
theorem d_Mod_claim_24 : decode b_Mod_claim 24 = .ok (.iload_n 1, 1) := dc_27 (by decide +kernel)
theorem d_Mod_claim_25 : decode b_Mod_claim 25 = .ok (.iadd, 1) := dc_96 (by decide +kernel)
theorem d_Mod_claim_26 : decode b_Mod_claim 26 = .ok (.iload_n 2, 1) := dc_28 (by decide +kernel)
theorem d_Mod_claim_27 : decode b_Mod_claim 27 = .ok (.invokevirtual 210, 3) := dc_182 (a := 0) (b := 210) (by decide +kernel) rfl
theorem d_Mod_claim_30 : decode b_Mod_claim 30 = .ok (.goto 4, 3) := dc_167 (a := 0) (b := 4) (by decide +kernel) rfl
theorem d_Mod_claim_33 : decode b_Mod_claim 33 = .ok (.iconst (-1), 1) := dc_2 (by decide +kernel)
theorem d_Mod_claim_34 : decode b_Mod_claim 34 = .ok (.ireturn, 1) := dc_172 (by decide +kernel)
theorem d_Mod_fund_0 : decode b_Mod_fund 0 = .ok (.iload_n 1, 1) := dc_27 (by decide +kernel)
theorem d_Mod_fund_1 : decode b_Mod_fund 1 = .ok (.invokestatic 205, 3) := dc_184 (a := 0) (b := 205) (by decide +kernel) rfl
theorem d_Mod_fund_4 : decode b_Mod_fund 4 = .ok (.ifCond .eq 27, 3) := dc_153 (a := 0) (b := 27) (by decide +kernel) rfl
theorem d_Mod_fund_7 : decode b_Mod_fund 7 = .ok (.iload_n 2, 1) := dc_28 (by decide +kernel)
theorem d_Mod_fund_8 : decode b_Mod_fund 8 = .ok (.i2l, 1) := dc_133 (by decide +kernel)
theorem d_Mod_fund_9 : decode b_Mod_fund 9 = .ok (.lconst 0, 1) := dc_9 (by decide +kernel)
theorem d_Mod_fund_10 : decode b_Mod_fund 10 = .ok (.ldc2_w 215, 3) := dc_20 (a := 0) (b := 215) (by decide +kernel) rfl
theorem d_Mod_fund_13 : decode b_Mod_fund 13 = .ok (.invokestatic 95, 3) := dc_184 (a := 0) (b := 95) (by decide +kernel) rfl
theorem d_Mod_fund_16 : decode b_Mod_fund 16 = .ok (.ifCond .eq 15, 3) := dc_153 (a := 0) (b := 15) (by decide +kernel) rfl
theorem d_Mod_fund_19 : decode b_Mod_fund 19 = .ok (.aload_n 0, 1) := dc_42 (by decide +kernel)
theorem d_Mod_fund_20 : decode b_Mod_fund 20 = .ok (.bipush 80, 2) := dc_16 (a := 80) (by decide +kernel) rfl
theorem d_Mod_fund_22 : decode b_Mod_fund 22 = .ok (.iload_n 1, 1) := dc_27 (by decide +kernel)
theorem d_Mod_fund_23 : decode b_Mod_fund 23 = .ok (.iadd, 1) := dc_96 (by decide +kernel)
theorem d_Mod_fund_24 : decode b_Mod_fund 24 = .ok (.iload_n 2, 1) := dc_28 (by decide +kernel)
theorem d_Mod_fund_25 : decode b_Mod_fund 25 = .ok (.invokevirtual 210, 3) := dc_182 (a := 0) (b := 210) (by decide +kernel) rfl
theorem d_Mod_fund_28 : decode b_Mod_fund 28 = .ok (.goto 4, 3) := dc_167 (a := 0) (b := 4) (by decide +kernel) rfl
theorem d_Mod_fund_31 : decode b_Mod_fund 31 = .ok (.iconst (-1), 1) := dc_2 (by decide +kernel)
theorem d_Mod_fund_32 : decode b_Mod_fund 32 = .ok (.ireturn, 1) := dc_172 (by decide +kernel)
theorem d_Mod_cut_0 : decode b_Mod_cut 0 = .ok (.iload_n 1, 1) := dc_27 (by decide +kernel)
theorem d_Mod_cut_1 : decode b_Mod_cut 1 = .ok (.i2l, 1) := dc_133 (by decide +kernel)
theorem d_Mod_cut_2 : decode b_Mod_cut 2 = .ok (.lconst 0, 1) := dc_9 (by decide +kernel)
theorem d_Mod_cut_3 : decode b_Mod_cut 3 = .ok (.ldc2_w 217, 3) := dc_20 (a := 0) (b := 217) (by decide +kernel) rfl
theorem d_Mod_cut_6 : decode b_Mod_cut 6 = .ok (.invokestatic 95, 3) := dc_184 (a := 0) (b := 95) (by decide +kernel) rfl
theorem d_Mod_cut_9 : decode b_Mod_cut 9 = .ok (.ifCond .eq 15, 3) := dc_153 (a := 0) (b := 15) (by decide +kernel) rfl
theorem d_Mod_cut_12 : decode b_Mod_cut 12 = .ok (.iload_n 2, 1) := dc_28 (by decide +kernel)
theorem d_Mod_cut_13 : decode b_Mod_cut 13 = .ok (.i2l, 1) := dc_133 (by decide +kernel)
theorem d_Mod_cut_14 : decode b_Mod_cut 14 = .ok (.lconst 1, 1) := dc_10 (by decide +kernel)
theorem d_Mod_cut_15 : decode b_Mod_cut 15 = .ok (.ldc2_w 208, 3) := dc_20 (a := 0) (b := 208) (by decide +kernel) rfl
theorem d_Mod_cut_18 : decode b_Mod_cut 18 = .ok (.invokestatic 95, 3) := dc_184 (a := 0) (b := 95) (by decide +kernel) rfl
theorem d_Mod_cut_21 : decode b_Mod_cut 21 = .ok (.ifCond .ne 5, 3) := dc_154 (a := 0) (b := 5) (by decide +kernel) rfl
theorem d_Mod_cut_24 : decode b_Mod_cut 24 = .ok (.iconst (-1), 1) := dc_2 (by decide +kernel)
theorem d_Mod_cut_25 : decode b_Mod_cut 25 = .ok (.ireturn, 1) := dc_172 (by decide +kernel)
theorem d_Mod_cut_26 : decode b_Mod_cut 26 = .ok (.aload_n 0, 1) := dc_42 (by decide +kernel)
theorem d_Mod_cut_27 : decode b_Mod_cut 27 = .ok (.getfield 7, 3) := dc_180 (a := 0) (b := 7) (by decide +kernel) rfl
theorem d_Mod_cut_30 : decode b_Mod_cut 30 = .ok (.bipush 85, 2) := dc_16 (a := 85) (by decide +kernel) rfl
theorem d_Mod_cut_32 : decode b_Mod_cut 32 = .ok (.iload_n 2, 1) := dc_28 (by decide +kernel)
theorem d_Mod_cut_33 : decode b_Mod_cut 33 = .ok (.iastore, 1) := dc_79 (by decide +kernel)
theorem d_Mod_cut_34 : decode b_Mod_cut 34 = .ok (.aload_n 0, 1) := dc_42 (by decide +kernel)
theorem d_Mod_cut_35 : decode b_Mod_cut 35 = .ok (.bipush 84, 2) := dc_16 (a := 84) (by decide +kernel) rfl
theorem d_Mod_cut_37 : decode b_Mod_cut 37 = .ok (.iload_n 1, 1) := dc_27 (by decide +kernel)
theorem d_Mod_cut_38 : decode b_Mod_cut 38 = .ok (.invokevirtual 210, 3) := dc_182 (a := 0) (b := 210) (by decide +kernel) rfl
theorem d_Mod_cut_41 : decode b_Mod_cut 41 = .ok (.ireturn, 1) := dc_172 (by decide +kernel)
theorem d_Mod_owe_0 : decode b_Mod_owe 0 = .ok (.iload_n 1, 1) := dc_27 (by decide +kernel)
theorem d_Mod_owe_1 : decode b_Mod_owe 1 = .ok (.invokestatic 205, 3) := dc_184 (a := 0) (b := 205) (by decide +kernel) rfl
theorem d_Mod_owe_4 : decode b_Mod_owe 4 = .ok (.ifCond .eq 27, 3) := dc_153 (a := 0) (b := 27) (by decide +kernel) rfl
theorem d_Mod_owe_7 : decode b_Mod_owe 7 = .ok (.iload_n 2, 1) := dc_28 (by decide +kernel)
theorem d_Mod_owe_8 : decode b_Mod_owe 8 = .ok (.invokestatic 205, 3) := dc_184 (a := 0) (b := 205) (by decide +kernel) rfl
theorem d_Mod_owe_11 : decode b_Mod_owe 11 = .ok (.ifCond .eq 20, 3) := dc_153 (a := 0) (b := 20) (by decide +kernel) rfl
theorem d_Mod_owe_14 : decode b_Mod_owe 14 = .ok (.iload_n 1, 1) := dc_27 (by decide +kernel)
theorem d_Mod_owe_15 : decode b_Mod_owe 15 = .ok (.iload_n 2, 1) := dc_28 (by decide +kernel)
theorem d_Mod_owe_16 : decode b_Mod_owe 16 = .ok (.if_icmp .eq 15, 3) := dc_159 (a := 0) (b := 15) (by decide +kernel) rfl
theorem d_Mod_owe_19 : decode b_Mod_owe 19 = .ok (.iload_n 3, 1) := dc_29 (by decide +kernel)
theorem d_Mod_owe_20 : decode b_Mod_owe 20 = .ok (.i2l, 1) := dc_133 (by decide +kernel)
theorem d_Mod_owe_21 : decode b_Mod_owe 21 = .ok (.lconst 1, 1) := dc_10 (by decide +kernel)
theorem d_Mod_owe_22 : decode b_Mod_owe 22 = .ok (.ldc2_w 219, 3) := dc_20 (a := 0) (b := 219) (by decide +kernel) rfl
theorem d_Mod_owe_25 : decode b_Mod_owe 25 = .ok (.invokestatic 95, 3) := dc_184 (a := 0) (b := 95) (by decide +kernel) rfl
theorem d_Mod_owe_28 : decode b_Mod_owe 28 = .ok (.ifCond .ne 5, 3) := dc_154 (a := 0) (b := 5) (by decide +kernel) rfl
theorem d_Mod_owe_31 : decode b_Mod_owe 31 = .ok (.iconst (-1), 1) := dc_2 (by decide +kernel)
theorem d_Mod_owe_32 : decode b_Mod_owe 32 = .ok (.ireturn, 1) := dc_172 (by decide +kernel)
theorem d_Mod_owe_33 : decode b_Mod_owe 33 = .ok (.aload_n 0, 1) := dc_42 (by decide +kernel)
theorem d_Mod_owe_34 : decode b_Mod_owe 34 = .ok (.getfield 7, 3) := dc_180 (a := 0) (b := 7) (by decide +kernel) rfl
theorem d_Mod_owe_37 : decode b_Mod_owe 37 = .ok (.bipush 86, 2) := dc_16 (a := 86) (by decide +kernel) rfl
theorem d_Mod_owe_39 : decode b_Mod_owe 39 = .ok (.iaload, 1) := dc_46 (by decide +kernel)
theorem d_Mod_owe_40 : decode b_Mod_owe 40 = .ok (.bipush 8, 2) := dc_16 (a := 8) (by decide +kernel) rfl
theorem d_Mod_owe_42 : decode b_Mod_owe 42 = .ok (.if_icmp .ne 6, 3) := dc_160 (a := 0) (b := 6) (by decide +kernel) rfl
theorem d_Mod_owe_45 : decode b_Mod_owe 45 = .ok (.bipush (-3), 2) := dc_16 (a := 253) (by decide +kernel) rfl
theorem d_Mod_owe_47 : decode b_Mod_owe 47 = .ok (.ireturn, 1) := dc_172 (by decide +kernel)
theorem d_Mod_owe_48 : decode b_Mod_owe 48 = .ok (.bipush 87, 2) := dc_16 (a := 87) (by decide +kernel) rfl
theorem d_Mod_owe_50 : decode b_Mod_owe 50 = .ok (.iconst 3, 1) := dc_6 (by decide +kernel)
theorem d_Mod_owe_51 : decode b_Mod_owe 51 = .ok (.aload_n 0, 1) := dc_42 (by decide +kernel)
theorem d_Mod_owe_52 : decode b_Mod_owe 52 = .ok (.getfield 7, 3) := dc_180 (a := 0) (b := 7) (by decide +kernel) rfl
theorem d_Mod_owe_55 : decode b_Mod_owe 55 = .ok (.bipush 86, 2) := dc_16 (a := 86) (by decide +kernel) rfl
theorem d_Mod_owe_57 : decode b_Mod_owe 57 = .ok (.iaload, 1) := dc_46 (by decide +kernel)
theorem d_Mod_owe_58 : decode b_Mod_owe 58 = .ok (.imul, 1) := dc_104 (by decide +kernel)
theorem d_Mod_owe_59 : decode b_Mod_owe 59 = .ok (.iadd, 1) := dc_96 (by decide +kernel)
theorem d_Mod_owe_60 : decode b_Mod_owe 60 = .ok (.istore 4, 2) := dc_54 (a := 4) (by decide +kernel) rfl
theorem d_Mod_owe_62 : decode b_Mod_owe 62 = .ok (.aload_n 0, 1) := dc_42 (by decide +kernel)
theorem d_Mod_owe_63 : decode b_Mod_owe 63 = .ok (.getfield 7, 3) := dc_180 (a := 0) (b := 7) (by decide +kernel) rfl
theorem d_Mod_owe_66 : decode b_Mod_owe 66 = .ok (.iload 4, 2) := dc_21 (a := 4) (by decide +kernel) rfl
theorem d_Mod_owe_68 : decode b_Mod_owe 68 = .ok (.iload_n 1, 1) := dc_27 (by decide +kernel)
theorem d_Mod_owe_69 : decode b_Mod_owe 69 = .ok (.iastore, 1) := dc_79 (by decide +kernel)
theorem d_Mod_owe_70 : decode b_Mod_owe 70 = .ok (.aload_n 0, 1) := dc_42 (by decide +kernel)
theorem d_Mod_owe_71 : decode b_Mod_owe 71 = .ok (.getfield 7, 3) := dc_180 (a := 0) (b := 7) (by decide +kernel) rfl
theorem d_Mod_owe_74 : decode b_Mod_owe 74 = .ok (.iload 4, 2) := dc_21 (a := 4) (by decide +kernel) rfl
theorem d_Mod_owe_76 : decode b_Mod_owe 76 = .ok (.iconst 1, 1) := dc_4 (by decide +kernel)
theorem d_Mod_owe_77 : decode b_Mod_owe 77 = .ok (.iadd, 1) := dc_96 (by decide +kernel)
theorem d_Mod_owe_78 : decode b_Mod_owe 78 = .ok (.iload_n 2, 1) := dc_28 (by decide +kernel)
theorem d_Mod_owe_79 : decode b_Mod_owe 79 = .ok (.iastore, 1) := dc_79 (by decide +kernel)
theorem d_Mod_owe_80 : decode b_Mod_owe 80 = .ok (.aload_n 0, 1) := dc_42 (by decide +kernel)
theorem d_Mod_owe_81 : decode b_Mod_owe 81 = .ok (.getfield 7, 3) := dc_180 (a := 0) (b := 7) (by decide +kernel) rfl
theorem d_Mod_owe_84 : decode b_Mod_owe 84 = .ok (.iload 4, 2) := dc_21 (a := 4) (by decide +kernel) rfl
theorem d_Mod_owe_86 : decode b_Mod_owe 86 = .ok (.iconst 2, 1) := dc_5 (by decide +kernel)
theorem d_Mod_owe_87 : decode b_Mod_owe 87 = .ok (.iadd, 1) := dc_96 (by decide +kernel)
theorem d_Mod_owe_88 : decode b_Mod_owe 88 = .ok (.iload_n 3, 1) := dc_29 (by decide +kernel)
theorem d_Mod_owe_89 : decode b_Mod_owe 89 = .ok (.iastore, 1) := dc_79 (by decide +kernel)
theorem d_Mod_owe_90 : decode b_Mod_owe 90 = .ok (.aload_n 0, 1) := dc_42 (by decide +kernel)
theorem d_Mod_owe_91 : decode b_Mod_owe 91 = .ok (.getfield 7, 3) := dc_180 (a := 0) (b := 7) (by decide +kernel) rfl
theorem d_Mod_owe_94 : decode b_Mod_owe 94 = .ok (.bipush 86, 2) := dc_16 (a := 86) (by decide +kernel) rfl
theorem d_Mod_owe_96 : decode b_Mod_owe 96 = .ok (.dup2, 1) := dc_92 (by decide +kernel)
theorem d_Mod_owe_97 : decode b_Mod_owe 97 = .ok (.iaload, 1) := dc_46 (by decide +kernel)
theorem d_Mod_owe_98 : decode b_Mod_owe 98 = .ok (.iconst 1, 1) := dc_4 (by decide +kernel)
theorem d_Mod_owe_99 : decode b_Mod_owe 99 = .ok (.iadd, 1) := dc_96 (by decide +kernel)
theorem d_Mod_owe_100 : decode b_Mod_owe 100 = .ok (.iastore, 1) := dc_79 (by decide +kernel)
theorem d_Mod_owe_101 : decode b_Mod_owe 101 = .ok (.aload_n 0, 1) := dc_42 (by decide +kernel)
theorem d_Mod_owe_102 : decode b_Mod_owe 102 = .ok (.getfield 7, 3) := dc_180 (a := 0) (b := 7) (by decide +kernel) rfl
theorem d_Mod_owe_105 : decode b_Mod_owe 105 = .ok (.bipush 86, 2) := dc_16 (a := 86) (by decide +kernel) rfl
theorem d_Mod_owe_107 : decode b_Mod_owe 107 = .ok (.iaload, 1) := dc_46 (by decide +kernel)
theorem d_Mod_owe_108 : decode b_Mod_owe 108 = .ok (.ireturn, 1) := dc_172 (by decide +kernel)
theorem d_Mod_pay_0 : decode b_Mod_pay 0 = .ok (.iload_n 1, 1) := dc_27 (by decide +kernel)
theorem d_Mod_pay_1 : decode b_Mod_pay 1 = .ok (.i2l, 1) := dc_133 (by decide +kernel)
theorem d_Mod_pay_2 : decode b_Mod_pay 2 = .ok (.lconst 0, 1) := dc_9 (by decide +kernel)
theorem d_Mod_pay_3 : decode b_Mod_pay 3 = .ok (.aload_n 0, 1) := dc_42 (by decide +kernel)
theorem d_Mod_pay_4 : decode b_Mod_pay 4 = .ok (.getfield 7, 3) := dc_180 (a := 0) (b := 7) (by decide +kernel) rfl
theorem d_Mod_pay_7 : decode b_Mod_pay 7 = .ok (.bipush 86, 2) := dc_16 (a := 86) (by decide +kernel) rfl
theorem d_Mod_pay_9 : decode b_Mod_pay 9 = .ok (.iaload, 1) := dc_46 (by decide +kernel)
theorem d_Mod_pay_10 : decode b_Mod_pay 10 = .ok (.i2l, 1) := dc_133 (by decide +kernel)
theorem d_Mod_pay_11 : decode b_Mod_pay 11 = .ok (.invokestatic 95, 3) := dc_184 (a := 0) (b := 95) (by decide +kernel) rfl
theorem d_Mod_pay_14 : decode b_Mod_pay 14 = .ok (.ifCond .eq 13, 3) := dc_153 (a := 0) (b := 13) (by decide +kernel) rfl
theorem d_Mod_pay_17 : decode b_Mod_pay 17 = .ok (.aload_n 0, 1) := dc_42 (by decide +kernel)
theorem d_Mod_pay_18 : decode b_Mod_pay 18 = .ok (.bipush 86, 2) := dc_16 (a := 86) (by decide +kernel) rfl
theorem d_Mod_pay_20 : decode b_Mod_pay 20 = .ok (.iload_n 1, 1) := dc_27 (by decide +kernel)
theorem d_Mod_pay_21 : decode b_Mod_pay 21 = .ok (.invokevirtual 210, 3) := dc_182 (a := 0) (b := 210) (by decide +kernel) rfl
theorem d_Mod_pay_24 : decode b_Mod_pay 24 = .ok (.goto 4, 3) := dc_167 (a := 0) (b := 4) (by decide +kernel) rfl
theorem d_Mod_pay_27 : decode b_Mod_pay 27 = .ok (.iconst (-1), 1) := dc_2 (by decide +kernel)
theorem d_Mod_pay_28 : decode b_Mod_pay 28 = .ok (.ireturn, 1) := dc_172 (by decide +kernel)
theorem d_Mod_rain_0 : decode b_Mod_rain 0 = .ok (.iload_n 1, 1) := dc_27 (by decide +kernel)
theorem d_Mod_rain_1 : decode b_Mod_rain 1 = .ok (.i2l, 1) := dc_133 (by decide +kernel)
theorem d_Mod_rain_2 : decode b_Mod_rain 2 = .ok (.lconst 0, 1) := dc_9 (by decide +kernel)
theorem d_Mod_rain_3 : decode b_Mod_rain 3 = .ok (.ldc2_w 221, 3) := dc_20 (a := 0) (b := 221) (by decide +kernel) rfl
theorem d_Mod_rain_6 : decode b_Mod_rain 6 = .ok (.invokestatic 95, 3) := dc_184 (a := 0) (b := 95) (by decide +kernel) rfl
theorem d_Mod_rain_9 : decode b_Mod_rain 9 = .ok (.ifCond .ne 5, 3) := dc_154 (a := 0) (b := 5) (by decide +kernel) rfl
theorem d_Mod_rain_12 : decode b_Mod_rain 12 = .ok (.iconst (-1), 1) := dc_2 (by decide +kernel)
theorem d_Mod_rain_13 : decode b_Mod_rain 13 = .ok (.ireturn, 1) := dc_172 (by decide +kernel)
theorem d_Mod_rain_14 : decode b_Mod_rain 14 = .ok (.iconst 0, 1) := dc_3 (by decide +kernel)
theorem d_Mod_rain_15 : decode b_Mod_rain 15 = .ok (.istore_n 2, 1) := dc_61 (by decide +kernel)
theorem d_Mod_rain_16 : decode b_Mod_rain 16 = .ok (.iload_n 2, 1) := dc_28 (by decide +kernel)
theorem d_Mod_rain_17 : decode b_Mod_rain 17 = .ok (.aload_n 0, 1) := dc_42 (by decide +kernel)
theorem d_Mod_rain_18 : decode b_Mod_rain 18 = .ok (.invokevirtual 183, 3) := dc_182 (a := 0) (b := 183) (by decide +kernel) rfl
theorem d_Mod_rain_21 : decode b_Mod_rain 21 = .ok (.if_icmp .ge 48, 3) := dc_162 (a := 0) (b := 48) (by decide +kernel) rfl
theorem d_Mod_rain_24 : decode b_Mod_rain 24 = .ok (.aload_n 0, 1) := dc_42 (by decide +kernel)
theorem d_Mod_rain_25 : decode b_Mod_rain 25 = .ok (.getfield 7, 3) := dc_180 (a := 0) (b := 7) (by decide +kernel) rfl
theorem d_Mod_rain_28 : decode b_Mod_rain 28 = .ok (.iconst 0, 1) := dc_3 (by decide +kernel)
theorem d_Mod_rain_29 : decode b_Mod_rain 29 = .ok (.iload_n 2, 1) := dc_28 (by decide +kernel)
theorem d_Mod_rain_30 : decode b_Mod_rain 30 = .ok (.iadd, 1) := dc_96 (by decide +kernel)
theorem d_Mod_rain_31 : decode b_Mod_rain 31 = .ok (.iaload, 1) := dc_46 (by decide +kernel)
theorem d_Mod_rain_32 : decode b_Mod_rain 32 = .ok (.istore_n 3, 1) := dc_62 (by decide +kernel)
theorem d_Mod_rain_33 : decode b_Mod_rain 33 = .ok (.aload_n 0, 1) := dc_42 (by decide +kernel)
theorem d_Mod_rain_34 : decode b_Mod_rain 34 = .ok (.getfield 7, 3) := dc_180 (a := 0) (b := 7) (by decide +kernel) rfl
theorem d_Mod_rain_37 : decode b_Mod_rain 37 = .ok (.iconst 0, 1) := dc_3 (by decide +kernel)
theorem d_Mod_rain_38 : decode b_Mod_rain 38 = .ok (.iload_n 2, 1) := dc_28 (by decide +kernel)
theorem d_Mod_rain_39 : decode b_Mod_rain 39 = .ok (.iadd, 1) := dc_96 (by decide +kernel)
theorem d_Mod_rain_40 : decode b_Mod_rain 40 = .ok (.iload_n 3, 1) := dc_29 (by decide +kernel)
theorem d_Mod_rain_41 : decode b_Mod_rain 41 = .ok (.ifCond .ne 7, 3) := dc_154 (a := 0) (b := 7) (by decide +kernel) rfl
theorem d_Mod_rain_44 : decode b_Mod_rain 44 = .ok (.iconst 0, 1) := dc_3 (by decide +kernel)
theorem d_Mod_rain_45 : decode b_Mod_rain 45 = .ok (.goto 17, 3) := dc_167 (a := 0) (b := 17) (by decide +kernel) rfl
theorem d_Mod_rain_48 : decode b_Mod_rain 48 = .ok (.iload_n 3, 1) := dc_29 (by decide +kernel)
theorem d_Mod_rain_49 : decode b_Mod_rain 49 = .ok (.iload_n 1, 1) := dc_27 (by decide +kernel)
theorem d_Mod_rain_50 : decode b_Mod_rain 50 = .ok (.isub, 1) := dc_100 (by decide +kernel)
theorem d_Mod_rain_51 : decode b_Mod_rain 51 = .ok (.iconst 1, 1) := dc_4 (by decide +kernel)
theorem d_Mod_rain_52 : decode b_Mod_rain 52 = .ok (.if_icmp .ge 7, 3) := dc_162 (a := 0) (b := 7) (by decide +kernel) rfl
theorem d_Mod_rain_55 : decode b_Mod_rain 55 = .ok (.iconst 1, 1) := dc_4 (by decide +kernel)
theorem d_Mod_rain_56 : decode b_Mod_rain 56 = .ok (.goto 6, 3) := dc_167 (a := 0) (b := 6) (by decide +kernel) rfl
theorem d_Mod_rain_59 : decode b_Mod_rain 59 = .ok (.iload_n 3, 1) := dc_29 (by decide +kernel)
theorem d_Mod_rain_60 : decode b_Mod_rain 60 = .ok (.iload_n 1, 1) := dc_27 (by decide +kernel)
theorem d_Mod_rain_61 : decode b_Mod_rain 61 = .ok (.isub, 1) := dc_100 (by decide +kernel)
theorem d_Mod_rain_62 : decode b_Mod_rain 62 = .ok (.iastore, 1) := dc_79 (by decide +kernel)
theorem d_Mod_rain_63 : decode b_Mod_rain 63 = .ok (.iinc 2 1, 3) := dc_132 (a := 2) (b := 1) (by decide +kernel) rfl
theorem d_Mod_rain_66 : decode b_Mod_rain 66 = .ok (.goto (-50), 3) := dc_167 (a := 255) (b := 206) (by decide +kernel) rfl
theorem d_Mod_rain_69 : decode b_Mod_rain 69 = .ok (.aload_n 0, 1) := dc_42 (by decide +kernel)
theorem d_Mod_rain_70 : decode b_Mod_rain 70 = .ok (.invokevirtual 223, 3) := dc_182 (a := 0) (b := 223) (by decide +kernel) rfl
theorem d_Mod_rain_73 : decode b_Mod_rain 73 = .ok (.ireturn, 1) := dc_172 (by decide +kernel)
theorem d_Mod_doesTwitch_0 : decode b_Mod_doesTwitch 0 = .ok (.aload_n 0, 1) := dc_42 (by decide +kernel)
theorem d_Mod_doesTwitch_1 : decode b_Mod_doesTwitch 1 = .ok (.getfield 7, 3) := dc_180 (a := 0) (b := 7) (by decide +kernel) rfl
theorem d_Mod_doesTwitch_4 : decode b_Mod_doesTwitch 4 = .ok (.iconst 0, 1) := dc_3 (by decide +kernel)
theorem d_Mod_doesTwitch_5 : decode b_Mod_doesTwitch 5 = .ok (.iload_n 3, 1) := dc_29 (by decide +kernel)
theorem d_Mod_doesTwitch_6 : decode b_Mod_doesTwitch 6 = .ok (.iadd, 1) := dc_96 (by decide +kernel)
theorem d_Mod_doesTwitch_7 : decode b_Mod_doesTwitch 7 = .ok (.iaload, 1) := dc_46 (by decide +kernel)
theorem d_Mod_doesTwitch_8 : decode b_Mod_doesTwitch 8 = .ok (.ifCond .le 19, 3) := dc_158 (a := 0) (b := 19) (by decide +kernel) rfl
theorem d_Mod_doesTwitch_11 : decode b_Mod_doesTwitch 11 = .ok (.aload_n 0, 1) := dc_42 (by decide +kernel)
theorem d_Mod_doesTwitch_12 : decode b_Mod_doesTwitch 12 = .ok (.getfield 7, 3) := dc_180 (a := 0) (b := 7) (by decide +kernel) rfl
theorem d_Mod_doesTwitch_15 : decode b_Mod_doesTwitch 15 = .ok (.iconst 0, 1) := dc_3 (by decide +kernel)
theorem d_Mod_doesTwitch_16 : decode b_Mod_doesTwitch 16 = .ok (.iload_n 3, 1) := dc_29 (by decide +kernel)
theorem d_Mod_doesTwitch_17 : decode b_Mod_doesTwitch 17 = .ok (.iadd, 1) := dc_96 (by decide +kernel)
theorem d_Mod_doesTwitch_18 : decode b_Mod_doesTwitch 18 = .ok (.iaload, 1) := dc_46 (by decide +kernel)
theorem d_Mod_doesTwitch_19 : decode b_Mod_doesTwitch 19 = .ok (.iload_n 2, 1) := dc_28 (by decide +kernel)
theorem d_Mod_doesTwitch_20 : decode b_Mod_doesTwitch 20 = .ok (.if_icmp .gt 7, 3) := dc_163 (a := 0) (b := 7) (by decide +kernel) rfl
theorem d_Mod_doesTwitch_23 : decode b_Mod_doesTwitch 23 = .ok (.iconst 1, 1) := dc_4 (by decide +kernel)
theorem d_Mod_doesTwitch_24 : decode b_Mod_doesTwitch 24 = .ok (.goto 4, 3) := dc_167 (a := 0) (b := 4) (by decide +kernel) rfl
theorem d_Mod_doesTwitch_27 : decode b_Mod_doesTwitch 27 = .ok (.iconst 0, 1) := dc_3 (by decide +kernel)
theorem d_Mod_doesTwitch_28 : decode b_Mod_doesTwitch 28 = .ok (.istore 6, 2) := dc_54 (a := 6) (by decide +kernel) rfl
theorem d_Mod_doesTwitch_30 : decode b_Mod_doesTwitch 30 = .ok (.aload_n 0, 1) := dc_42 (by decide +kernel)
theorem d_Mod_doesTwitch_31 : decode b_Mod_doesTwitch 31 = .ok (.getfield 7, 3) := dc_180 (a := 0) (b := 7) (by decide +kernel) rfl
theorem d_Mod_doesTwitch_34 : decode b_Mod_doesTwitch 34 = .ok (.bipush 16, 2) := dc_16 (a := 16) (by decide +kernel) rfl
theorem d_Mod_doesTwitch_36 : decode b_Mod_doesTwitch 36 = .ok (.iload_n 3, 1) := dc_29 (by decide +kernel)
theorem d_Mod_doesTwitch_37 : decode b_Mod_doesTwitch 37 = .ok (.iadd, 1) := dc_96 (by decide +kernel)
theorem d_Mod_doesTwitch_38 : decode b_Mod_doesTwitch 38 = .ok (.iaload, 1) := dc_46 (by decide +kernel)
theorem d_Mod_doesTwitch_39 : decode b_Mod_doesTwitch 39 = .ok (.iconst 1, 1) := dc_4 (by decide +kernel)
theorem d_Mod_doesTwitch_40 : decode b_Mod_doesTwitch 40 = .ok (.if_icmp .ne 7, 3) := dc_160 (a := 0) (b := 7) (by decide +kernel) rfl
theorem d_Mod_doesTwitch_43 : decode b_Mod_doesTwitch 43 = .ok (.iconst 1, 1) := dc_4 (by decide +kernel)
theorem d_Mod_doesTwitch_44 : decode b_Mod_doesTwitch 44 = .ok (.goto 4, 3) := dc_167 (a := 0) (b := 4) (by decide +kernel) rfl
theorem d_Mod_doesTwitch_47 : decode b_Mod_doesTwitch 47 = .ok (.iconst 0, 1) := dc_3 (by decide +kernel)
theorem d_Mod_doesTwitch_48 : decode b_Mod_doesTwitch 48 = .ok (.istore 7, 2) := dc_54 (a := 7) (by decide +kernel) rfl
theorem d_Mod_doesTwitch_50 : decode b_Mod_doesTwitch 50 = .ok (.iload_n 1, 1) := dc_27 (by decide +kernel)
theorem d_Mod_doesTwitch_51 : decode b_Mod_doesTwitch 51 = .ok (.tableswitch 69 0 3 #[29, 32, 35, 49], 29) := by decide +kernel
theorem d_Mod_doesTwitch_80 : decode b_Mod_doesTwitch 80 = .ok (.iload 6, 2) := dc_21 (a := 6) (by decide +kernel) rfl
theorem d_Mod_doesTwitch_82 : decode b_Mod_doesTwitch 82 = .ok (.ireturn, 1) := dc_172 (by decide +kernel)
theorem d_Mod_doesTwitch_83 : decode b_Mod_doesTwitch 83 = .ok (.iload 7, 2) := dc_21 (a := 7) (by decide +kernel) rfl
theorem d_Mod_doesTwitch_85 : decode b_Mod_doesTwitch 85 = .ok (.ireturn, 1) := dc_172 (by decide +kernel)
theorem d_Mod_doesTwitch_86 : decode b_Mod_doesTwitch 86 = .ok (.iload 5, 2) := dc_21 (a := 5) (by decide +kernel) rfl
theorem d_Mod_doesTwitch_88 : decode b_Mod_doesTwitch 88 = .ok (.iconst 2, 1) := dc_5 (by decide +kernel)
theorem d_Mod_doesTwitch_89 : decode b_Mod_doesTwitch 89 = .ok (.irem, 1) := dc_112 (by decide +kernel)
theorem d_Mod_doesTwitch_90 : decode b_Mod_doesTwitch 90 = .ok (.iconst 1, 1) := dc_4 (by decide +kernel)
theorem d_Mod_doesTwitch_91 : decode b_Mod_doesTwitch 91 = .ok (.if_icmp .ne 7, 3) := dc_160 (a := 0) (b := 7) (by decide +kernel) rfl
theorem d_Mod_doesTwitch_94 : decode b_Mod_doesTwitch 94 = .ok (.iconst 1, 1) := dc_4 (by decide +kernel)
theorem d_Mod_doesTwitch_95 : decode b_Mod_doesTwitch 95 = .ok (.goto 4, 3) := dc_167 (a := 0) (b := 4) (by decide +kernel) rfl
theorem d_Mod_doesTwitch_98 : decode b_Mod_doesTwitch 98 = .ok (.iconst 0, 1) := dc_3 (by decide +kernel)
theorem d_Mod_doesTwitch_99 : decode b_Mod_doesTwitch 99 = .ok (.ireturn, 1) := dc_172 (by decide +kernel)
theorem d_Mod_doesTwitch_100 : decode b_Mod_doesTwitch 100 = .ok (.aload_n 0, 1) := dc_42 (by decide +kernel)
theorem d_Mod_doesTwitch_101 : decode b_Mod_doesTwitch 101 = .ok (.getfield 7, 3) := dc_180 (a := 0) (b := 7) (by decide +kernel) rfl
theorem d_Mod_doesTwitch_104 : decode b_Mod_doesTwitch 104 = .ok (.bipush 48, 2) := dc_16 (a := 48) (by decide +kernel) rfl
theorem d_Mod_doesTwitch_106 : decode b_Mod_doesTwitch 106 = .ok (.iload_n 3, 1) := dc_29 (by decide +kernel)
theorem d_Mod_doesTwitch_107 : decode b_Mod_doesTwitch 107 = .ok (.iadd, 1) := dc_96 (by decide +kernel)
theorem d_Mod_doesTwitch_108 : decode b_Mod_doesTwitch 108 = .ok (.iaload, 1) := dc_46 (by decide +kernel)
theorem d_Mod_doesTwitch_109 : decode b_Mod_doesTwitch 109 = .ok (.iload 4, 2) := dc_21 (a := 4) (by decide +kernel) rfl
theorem d_Mod_doesTwitch_111 : decode b_Mod_doesTwitch 111 = .ok (.if_icmp .ne 7, 3) := dc_160 (a := 0) (b := 7) (by decide +kernel) rfl
theorem d_Mod_doesTwitch_114 : decode b_Mod_doesTwitch 114 = .ok (.iconst 1, 1) := dc_4 (by decide +kernel)
theorem d_Mod_doesTwitch_115 : decode b_Mod_doesTwitch 115 = .ok (.goto 4, 3) := dc_167 (a := 0) (b := 4) (by decide +kernel) rfl
theorem d_Mod_doesTwitch_118 : decode b_Mod_doesTwitch 118 = .ok (.iconst 0, 1) := dc_3 (by decide +kernel)
theorem d_Mod_doesTwitch_119 : decode b_Mod_doesTwitch 119 = .ok (.ireturn, 1) := dc_172 (by decide +kernel)
theorem d_Mod_doesTwitch_120 : decode b_Mod_doesTwitch 120 = .ok (.iload 6, 2) := dc_21 (a := 6) (by decide +kernel) rfl
theorem d_Mod_doesTwitch_122 : decode b_Mod_doesTwitch 122 = .ok (.ifCond .ne 8, 3) := dc_154 (a := 0) (b := 8) (by decide +kernel) rfl
theorem d_Mod_doesTwitch_125 : decode b_Mod_doesTwitch 125 = .ok (.iload 7, 2) := dc_21 (a := 7) (by decide +kernel) rfl
theorem d_Mod_doesTwitch_127 : decode b_Mod_doesTwitch 127 = .ok (.ifCond .eq 7, 3) := dc_153 (a := 0) (b := 7) (by decide +kernel) rfl
theorem d_Mod_doesTwitch_130 : decode b_Mod_doesTwitch 130 = .ok (.iconst 1, 1) := dc_4 (by decide +kernel)
theorem d_Mod_doesTwitch_131 : decode b_Mod_doesTwitch 131 = .ok (.goto 4, 3) := dc_167 (a := 0) (b := 4) (by decide +kernel) rfl
theorem d_Mod_doesTwitch_134 : decode b_Mod_doesTwitch 134 = .ok (.iconst 0, 1) := dc_3 (by decide +kernel)
theorem d_Mod_doesTwitch_135 : decode b_Mod_doesTwitch 135 = .ok (.ireturn, 1) := dc_172 (by decide +kernel)
abbrev q_Mod_doesTwitch (h : Hp) (n : Int32) (nZ : Int) (d : Int32) (dZ : Int) (c : Int32) (cZ : Int) (o : Int32) (oZ : Int) (s : Int32) (sZ : Int) : Option Value → Hp → Prop := pInt (fun r h' => h = h' ∧ (r.toInt = 0 ∨ r.toInt = 1))
set_option maxRecDepth 100000 in
theorem c_Mod_doesTwitch (h : Hp) (hI : Inv h) (n : Int32) (nZ : Int) (nE : n.toInt = nZ) (d : Int32) (dZ : Int) (dE : d.toInt = dZ) (c : Int32) (cZ : Int) (cE : c.toInt = cZ) (o : Int32) (oZ : Int) (oE : o.toInt = oZ) (s : Int32) (sZ : Int) (sE : s.toInt = sZ) (hy0 : 0 ≤ cZ ∧ cZ ≤ 15) : Ct y_Mod_doesTwitch b_Mod_doesTwitch 8 (some .boolean) 0 0 [.ref 116, .int n, .int d, .int c, .int o, .int s] h (q_Mod_doesTwitch h n nZ d dZ c cZ o oZ s sZ) := by
  refine ct_ow R_Mod [some (.ref 116), some (.int n), some (.int d), some (.int c), some (.int o), some (.int s), none, none] rfl (by decide) rfl (Nat.le_of_ble_eq_true rfl) ?_
  have f0 : fr [] h h := fr_rf
  have J1 : ∀ (v3 : Int32) (v3Z : Int), v3.toInt = v3Z → 0 ≤ v3Z ∧ v3Z ≤ 1 → V R_Mod b_Mod_doesTwitch 8 (some .boolean) 0 0 (q_Mod_doesTwitch h n nZ d dZ c cZ o oZ s sZ) h 30 [some (.ref 116), some (.int n), some (.int d), some (.int c), some (.int o), some (.int s), some (.int v3), none] [] := by
    intro v3 v3Z v3E q4
    have J5 : ∀ (v7 : Int32) (v7Z : Int), v7.toInt = v7Z → 0 ≤ v7Z ∧ v7Z ≤ 1 → V R_Mod b_Mod_doesTwitch 8 (some .boolean) 0 0 (q_Mod_doesTwitch h n nZ d dZ c cZ o oZ s sZ) h 50 [some (.ref 116), some (.int n), some (.int d), some (.int c), some (.int o), some (.int s), some (.int v3), some (.int v7)] [] := by
      intro v7 v7Z v7E q8
      refine V_iload_n 1 d_Mod_doesTwitch_50 rfl rfl ?_
      rcases (by omega : (nZ < 0 ∨ 3 < nZ) ∨ nZ = 0 ∨ nZ = 1 ∨ nZ = 2 ∨ nZ = 3) with c9 | c9 | c9 | c9 | c9
      ·
        refine V_tabOut 120 nE d_Mod_doesTwitch_51 c9 (by decide) ?_
        refine V_iload d_Mod_doesTwitch_120 rfl ?_
        refine V_if_ne 130 v3E d_Mod_doesTwitch_122 (by decide) (fun c10 => ?_) (fun c10 => ?_)
        ·
          refine V_iconst 1 d_Mod_doesTwitch_130 (by decide) ?_
          refine V_goto 135 d_Mod_doesTwitch_131 (by decide) ?_
          exact V_zret rfl (by decide) d_Mod_doesTwitch_135 ⟨1, rfl, ⟨rfl, (by (try rw [show Int32.toInt 1 = 1 from rfl]); omega)⟩⟩
        ·
          refine V_iload d_Mod_doesTwitch_125 rfl ?_
          refine V_if_eq 134 v7E d_Mod_doesTwitch_127 (by decide) (fun c11 => ?_) (fun c11 => ?_)
          ·
            refine V_iconst 0 d_Mod_doesTwitch_134 (by decide) ?_
            exact V_zret rfl (by decide) d_Mod_doesTwitch_135 ⟨0, rfl, ⟨rfl, (by (try rw [show Int32.toInt 0 = 0 from rfl]); omega)⟩⟩
          ·
            refine V_iconst 1 d_Mod_doesTwitch_130 (by decide) ?_
            refine V_goto 135 d_Mod_doesTwitch_131 (by decide) ?_
            exact V_zret rfl (by decide) d_Mod_doesTwitch_135 ⟨1, rfl, ⟨rfl, (by (try rw [show Int32.toInt 1 = 1 from rfl]); omega)⟩⟩
      ·
        refine V_tabIn 80 nE d_Mod_doesTwitch_51 (by omega) (by omega) (by rw [c9]; rfl) (by decide) ?_
        refine V_iload d_Mod_doesTwitch_80 rfl ?_
        exact V_zret rfl (by rw [v3E]; omega) d_Mod_doesTwitch_82 ⟨v3, rfl, ⟨rfl, (by (try rw [v3E]); omega)⟩⟩
      ·
        refine V_tabIn 83 nE d_Mod_doesTwitch_51 (by omega) (by omega) (by rw [c9]; rfl) (by decide) ?_
        refine V_iload d_Mod_doesTwitch_83 rfl ?_
        exact V_zret rfl (by rw [v7E]; omega) d_Mod_doesTwitch_85 ⟨v7, rfl, ⟨rfl, (by (try rw [v7E]); omega)⟩⟩
      ·
        refine V_tabIn 86 nE d_Mod_doesTwitch_51 (by omega) (by omega) (by rw [c9]; rfl) (by decide) ?_
        refine V_iload d_Mod_doesTwitch_86 rfl ?_
        refine V_iconst 2 d_Mod_doesTwitch_88 (by decide) ?_
        refine N_iremg tc_2 (by omega) d_Mod_doesTwitch_89 (fun z12 z12Z z12E z12e => ?_)
        refine V_iconst 1 d_Mod_doesTwitch_90 (by decide) ?_
        refine V_icmp_ne 98 z12E tc_1 d_Mod_doesTwitch_91 (by decide) (fun c13 => ?_) (fun c13 => ?_)
        ·
          refine V_iconst 0 d_Mod_doesTwitch_98 (by decide) ?_
          exact V_zret rfl (by decide) d_Mod_doesTwitch_99 ⟨0, rfl, ⟨rfl, (by (try rw [show Int32.toInt 0 = 0 from rfl]); omega)⟩⟩
        ·
          refine V_iconst 1 d_Mod_doesTwitch_94 (by decide) ?_
          refine V_goto 99 d_Mod_doesTwitch_95 (by decide) ?_
          exact V_zret rfl (by decide) d_Mod_doesTwitch_99 ⟨1, rfl, ⟨rfl, (by (try rw [show Int32.toInt 1 = 1 from rfl]); omega)⟩⟩
      ·
        refine V_tabIn 100 nE d_Mod_doesTwitch_51 (by omega) (by omega) (by rw [c9]; rfl) (by decide) ?_
        refine V_aload_n 0 d_Mod_doesTwitch_100 rfl rfl ?_
        refine V_getR fa_Mod_7 sk_116 rfl d_Mod_doesTwitch_101 ?_
        refine V_bipush 48 d_Mod_doesTwitch_104 (by decide) ?_
        refine V_iload_n 3 d_Mod_doesTwitch_106 rfl rfl ?_
        refine V_iadd tc_48 cE (by omega) d_Mod_doesTwitch_107 (fun z14 z14e z14E => ?_)
        refine N_iald sk_117 z14E (by omega) d_Mod_doesTwitch_108 (fun z15 z15Z z15E z15e => ?_)
        refine V_iload d_Mod_doesTwitch_109 rfl ?_
        refine V_icmp_ne 118 z15E oE d_Mod_doesTwitch_111 (by decide) (fun c16 => ?_) (fun c16 => ?_)
        ·
          refine V_iconst 0 d_Mod_doesTwitch_118 (by decide) ?_
          exact V_zret rfl (by decide) d_Mod_doesTwitch_119 ⟨0, rfl, ⟨rfl, (by (try rw [show Int32.toInt 0 = 0 from rfl]); omega)⟩⟩
        ·
          refine V_iconst 1 d_Mod_doesTwitch_114 (by decide) ?_
          refine V_goto 119 d_Mod_doesTwitch_115 (by decide) ?_
          exact V_zret rfl (by decide) d_Mod_doesTwitch_119 ⟨1, rfl, ⟨rfl, (by (try rw [show Int32.toInt 1 = 1 from rfl]); omega)⟩⟩
    refine V_aload_n 0 d_Mod_doesTwitch_30 rfl rfl ?_
    refine V_getR fa_Mod_7 sk_116 rfl d_Mod_doesTwitch_31 ?_
    refine V_bipush 16 d_Mod_doesTwitch_34 (by decide) ?_
    refine V_iload_n 3 d_Mod_doesTwitch_36 rfl rfl ?_
    refine V_iadd tc_16 cE (by omega) d_Mod_doesTwitch_37 (fun z17 z17e z17E => ?_)
    refine N_iald sk_117 z17E (by omega) d_Mod_doesTwitch_38 (fun z18 z18Z z18E z18e => ?_)
    refine V_iconst 1 d_Mod_doesTwitch_39 (by decide) ?_
    refine V_icmp_ne 47 z18E tc_1 d_Mod_doesTwitch_40 (by decide) (fun c19 => ?_) (fun c19 => ?_)
    ·
      refine V_iconst 0 d_Mod_doesTwitch_47 (by decide) ?_
      refine V_istore 7 [some (.ref 116), some (.int n), some (.int d), some (.int c), some (.int o), some (.int s), some (.int v3), some (.int 0)] d_Mod_doesTwitch_48 (by decide) rfl rfl ?_
      exact J5 0 0 tc_0 (by omega)
    ·
      refine V_iconst 1 d_Mod_doesTwitch_43 (by decide) ?_
      refine V_goto 48 d_Mod_doesTwitch_44 (by decide) ?_
      refine V_istore 7 [some (.ref 116), some (.int n), some (.int d), some (.int c), some (.int o), some (.int s), some (.int v3), some (.int 1)] d_Mod_doesTwitch_48 (by decide) rfl rfl ?_
      exact J5 1 1 tc_1 (by omega)
  refine V_aload_n 0 d_Mod_doesTwitch_0 rfl rfl ?_
  refine V_getR fa_Mod_7 sk_116 rfl d_Mod_doesTwitch_1 ?_
  refine V_iconst 0 d_Mod_doesTwitch_4 (by decide) ?_
  refine V_iload_n 3 d_Mod_doesTwitch_5 rfl rfl ?_
  refine V_iadd tc_0 cE (by omega) d_Mod_doesTwitch_6 (fun z20 z20e z20E => ?_)
  refine N_iald sk_117 z20E (by omega) d_Mod_doesTwitch_7 (fun z21 z21Z z21E z21e => ?_)
  refine V_if_le 27 z21E d_Mod_doesTwitch_8 (by decide) (fun c22 => ?_) (fun c22 => ?_)
  ·
    refine V_iconst 0 d_Mod_doesTwitch_27 (by decide) ?_
    refine V_istore 6 [some (.ref 116), some (.int n), some (.int d), some (.int c), some (.int o), some (.int s), some (.int 0), none] d_Mod_doesTwitch_28 (by decide) rfl rfl ?_
    exact J1 0 0 tc_0 (by omega)
  ·
    refine V_aload_n 0 d_Mod_doesTwitch_11 rfl rfl ?_
    refine V_getR fa_Mod_7 sk_116 rfl d_Mod_doesTwitch_12 ?_
    refine V_iconst 0 d_Mod_doesTwitch_15 (by decide) ?_
    refine V_iload_n 3 d_Mod_doesTwitch_16 rfl rfl ?_
    refine V_iadd tc_0 cE (by omega) d_Mod_doesTwitch_17 (fun z23 z23e z23E => ?_)
    refine N_iald sk_117 z23E (by omega) d_Mod_doesTwitch_18 (fun z24 z24Z z24E z24e => ?_)
    refine V_iload_n 2 d_Mod_doesTwitch_19 rfl rfl ?_
    refine V_icmp_gt 27 z24E dE d_Mod_doesTwitch_20 (by decide) (fun c25 => ?_) (fun c25 => ?_)
    ·
      refine V_iconst 0 d_Mod_doesTwitch_27 (by decide) ?_
      refine V_istore 6 [some (.ref 116), some (.int n), some (.int d), some (.int c), some (.int o), some (.int s), some (.int 0), none] d_Mod_doesTwitch_28 (by decide) rfl rfl ?_
      exact J1 0 0 tc_0 (by omega)
    ·
      refine V_iconst 1 d_Mod_doesTwitch_23 (by decide) ?_
      refine V_goto 28 d_Mod_doesTwitch_24 (by decide) ?_
      refine V_istore 6 [some (.ref 116), some (.int n), some (.int d), some (.int c), some (.int o), some (.int s), some (.int 1), none] d_Mod_doesTwitch_28 (by decide) rfl rfl ?_
      exact J1 1 1 tc_1 (by omega)
theorem d_Mod_isSeen_0 : decode b_Mod_isSeen 0 = .ok (.aload_n 0, 1) := dc_42 (by decide +kernel)
theorem d_Mod_isSeen_1 : decode b_Mod_isSeen 1 = .ok (.iload_n 1, 1) := dc_27 (by decide +kernel)
theorem d_Mod_isSeen_2 : decode b_Mod_isSeen 2 = .ok (.invokevirtual 200, 3) := dc_182 (a := 0) (b := 200) (by decide +kernel) rfl
theorem d_Mod_isSeen_5 : decode b_Mod_isSeen 5 = .ok (.ifCond .eq 26, 3) := dc_153 (a := 0) (b := 26) (by decide +kernel) rfl
theorem d_Mod_isSeen_8 : decode b_Mod_isSeen 8 = .ok (.iload_n 2, 1) := dc_28 (by decide +kernel)
theorem d_Mod_isSeen_9 : decode b_Mod_isSeen 9 = .ok (.invokestatic 205, 3) := dc_184 (a := 0) (b := 205) (by decide +kernel) rfl
theorem d_Mod_isSeen_12 : decode b_Mod_isSeen 12 = .ok (.ifCond .eq 19, 3) := dc_153 (a := 0) (b := 19) (by decide +kernel) rfl
theorem d_Mod_isSeen_15 : decode b_Mod_isSeen 15 = .ok (.iload_n 3, 1) := dc_29 (by decide +kernel)
theorem d_Mod_isSeen_16 : decode b_Mod_isSeen 16 = .ok (.i2l, 1) := dc_133 (by decide +kernel)
theorem d_Mod_isSeen_17 : decode b_Mod_isSeen 17 = .ok (.lconst 1, 1) := dc_10 (by decide +kernel)
theorem d_Mod_isSeen_18 : decode b_Mod_isSeen 18 = .ok (.ldc2_w 208, 3) := dc_20 (a := 0) (b := 208) (by decide +kernel) rfl
theorem d_Mod_isSeen_21 : decode b_Mod_isSeen 21 = .ok (.invokestatic 95, 3) := dc_184 (a := 0) (b := 95) (by decide +kernel) rfl
theorem d_Mod_isSeen_24 : decode b_Mod_isSeen 24 = .ok (.ifCond .eq 7, 3) := dc_153 (a := 0) (b := 7) (by decide +kernel) rfl
theorem d_Mod_isSeen_27 : decode b_Mod_isSeen 27 = .ok (.iconst 1, 1) := dc_4 (by decide +kernel)
theorem d_Mod_isSeen_28 : decode b_Mod_isSeen 28 = .ok (.goto 4, 3) := dc_167 (a := 0) (b := 4) (by decide +kernel) rfl
theorem d_Mod_isSeen_31 : decode b_Mod_isSeen 31 = .ok (.iconst 0, 1) := dc_3 (by decide +kernel)
theorem d_Mod_isSeen_32 : decode b_Mod_isSeen 32 = .ok (.ireturn, 1) := dc_172 (by decide +kernel)
abbrev q_Mod_isSeen (h : Hp) (c : Int32) (cZ : Int) (o : Int32) (oZ : Int) (s : Int32) (sZ : Int) (w : Int32) (wZ : Int) (g : Int32) (gZ : Int) : Option Value → Hp → Prop := pInt (fun r h' => h = h' ∧ (r.toInt = 1 ∧ 0 ≤ cZ ∧ cZ ≤ 15 ∧ 0 ≤ oZ ∧ oZ ≤ 3 ∧ 1 ≤ sZ ∧ sZ ≤ 9 ∨ r.toInt = 0))
set_option maxRecDepth 100000 in
theorem c_Mod_isSeen (h : Hp) (hI : Inv h) (c : Int32) (cZ : Int) (cE : c.toInt = cZ) (o : Int32) (oZ : Int) (oE : o.toInt = oZ) (s : Int32) (sZ : Int) (sE : s.toInt = sZ) (w : Int32) (wZ : Int) (wE : w.toInt = wZ) (wK : h.1 116 2 = w) (g : Int32) (gZ : Int) (gE : g.toInt = gZ) (gK : h.1 116 3 = g) : Ct y_Mod_isSeen b_Mod_isSeen 4 (some .boolean) 2 46 [.ref 116, .int c, .int o, .int s] h (q_Mod_isSeen h c cZ o oZ s sZ w wZ g gZ) := by
  refine ct_ow R_Mod [some (.ref 116), some (.int c), some (.int o), some (.int s)] rfl (by decide) rfl (Nat.le_of_ble_eq_true rfl) ?_
  have f0 : fr [] h h := fr_rf
  have g1 : 2 ≤ wZ ∧ wZ ≤ 4 := inv_at hI wE wK.symm rfl
  have g2 : 2 ≤ gZ ∧ gZ ≤ 4 := inv_at hI gE gK.symm rfl
  refine V_aload_n 0 d_Mod_isSeen_0 rfl rfl ?_
  refine V_iload_n 1 d_Mod_isSeen_1 rfl rfl ?_
  refine N_callVI [.int c] [] cv_Mod_200 sk_116 rfl d_Mod_isSeen_2 rfl (Nat.le_of_ble_eq_true rfl) (by decide) (by decide) (c_Mod_isCell h hI c cZ cE w wZ wE wK g gZ gE gK) (fun z3 h4 z3Z z3E p5 => ?_)
  obtain ⟨eh4, p5⟩ := p5
  subst eh4
  refine V_if_eq 31 z3E d_Mod_isSeen_5 (by decide) (fun c6 => ?_) (fun c6 => ?_)
  ·
    refine V_iconst 0 d_Mod_isSeen_31 (by decide) ?_
    exact V_zret rfl (by decide) d_Mod_isSeen_32 ⟨0, rfl, ⟨rfl, (by (try rw [show Int32.toInt 0 = 0 from rfl]); omega)⟩⟩
  ·
    refine V_iload_n 2 d_Mod_isSeen_8 rfl rfl ?_
    refine N_callSI [.int o] [] cs_Mod_205 d_Mod_isSeen_9 rfl (Nat.le_of_ble_eq_true rfl) (by decide) (by decide) (c_Mod_isOwner h o oZ oE) (fun z7 h8 z7Z z7E p9 => ?_)
    obtain ⟨eh8, p9⟩ := p9
    subst eh8
    refine V_if_eq 31 z7E d_Mod_isSeen_12 (by decide) (fun c10 => ?_) (fun c10 => ?_)
    ·
      refine V_iconst 0 d_Mod_isSeen_31 (by decide) ?_
      exact V_zret rfl (by decide) d_Mod_isSeen_32 ⟨0, rfl, ⟨rfl, (by (try rw [show Int32.toInt 0 = 0 from rfl]); omega)⟩⟩
    ·
      refine V_iload_n 3 d_Mod_isSeen_15 rfl rfl ?_
      refine V_i2l d_Mod_isSeen_16 (fun z11 z11e z11E => ?_)
      have z11F : z11.toInt = sZ := z11E.trans sE
      refine V_lconst 1 d_Mod_isSeen_17 (by decide) ?_
      refine V_ldc2 d_Mod_isSeen_18 wl_Mod_208 ?_
      refine N_callSI [.long z11, .long 1, .long 9] [] cs_Mod_95 d_Mod_isSeen_21 rfl (Nat.le_of_ble_eq_true rfl) (by decide) (by decide) (c_Mod_in h z11 sZ z11F 1 1 tl_1 9 9 tl_9) (fun z12 h13 z12Z z12E p14 => ?_)
      obtain ⟨eh13, p14⟩ := p14
      subst eh13
      refine V_if_eq 31 z12E d_Mod_isSeen_24 (by decide) (fun c15 => ?_) (fun c15 => ?_)
      ·
        refine V_iconst 0 d_Mod_isSeen_31 (by decide) ?_
        exact V_zret rfl (by decide) d_Mod_isSeen_32 ⟨0, rfl, ⟨rfl, (by (try rw [show Int32.toInt 0 = 0 from rfl]); omega)⟩⟩
      ·
        refine V_iconst 1 d_Mod_isSeen_27 (by decide) ?_
        refine V_goto 32 d_Mod_isSeen_28 (by decide) ?_
        exact V_zret rfl (by decide) d_Mod_isSeen_32 ⟨1, rfl, ⟨rfl, (by (try rw [show Int32.toInt 1 = 1 from rfl]); omega)⟩⟩
theorem d_Mod_twitch_0 : decode b_Mod_twitch 0 = .ok (.aload_n 0, 1) := dc_42 (by decide +kernel)
theorem d_Mod_twitch_1 : decode b_Mod_twitch 1 = .ok (.iload_n 1, 1) := dc_27 (by decide +kernel)
theorem d_Mod_twitch_2 : decode b_Mod_twitch 2 = .ok (.iload_n 2, 1) := dc_28 (by decide +kernel)
theorem d_Mod_twitch_3 : decode b_Mod_twitch 3 = .ok (.iload_n 3, 1) := dc_29 (by decide +kernel)
theorem d_Mod_twitch_4 : decode b_Mod_twitch 4 = .ok (.invokevirtual 226, 3) := dc_182 (a := 0) (b := 226) (by decide +kernel) rfl
theorem d_Mod_twitch_7 : decode b_Mod_twitch 7 = .ok (.ifCond .eq 30, 3) := dc_153 (a := 0) (b := 30) (by decide +kernel) rfl
theorem d_Mod_twitch_10 : decode b_Mod_twitch 10 = .ok (.aload_n 0, 1) := dc_42 (by decide +kernel)
theorem d_Mod_twitch_11 : decode b_Mod_twitch 11 = .ok (.aload_n 0, 1) := dc_42 (by decide +kernel)
theorem d_Mod_twitch_12 : decode b_Mod_twitch 12 = .ok (.getfield 7, 3) := dc_180 (a := 0) (b := 7) (by decide +kernel) rfl
theorem d_Mod_twitch_15 : decode b_Mod_twitch 15 = .ok (.bipush 84, 2) := dc_16 (a := 84) (by decide +kernel) rfl
theorem d_Mod_twitch_17 : decode b_Mod_twitch 17 = .ok (.iaload, 1) := dc_46 (by decide +kernel)
theorem d_Mod_twitch_18 : decode b_Mod_twitch 18 = .ok (.aload_n 0, 1) := dc_42 (by decide +kernel)
theorem d_Mod_twitch_19 : decode b_Mod_twitch 19 = .ok (.getfield 7, 3) := dc_180 (a := 0) (b := 7) (by decide +kernel) rfl
theorem d_Mod_twitch_22 : decode b_Mod_twitch 22 = .ok (.bipush 85, 2) := dc_16 (a := 85) (by decide +kernel) rfl
theorem d_Mod_twitch_24 : decode b_Mod_twitch 24 = .ok (.iaload, 1) := dc_46 (by decide +kernel)
theorem d_Mod_twitch_25 : decode b_Mod_twitch 25 = .ok (.iload_n 1, 1) := dc_27 (by decide +kernel)
theorem d_Mod_twitch_26 : decode b_Mod_twitch 26 = .ok (.iload_n 2, 1) := dc_28 (by decide +kernel)
theorem d_Mod_twitch_27 : decode b_Mod_twitch 27 = .ok (.iload_n 3, 1) := dc_29 (by decide +kernel)
theorem d_Mod_twitch_28 : decode b_Mod_twitch 28 = .ok (.invokevirtual 229, 3) := dc_182 (a := 0) (b := 229) (by decide +kernel) rfl
theorem d_Mod_twitch_31 : decode b_Mod_twitch 31 = .ok (.invokestatic 196, 3) := dc_184 (a := 0) (b := 196) (by decide +kernel) rfl
theorem d_Mod_twitch_34 : decode b_Mod_twitch 34 = .ok (.goto 4, 3) := dc_167 (a := 0) (b := 4) (by decide +kernel) rfl
theorem d_Mod_twitch_37 : decode b_Mod_twitch 37 = .ok (.iconst (-1), 1) := dc_2 (by decide +kernel)
theorem d_Mod_twitch_38 : decode b_Mod_twitch 38 = .ok (.ireturn, 1) := dc_172 (by decide +kernel)
abbrev q_Mod_twitch (h : Hp) (c : Int32) (cZ : Int) (o : Int32) (oZ : Int) (s : Int32) (sZ : Int) (w : Int32) (wZ : Int) (g : Int32) (gZ : Int) : Option Value → Hp → Prop := pInt (fun r h' => h = h')
set_option maxRecDepth 100000 in
theorem c_Mod_twitch (h : Hp) (hI : Inv h) (c : Int32) (cZ : Int) (cE : c.toInt = cZ) (o : Int32) (oZ : Int) (oE : o.toInt = oZ) (s : Int32) (sZ : Int) (sE : s.toInt = sZ) (w : Int32) (wZ : Int) (wE : w.toInt = wZ) (wK : h.1 116 2 = w) (g : Int32) (gZ : Int) (gE : g.toInt = gZ) (gK : h.1 116 3 = g) : Ct y_Mod_twitch b_Mod_twitch 4 (some .int) 3 69 [.ref 116, .int c, .int o, .int s] h (q_Mod_twitch h c cZ o oZ s sZ w wZ g gZ) := by
  refine ct_ow R_Mod [some (.ref 116), some (.int c), some (.int o), some (.int s)] rfl (by decide) rfl (Nat.le_of_ble_eq_true rfl) ?_
  have f0 : fr [] h h := fr_rf
  have g1 : 2 ≤ wZ ∧ wZ ≤ 4 := inv_at hI wE wK.symm rfl
  have g2 : 2 ≤ gZ ∧ gZ ≤ 4 := inv_at hI gE gK.symm rfl
  refine V_aload_n 0 d_Mod_twitch_0 rfl rfl ?_
  refine V_iload_n 1 d_Mod_twitch_1 rfl rfl ?_
  refine V_iload_n 2 d_Mod_twitch_2 rfl rfl ?_
  refine V_iload_n 3 d_Mod_twitch_3 rfl rfl ?_
  refine N_callVI [.int c, .int o, .int s] [] cv_Mod_226 sk_116 rfl d_Mod_twitch_4 rfl (Nat.le_of_ble_eq_true rfl) (by decide) (by decide) (c_Mod_isSeen h hI c cZ cE o oZ oE s sZ sE w wZ wE wK g gZ gE gK) (fun z3 h4 z3Z z3E p5 => ?_)
  obtain ⟨eh4, p5⟩ := p5
  subst eh4
  refine V_if_eq 37 z3E d_Mod_twitch_7 (by decide) (fun c6 => ?_) (fun c6 => ?_)
  ·
    refine V_iconst (-1) d_Mod_twitch_37 (by decide) ?_
    exact V_iret rfl d_Mod_twitch_38 ⟨(-1), rfl, rfl⟩
  ·
    refine V_aload_n 0 d_Mod_twitch_10 rfl rfl ?_
    refine V_aload_n 0 d_Mod_twitch_11 rfl rfl ?_
    refine V_getR fa_Mod_7 sk_116 rfl d_Mod_twitch_12 ?_
    refine V_bipush 84 d_Mod_twitch_15 (by decide) ?_
    refine N_iald sk_117 tc_84 (by omega) d_Mod_twitch_17 (fun z7 z7Z z7E z7e => ?_)
    refine V_aload_n 0 d_Mod_twitch_18 rfl rfl ?_
    refine V_getR fa_Mod_7 sk_116 rfl d_Mod_twitch_19 ?_
    refine V_bipush 85 d_Mod_twitch_22 (by decide) ?_
    refine N_iald sk_117 tc_85 (by omega) d_Mod_twitch_24 (fun z8 z8Z z8E z8e => ?_)
    refine V_iload_n 1 d_Mod_twitch_25 rfl rfl ?_
    refine V_iload_n 2 d_Mod_twitch_26 rfl rfl ?_
    refine V_iload_n 3 d_Mod_twitch_27 rfl rfl ?_
    refine N_callVI [.int z7, .int z8, .int c, .int o, .int s] [] cv_Mod_229 sk_116 rfl d_Mod_twitch_28 rfl (Nat.le_of_ble_eq_true rfl) (by decide) (by decide) (c_Mod_doesTwitch h hI z7 z7Z z7E z8 z8Z z8E c cZ cE o oZ oE s sZ sE (by omega)) (fun z9 h10 z9Z z9E p11 => ?_)
    obtain ⟨eh10, p11⟩ := p11
    subst eh10
    refine N_callSI [.int z9] [] cs_Mod_196 d_Mod_twitch_31 rfl (Nat.le_of_ble_eq_true rfl) (by decide) (by decide) (c_Mod_flag h z9 z9Z z9E) (fun z12 h13 z12Z z12E p14 => ?_)
    obtain ⟨eh13, p14⟩ := p14
    subst eh13
    refine V_goto 38 d_Mod_twitch_34 (by decide) ?_
    exact V_iret rfl d_Mod_twitch_38 ⟨z12, rfl, rfl⟩
theorem d_Mod_see_0 : decode b_Mod_see 0 = .ok (.aload_n 0, 1) := dc_42 (by decide +kernel)
theorem d_Mod_see_1 : decode b_Mod_see 1 = .ok (.iload_n 1, 1) := dc_27 (by decide +kernel)
theorem d_Mod_see_2 : decode b_Mod_see 2 = .ok (.iload_n 2, 1) := dc_28 (by decide +kernel)
theorem d_Mod_see_3 : decode b_Mod_see 3 = .ok (.iload_n 3, 1) := dc_29 (by decide +kernel)
theorem d_Mod_see_4 : decode b_Mod_see 4 = .ok (.invokevirtual 226, 3) := dc_182 (a := 0) (b := 226) (by decide +kernel) rfl
theorem d_Mod_see_7 : decode b_Mod_see 7 = .ok (.ifCond .ne 5, 3) := dc_154 (a := 0) (b := 5) (by decide +kernel) rfl
theorem d_Mod_see_10 : decode b_Mod_see 10 = .ok (.iconst (-1), 1) := dc_2 (by decide +kernel)
theorem d_Mod_see_11 : decode b_Mod_see 11 = .ok (.ireturn, 1) := dc_172 (by decide +kernel)
theorem d_Mod_see_12 : decode b_Mod_see 12 = .ok (.aload_n 0, 1) := dc_42 (by decide +kernel)
theorem d_Mod_see_13 : decode b_Mod_see 13 = .ok (.getfield 7, 3) := dc_180 (a := 0) (b := 7) (by decide +kernel) rfl
theorem d_Mod_see_16 : decode b_Mod_see 16 = .ok (.bipush 111, 2) := dc_16 (a := 111) (by decide +kernel) rfl
theorem d_Mod_see_18 : decode b_Mod_see 18 = .ok (.iaload, 1) := dc_46 (by decide +kernel)
theorem d_Mod_see_19 : decode b_Mod_see 19 = .ok (.bipush 8, 2) := dc_16 (a := 8) (by decide +kernel) rfl
theorem d_Mod_see_21 : decode b_Mod_see 21 = .ok (.if_icmp .ne 6, 3) := dc_160 (a := 0) (b := 6) (by decide +kernel) rfl
theorem d_Mod_see_24 : decode b_Mod_see 24 = .ok (.bipush (-3), 2) := dc_16 (a := 253) (by decide +kernel) rfl
theorem d_Mod_see_26 : decode b_Mod_see 26 = .ok (.ireturn, 1) := dc_172 (by decide +kernel)
theorem d_Mod_see_27 : decode b_Mod_see 27 = .ok (.bipush 112, 2) := dc_16 (a := 112) (by decide +kernel) rfl
theorem d_Mod_see_29 : decode b_Mod_see 29 = .ok (.iconst 4, 1) := dc_7 (by decide +kernel)
theorem d_Mod_see_30 : decode b_Mod_see 30 = .ok (.aload_n 0, 1) := dc_42 (by decide +kernel)
theorem d_Mod_see_31 : decode b_Mod_see 31 = .ok (.getfield 7, 3) := dc_180 (a := 0) (b := 7) (by decide +kernel) rfl
theorem d_Mod_see_34 : decode b_Mod_see 34 = .ok (.bipush 111, 2) := dc_16 (a := 111) (by decide +kernel) rfl
theorem d_Mod_see_36 : decode b_Mod_see 36 = .ok (.iaload, 1) := dc_46 (by decide +kernel)
theorem d_Mod_see_37 : decode b_Mod_see 37 = .ok (.imul, 1) := dc_104 (by decide +kernel)
theorem d_Mod_see_38 : decode b_Mod_see 38 = .ok (.iadd, 1) := dc_96 (by decide +kernel)
theorem d_Mod_see_39 : decode b_Mod_see 39 = .ok (.istore 5, 2) := dc_54 (a := 5) (by decide +kernel) rfl
theorem d_Mod_see_41 : decode b_Mod_see 41 = .ok (.aload_n 0, 1) := dc_42 (by decide +kernel)
theorem d_Mod_see_42 : decode b_Mod_see 42 = .ok (.getfield 7, 3) := dc_180 (a := 0) (b := 7) (by decide +kernel) rfl
theorem d_Mod_see_45 : decode b_Mod_see 45 = .ok (.iload 5, 2) := dc_21 (a := 5) (by decide +kernel) rfl
theorem d_Mod_see_47 : decode b_Mod_see 47 = .ok (.iload_n 1, 1) := dc_27 (by decide +kernel)
theorem d_Mod_see_48 : decode b_Mod_see 48 = .ok (.iastore, 1) := dc_79 (by decide +kernel)
theorem d_Mod_see_49 : decode b_Mod_see 49 = .ok (.aload_n 0, 1) := dc_42 (by decide +kernel)
theorem d_Mod_see_50 : decode b_Mod_see 50 = .ok (.getfield 7, 3) := dc_180 (a := 0) (b := 7) (by decide +kernel) rfl
theorem d_Mod_see_53 : decode b_Mod_see 53 = .ok (.iload 5, 2) := dc_21 (a := 5) (by decide +kernel) rfl
theorem d_Mod_see_55 : decode b_Mod_see 55 = .ok (.iconst 1, 1) := dc_4 (by decide +kernel)
theorem d_Mod_see_56 : decode b_Mod_see 56 = .ok (.iadd, 1) := dc_96 (by decide +kernel)
theorem d_Mod_see_57 : decode b_Mod_see 57 = .ok (.iload_n 2, 1) := dc_28 (by decide +kernel)
theorem d_Mod_see_58 : decode b_Mod_see 58 = .ok (.iastore, 1) := dc_79 (by decide +kernel)
theorem d_Mod_see_59 : decode b_Mod_see 59 = .ok (.aload_n 0, 1) := dc_42 (by decide +kernel)
theorem d_Mod_see_60 : decode b_Mod_see 60 = .ok (.getfield 7, 3) := dc_180 (a := 0) (b := 7) (by decide +kernel) rfl
theorem d_Mod_see_63 : decode b_Mod_see 63 = .ok (.iload 5, 2) := dc_21 (a := 5) (by decide +kernel) rfl
theorem d_Mod_see_65 : decode b_Mod_see 65 = .ok (.iconst 2, 1) := dc_5 (by decide +kernel)
theorem d_Mod_see_66 : decode b_Mod_see 66 = .ok (.iadd, 1) := dc_96 (by decide +kernel)
theorem d_Mod_see_67 : decode b_Mod_see 67 = .ok (.iload_n 3, 1) := dc_29 (by decide +kernel)
theorem d_Mod_see_68 : decode b_Mod_see 68 = .ok (.iastore, 1) := dc_79 (by decide +kernel)
theorem d_Mod_see_69 : decode b_Mod_see 69 = .ok (.aload_n 0, 1) := dc_42 (by decide +kernel)
theorem d_Mod_see_70 : decode b_Mod_see 70 = .ok (.getfield 7, 3) := dc_180 (a := 0) (b := 7) (by decide +kernel) rfl
theorem d_Mod_see_73 : decode b_Mod_see 73 = .ok (.iload 5, 2) := dc_21 (a := 5) (by decide +kernel) rfl
theorem d_Mod_see_75 : decode b_Mod_see 75 = .ok (.iconst 3, 1) := dc_6 (by decide +kernel)
theorem d_Mod_see_76 : decode b_Mod_see 76 = .ok (.iadd, 1) := dc_96 (by decide +kernel)
theorem d_Mod_see_77 : decode b_Mod_see 77 = .ok (.iload 4, 2) := dc_21 (a := 4) (by decide +kernel) rfl
theorem d_Mod_see_79 : decode b_Mod_see 79 = .ok (.invokestatic 196, 3) := dc_184 (a := 0) (b := 196) (by decide +kernel) rfl
theorem d_Mod_see_82 : decode b_Mod_see 82 = .ok (.iastore, 1) := dc_79 (by decide +kernel)
theorem d_Mod_see_83 : decode b_Mod_see 83 = .ok (.aload_n 0, 1) := dc_42 (by decide +kernel)
theorem d_Mod_see_84 : decode b_Mod_see 84 = .ok (.getfield 7, 3) := dc_180 (a := 0) (b := 7) (by decide +kernel) rfl
theorem d_Mod_see_87 : decode b_Mod_see 87 = .ok (.bipush 111, 2) := dc_16 (a := 111) (by decide +kernel) rfl
theorem d_Mod_see_89 : decode b_Mod_see 89 = .ok (.dup2, 1) := dc_92 (by decide +kernel)
theorem d_Mod_see_90 : decode b_Mod_see 90 = .ok (.iaload, 1) := dc_46 (by decide +kernel)
theorem d_Mod_see_91 : decode b_Mod_see 91 = .ok (.iconst 1, 1) := dc_4 (by decide +kernel)
theorem d_Mod_see_92 : decode b_Mod_see 92 = .ok (.iadd, 1) := dc_96 (by decide +kernel)
theorem d_Mod_see_93 : decode b_Mod_see 93 = .ok (.iastore, 1) := dc_79 (by decide +kernel)
theorem d_Mod_see_94 : decode b_Mod_see 94 = .ok (.aload_n 0, 1) := dc_42 (by decide +kernel)
theorem d_Mod_see_95 : decode b_Mod_see 95 = .ok (.getfield 7, 3) := dc_180 (a := 0) (b := 7) (by decide +kernel) rfl
theorem d_Mod_see_98 : decode b_Mod_see 98 = .ok (.bipush 111, 2) := dc_16 (a := 111) (by decide +kernel) rfl
theorem d_Mod_see_100 : decode b_Mod_see 100 = .ok (.iaload, 1) := dc_46 (by decide +kernel)
theorem d_Mod_see_101 : decode b_Mod_see 101 = .ok (.ireturn, 1) := dc_172 (by decide +kernel)
theorem d_Mod_forget_0 : decode b_Mod_forget 0 = .ok (.iload_n 1, 1) := dc_27 (by decide +kernel)
theorem d_Mod_forget_1 : decode b_Mod_forget 1 = .ok (.i2l, 1) := dc_133 (by decide +kernel)
theorem d_Mod_forget_2 : decode b_Mod_forget 2 = .ok (.lconst 0, 1) := dc_9 (by decide +kernel)
theorem d_Mod_forget_3 : decode b_Mod_forget 3 = .ok (.aload_n 0, 1) := dc_42 (by decide +kernel)
theorem d_Mod_forget_4 : decode b_Mod_forget 4 = .ok (.getfield 7, 3) := dc_180 (a := 0) (b := 7) (by decide +kernel) rfl
theorem d_Mod_forget_7 : decode b_Mod_forget 7 = .ok (.bipush 111, 2) := dc_16 (a := 111) (by decide +kernel) rfl
theorem d_Mod_forget_9 : decode b_Mod_forget 9 = .ok (.iaload, 1) := dc_46 (by decide +kernel)
theorem d_Mod_forget_10 : decode b_Mod_forget 10 = .ok (.i2l, 1) := dc_133 (by decide +kernel)
theorem d_Mod_forget_11 : decode b_Mod_forget 11 = .ok (.invokestatic 95, 3) := dc_184 (a := 0) (b := 95) (by decide +kernel) rfl
theorem d_Mod_forget_14 : decode b_Mod_forget 14 = .ok (.ifCond .eq 13, 3) := dc_153 (a := 0) (b := 13) (by decide +kernel) rfl
theorem d_Mod_forget_17 : decode b_Mod_forget 17 = .ok (.aload_n 0, 1) := dc_42 (by decide +kernel)
theorem d_Mod_forget_18 : decode b_Mod_forget 18 = .ok (.bipush 111, 2) := dc_16 (a := 111) (by decide +kernel) rfl
theorem d_Mod_forget_20 : decode b_Mod_forget 20 = .ok (.iload_n 1, 1) := dc_27 (by decide +kernel)
theorem d_Mod_forget_21 : decode b_Mod_forget 21 = .ok (.invokevirtual 210, 3) := dc_182 (a := 0) (b := 210) (by decide +kernel) rfl
theorem d_Mod_forget_24 : decode b_Mod_forget 24 = .ok (.goto 4, 3) := dc_167 (a := 0) (b := 4) (by decide +kernel) rfl
theorem d_Mod_forget_27 : decode b_Mod_forget 27 = .ok (.iconst (-1), 1) := dc_2 (by decide +kernel)
theorem d_Mod_forget_28 : decode b_Mod_forget 28 = .ok (.ireturn, 1) := dc_172 (by decide +kernel)
theorem d_Mod_doesFit_0 : decode b_Mod_doesFit 0 = .ok (.iconst 1, 1) := dc_4 (by decide +kernel)
theorem d_Mod_doesFit_1 : decode b_Mod_doesFit 1 = .ok (.istore_n 3, 1) := dc_62 (by decide +kernel)
theorem d_Mod_doesFit_2 : decode b_Mod_doesFit 2 = .ok (.iconst 0, 1) := dc_3 (by decide +kernel)
theorem d_Mod_doesFit_3 : decode b_Mod_doesFit 3 = .ok (.istore 4, 2) := dc_54 (a := 4) (by decide +kernel) rfl
theorem d_Mod_doesFit_5 : decode b_Mod_doesFit 5 = .ok (.iload 4, 2) := dc_21 (a := 4) (by decide +kernel) rfl
theorem d_Mod_doesFit_7 : decode b_Mod_doesFit 7 = .ok (.aload_n 0, 1) := dc_42 (by decide +kernel)
theorem d_Mod_doesFit_8 : decode b_Mod_doesFit 8 = .ok (.getfield 7, 3) := dc_180 (a := 0) (b := 7) (by decide +kernel) rfl
theorem d_Mod_doesFit_11 : decode b_Mod_doesFit 11 = .ok (.bipush 111, 2) := dc_16 (a := 111) (by decide +kernel) rfl
theorem d_Mod_doesFit_13 : decode b_Mod_doesFit 13 = .ok (.iaload, 1) := dc_46 (by decide +kernel)
theorem d_Mod_doesFit_14 : decode b_Mod_doesFit 14 = .ok (.if_icmp .ge 74, 3) := dc_162 (a := 0) (b := 74) (by decide +kernel) rfl
theorem d_Mod_doesFit_17 : decode b_Mod_doesFit 17 = .ok (.bipush 112, 2) := dc_16 (a := 112) (by decide +kernel) rfl
theorem d_Mod_doesFit_19 : decode b_Mod_doesFit 19 = .ok (.iconst 4, 1) := dc_7 (by decide +kernel)
theorem d_Mod_doesFit_20 : decode b_Mod_doesFit 20 = .ok (.iload 4, 2) := dc_21 (a := 4) (by decide +kernel) rfl
theorem d_Mod_doesFit_22 : decode b_Mod_doesFit 22 = .ok (.imul, 1) := dc_104 (by decide +kernel)
theorem d_Mod_doesFit_23 : decode b_Mod_doesFit 23 = .ok (.iadd, 1) := dc_96 (by decide +kernel)
theorem d_Mod_doesFit_24 : decode b_Mod_doesFit 24 = .ok (.istore 5, 2) := dc_54 (a := 5) (by decide +kernel) rfl
theorem d_Mod_doesFit_26 : decode b_Mod_doesFit 26 = .ok (.iload_n 3, 1) := dc_29 (by decide +kernel)
theorem d_Mod_doesFit_27 : decode b_Mod_doesFit 27 = .ok (.ifCond .eq 53, 3) := dc_153 (a := 0) (b := 53) (by decide +kernel) rfl
theorem d_Mod_doesFit_30 : decode b_Mod_doesFit 30 = .ok (.aload_n 0, 1) := dc_42 (by decide +kernel)
theorem d_Mod_doesFit_31 : decode b_Mod_doesFit 31 = .ok (.iload_n 1, 1) := dc_27 (by decide +kernel)
theorem d_Mod_doesFit_32 : decode b_Mod_doesFit 32 = .ok (.iload_n 2, 1) := dc_28 (by decide +kernel)
theorem d_Mod_doesFit_33 : decode b_Mod_doesFit 33 = .ok (.aload_n 0, 1) := dc_42 (by decide +kernel)
theorem d_Mod_doesFit_34 : decode b_Mod_doesFit 34 = .ok (.getfield 7, 3) := dc_180 (a := 0) (b := 7) (by decide +kernel) rfl
theorem d_Mod_doesFit_37 : decode b_Mod_doesFit 37 = .ok (.iload 5, 2) := dc_21 (a := 5) (by decide +kernel) rfl
theorem d_Mod_doesFit_39 : decode b_Mod_doesFit 39 = .ok (.iaload, 1) := dc_46 (by decide +kernel)
theorem d_Mod_doesFit_40 : decode b_Mod_doesFit 40 = .ok (.aload_n 0, 1) := dc_42 (by decide +kernel)
theorem d_Mod_doesFit_41 : decode b_Mod_doesFit 41 = .ok (.getfield 7, 3) := dc_180 (a := 0) (b := 7) (by decide +kernel) rfl
theorem d_Mod_doesFit_44 : decode b_Mod_doesFit 44 = .ok (.iload 5, 2) := dc_21 (a := 5) (by decide +kernel) rfl
theorem d_Mod_doesFit_46 : decode b_Mod_doesFit 46 = .ok (.iconst 1, 1) := dc_4 (by decide +kernel)
theorem d_Mod_doesFit_47 : decode b_Mod_doesFit 47 = .ok (.iadd, 1) := dc_96 (by decide +kernel)
theorem d_Mod_doesFit_48 : decode b_Mod_doesFit 48 = .ok (.iaload, 1) := dc_46 (by decide +kernel)
theorem d_Mod_doesFit_49 : decode b_Mod_doesFit 49 = .ok (.aload_n 0, 1) := dc_42 (by decide +kernel)
theorem d_Mod_doesFit_50 : decode b_Mod_doesFit 50 = .ok (.getfield 7, 3) := dc_180 (a := 0) (b := 7) (by decide +kernel) rfl
theorem d_Mod_doesFit_53 : decode b_Mod_doesFit 53 = .ok (.iload 5, 2) := dc_21 (a := 5) (by decide +kernel) rfl
theorem d_Mod_doesFit_55 : decode b_Mod_doesFit 55 = .ok (.iconst 2, 1) := dc_5 (by decide +kernel)
theorem d_Mod_doesFit_56 : decode b_Mod_doesFit 56 = .ok (.iadd, 1) := dc_96 (by decide +kernel)
theorem d_Mod_doesFit_57 : decode b_Mod_doesFit 57 = .ok (.iaload, 1) := dc_46 (by decide +kernel)
theorem d_Mod_doesFit_58 : decode b_Mod_doesFit 58 = .ok (.invokevirtual 229, 3) := dc_182 (a := 0) (b := 229) (by decide +kernel) rfl
theorem d_Mod_doesFit_61 : decode b_Mod_doesFit 61 = .ok (.invokestatic 196, 3) := dc_184 (a := 0) (b := 196) (by decide +kernel) rfl
theorem d_Mod_doesFit_64 : decode b_Mod_doesFit 64 = .ok (.aload_n 0, 1) := dc_42 (by decide +kernel)
theorem d_Mod_doesFit_65 : decode b_Mod_doesFit 65 = .ok (.getfield 7, 3) := dc_180 (a := 0) (b := 7) (by decide +kernel) rfl
theorem d_Mod_doesFit_68 : decode b_Mod_doesFit 68 = .ok (.iload 5, 2) := dc_21 (a := 5) (by decide +kernel) rfl
theorem d_Mod_doesFit_70 : decode b_Mod_doesFit 70 = .ok (.iconst 3, 1) := dc_6 (by decide +kernel)
theorem d_Mod_doesFit_71 : decode b_Mod_doesFit 71 = .ok (.iadd, 1) := dc_96 (by decide +kernel)
theorem d_Mod_doesFit_72 : decode b_Mod_doesFit 72 = .ok (.iaload, 1) := dc_46 (by decide +kernel)
theorem d_Mod_doesFit_73 : decode b_Mod_doesFit 73 = .ok (.if_icmp .ne 7, 3) := dc_160 (a := 0) (b := 7) (by decide +kernel) rfl
theorem d_Mod_doesFit_76 : decode b_Mod_doesFit 76 = .ok (.iconst 1, 1) := dc_4 (by decide +kernel)
theorem d_Mod_doesFit_77 : decode b_Mod_doesFit 77 = .ok (.goto 4, 3) := dc_167 (a := 0) (b := 4) (by decide +kernel) rfl
theorem d_Mod_doesFit_80 : decode b_Mod_doesFit 80 = .ok (.iconst 0, 1) := dc_3 (by decide +kernel)
theorem d_Mod_doesFit_81 : decode b_Mod_doesFit 81 = .ok (.istore_n 3, 1) := dc_62 (by decide +kernel)
theorem d_Mod_doesFit_82 : decode b_Mod_doesFit 82 = .ok (.iinc 4 1, 3) := dc_132 (a := 4) (b := 1) (by decide +kernel) rfl
theorem d_Mod_doesFit_85 : decode b_Mod_doesFit 85 = .ok (.goto (-80), 3) := dc_167 (a := 255) (b := 176) (by decide +kernel) rfl
theorem d_Mod_doesFit_88 : decode b_Mod_doesFit 88 = .ok (.iload_n 3, 1) := dc_29 (by decide +kernel)
theorem d_Mod_doesFit_89 : decode b_Mod_doesFit 89 = .ok (.ireturn, 1) := dc_172 (by decide +kernel)
abbrev q_Mod_doesFit (h : Hp) (n : Int32) (nZ : Int) (d : Int32) (dZ : Int) : Option Value → Hp → Prop := pInt (fun r h' => h = h' ∧ (r.toInt = 0 ∨ r.toInt = 1))
set_option maxRecDepth 100000 in
theorem c_Mod_doesFit (h : Hp) (hI : Inv h) (n : Int32) (nZ : Int) (nE : n.toInt = nZ) (d : Int32) (dZ : Int) (dE : d.toInt = dZ) : Ct y_Mod_doesFit b_Mod_doesFit 6 (some .boolean) 1 27 [.ref 116, .int n, .int d] h (q_Mod_doesFit h n nZ d dZ) := by
  refine ct_ow R_Mod [some (.ref 116), some (.int n), some (.int d), none, none, none] rfl (by decide) rfl (Nat.le_of_ble_eq_true rfl) ?_
  have f0 : fr [] h h := fr_rf
  refine V_iconst 1 d_Mod_doesFit_0 (by decide) ?_
  refine V_istore_n 3 [some (.ref 116), some (.int n), some (.int d), some (.int 1), none, none] d_Mod_doesFit_1 rfl (by decide) rfl rfl ?_
  refine V_iconst 0 d_Mod_doesFit_2 (by decide) ?_
  refine V_istore 4 [some (.ref 116), some (.int n), some (.int d), some (.int 1), some (.int 0), none] d_Mod_doesFit_3 (by decide) rfl rfl ?_
  have L1 : ∀ (nn : Nat) (v3 : Int32) (v3Z : Int) (v4 : Int32) (v4Z : Int), v3.toInt = v3Z → v4.toInt = v4Z → 0 ≤ v3Z ∧ v3Z ≤ 1 → 0 ≤ v4Z ∧ v4Z ≤ 8 → 8 - v4Z < (nn : Int) → V R_Mod b_Mod_doesFit 6 (some .boolean) 1 27 (q_Mod_doesFit h n nZ d dZ) h 5 [some (.ref 116), some (.int n), some (.int d), some (.int v3), some (.int v4), none] [] := by
    intro nn
    induction nn with
    | zero => intro v3 v3Z v4 v4Z v3E v4E q5 q6 hm7; exact absurd hm7 (by omega)
    | succ nn ihL1 =>
      intro v3 v3Z v4 v4Z v3E v4E q5 q6 hm7
      refine V_iload d_Mod_doesFit_5 rfl ?_
      refine V_aload_n 0 d_Mod_doesFit_7 rfl rfl ?_
      refine V_getR fa_Mod_7 sk_116 rfl d_Mod_doesFit_8 ?_
      refine V_bipush 111 d_Mod_doesFit_11 (by decide) ?_
      refine N_iald sk_117 tc_111 (by omega) d_Mod_doesFit_13 (fun z8 z8Z z8E z8e => ?_)
      have g9 : 0 ≤ z8Z ∧ z8Z ≤ 8 := inv_at hI z8E z8e rfl
      refine V_icmp_ge 88 v4E z8E d_Mod_doesFit_14 (by decide) (fun c10 => ?_) (fun c10 => ?_)
      ·
        refine V_iload_n 3 d_Mod_doesFit_88 rfl rfl ?_
        exact V_zret rfl (by rw [v3E]; omega) d_Mod_doesFit_89 ⟨v3, rfl, ⟨rfl, (by (try rw [v3E]); omega)⟩⟩
      ·
        refine V_bipush 112 d_Mod_doesFit_17 (by decide) ?_
        refine V_iconst 4 d_Mod_doesFit_19 (by decide) ?_
        refine V_iload d_Mod_doesFit_20 rfl ?_
        refine V_imul tc_4 v4E (by omega) d_Mod_doesFit_22 (fun z11 z11e z11E => ?_)
        refine V_iadd tc_112 z11E (by omega) d_Mod_doesFit_23 (fun z12 z12e z12E => ?_)
        refine V_istore 5 [some (.ref 116), some (.int n), some (.int d), some (.int v3), some (.int v4), some (.int z12)] d_Mod_doesFit_24 (by decide) rfl rfl ?_
        refine V_iload_n 3 d_Mod_doesFit_26 rfl rfl ?_
        refine V_if_eq 80 v3E d_Mod_doesFit_27 (by decide) (fun c13 => ?_) (fun c13 => ?_)
        ·
          refine V_iconst 0 d_Mod_doesFit_80 (by decide) ?_
          refine V_istore_n 3 [some (.ref 116), some (.int n), some (.int d), some (.int 0), some (.int v4), some (.int z12)] d_Mod_doesFit_81 rfl (by decide) rfl rfl ?_
          obtain ⟨z14, z14E, z14e⟩ : ∃ y : Int32, y.toInt = v4Z + 1 ∧ y = v4 + Int32.ofInt 1 := ⟨_, ti_add v4E (by decide) (by omega), rfl⟩
          refine V_iinc 4 [some (.ref 116), some (.int n), some (.int d), some (.int 0), some (.int z14), some (.int z12)] d_Mod_doesFit_82 rfl z14e.symm (by decide) rfl rfl ?_
          refine V_goto 5 d_Mod_doesFit_85 (by decide) ?_
          refine V_drop 5 [some (.ref 116), some (.int n), some (.int d), some (.int 0), some (.int z14), none] rfl ?_
          exact ihL1 0 0 z14 ((v4Z + 1)) tc_0 z14E (by omega) (by omega) (by omega)
        ·
          refine V_aload_n 0 d_Mod_doesFit_30 rfl rfl ?_
          refine V_iload_n 1 d_Mod_doesFit_31 rfl rfl ?_
          refine V_iload_n 2 d_Mod_doesFit_32 rfl rfl ?_
          refine V_aload_n 0 d_Mod_doesFit_33 rfl rfl ?_
          refine V_getR fa_Mod_7 sk_116 rfl d_Mod_doesFit_34 ?_
          refine V_iload d_Mod_doesFit_37 rfl ?_
          refine N_iald sk_117 z12E (by omega) d_Mod_doesFit_39 (fun z15 z15Z z15E z15e => ?_)
          have g16 : 0 ≤ z15Z ∧ z15Z ≤ 15 := inv_at hI z15E z15e (st_c (by omega))
          refine V_aload_n 0 d_Mod_doesFit_40 rfl rfl ?_
          refine V_getR fa_Mod_7 sk_116 rfl d_Mod_doesFit_41 ?_
          refine V_iload d_Mod_doesFit_44 rfl ?_
          refine V_iconst 1 d_Mod_doesFit_46 (by decide) ?_
          refine V_iadd z12E tc_1 (by omega) d_Mod_doesFit_47 (fun z17 z17e z17E => ?_)
          refine N_iald sk_117 z17E (by omega) d_Mod_doesFit_48 (fun z18 z18Z z18E z18e => ?_)
          refine V_aload_n 0 d_Mod_doesFit_49 rfl rfl ?_
          refine V_getR fa_Mod_7 sk_116 rfl d_Mod_doesFit_50 ?_
          refine V_iload d_Mod_doesFit_53 rfl ?_
          refine V_iconst 2 d_Mod_doesFit_55 (by decide) ?_
          refine V_iadd z12E tc_2 (by omega) d_Mod_doesFit_56 (fun z19 z19e z19E => ?_)
          refine N_iald sk_117 z19E (by omega) d_Mod_doesFit_57 (fun z20 z20Z z20E z20e => ?_)
          refine N_callVI [.int n, .int d, .int z15, .int z18, .int z20] [] cv_Mod_229 sk_116 rfl d_Mod_doesFit_58 rfl (Nat.le_of_ble_eq_true rfl) (by decide) (by decide) (c_Mod_doesTwitch h hI n nZ nE d dZ dE z15 z15Z z15E z18 z18Z z18E z20 z20Z z20E (by omega)) (fun z21 h22 z21Z z21E p23 => ?_)
          obtain ⟨eh22, p23⟩ := p23
          subst eh22
          refine N_callSI [.int z21] [] cs_Mod_196 d_Mod_doesFit_61 rfl (Nat.le_of_ble_eq_true rfl) (by decide) (by decide) (c_Mod_flag h z21 z21Z z21E) (fun z24 h25 z24Z z24E p26 => ?_)
          obtain ⟨eh25, p26⟩ := p26
          subst eh25
          refine V_aload_n 0 d_Mod_doesFit_64 rfl rfl ?_
          refine V_getR fa_Mod_7 sk_116 rfl d_Mod_doesFit_65 ?_
          refine V_iload d_Mod_doesFit_68 rfl ?_
          refine V_iconst 3 d_Mod_doesFit_70 (by decide) ?_
          refine V_iadd z12E tc_3 (by omega) d_Mod_doesFit_71 (fun z27 z27e z27E => ?_)
          refine N_iald sk_117 z27E (by omega) d_Mod_doesFit_72 (fun z28 z28Z z28E z28e => ?_)
          refine V_icmp_ne 80 z24E z28E d_Mod_doesFit_73 (by decide) (fun c29 => ?_) (fun c29 => ?_)
          ·
            refine V_iconst 0 d_Mod_doesFit_80 (by decide) ?_
            refine V_istore_n 3 [some (.ref 116), some (.int n), some (.int d), some (.int 0), some (.int v4), some (.int z12)] d_Mod_doesFit_81 rfl (by decide) rfl rfl ?_
            obtain ⟨z30, z30E, z30e⟩ : ∃ y : Int32, y.toInt = v4Z + 1 ∧ y = v4 + Int32.ofInt 1 := ⟨_, ti_add v4E (by decide) (by omega), rfl⟩
            refine V_iinc 4 [some (.ref 116), some (.int n), some (.int d), some (.int 0), some (.int z30), some (.int z12)] d_Mod_doesFit_82 rfl z30e.symm (by decide) rfl rfl ?_
            refine V_goto 5 d_Mod_doesFit_85 (by decide) ?_
            refine V_drop 5 [some (.ref 116), some (.int n), some (.int d), some (.int 0), some (.int z30), none] rfl ?_
            exact ihL1 0 0 z30 ((v4Z + 1)) tc_0 z30E (by omega) (by omega) (by omega)
          ·
            refine V_iconst 1 d_Mod_doesFit_76 (by decide) ?_
            refine V_goto 81 d_Mod_doesFit_77 (by decide) ?_
            refine V_istore_n 3 [some (.ref 116), some (.int n), some (.int d), some (.int 1), some (.int v4), some (.int z12)] d_Mod_doesFit_81 rfl (by decide) rfl rfl ?_
            obtain ⟨z31, z31E, z31e⟩ : ∃ y : Int32, y.toInt = v4Z + 1 ∧ y = v4 + Int32.ofInt 1 := ⟨_, ti_add v4E (by decide) (by omega), rfl⟩
            refine V_iinc 4 [some (.ref 116), some (.int n), some (.int d), some (.int 1), some (.int z31), some (.int z12)] d_Mod_doesFit_82 rfl z31e.symm (by decide) rfl rfl ?_
            refine V_goto 5 d_Mod_doesFit_85 (by decide) ?_
            refine V_drop 5 [some (.ref 116), some (.int n), some (.int d), some (.int 1), some (.int z31), none] rfl ?_
            exact ihL1 1 1 z31 ((v4Z + 1)) tc_1 z31E (by omega) (by omega) (by omega)
  exact L1 (Int.toNat ((8 - 0 : Int) + 1)) 1 1 0 0 tc_1 tc_0 (by omega) (by omega) (by omega)
theorem d_Mod_reachesOf_0 : decode b_Mod_reachesOf 0 = .ok (.iload_n 0, 1) := dc_26 (by decide +kernel)
theorem d_Mod_reachesOf_1 : decode b_Mod_reachesOf 1 = .ok (.ifCond .eq 8, 3) := dc_153 (a := 0) (b := 8) (by decide +kernel) rfl
theorem d_Mod_reachesOf_4 : decode b_Mod_reachesOf 4 = .ok (.iload_n 0, 1) := dc_26 (by decide +kernel)
theorem d_Mod_reachesOf_5 : decode b_Mod_reachesOf 5 = .ok (.iconst 4, 1) := dc_7 (by decide +kernel)
theorem d_Mod_reachesOf_6 : decode b_Mod_reachesOf 6 = .ok (.if_icmp .ne 8, 3) := dc_160 (a := 0) (b := 8) (by decide +kernel) rfl
theorem d_Mod_reachesOf_9 : decode b_Mod_reachesOf 9 = .ok (.bipush 9, 2) := dc_16 (a := 9) (by decide +kernel) rfl
theorem d_Mod_reachesOf_11 : decode b_Mod_reachesOf 11 = .ok (.goto 4, 3) := dc_167 (a := 0) (b := 4) (by decide +kernel) rfl
theorem d_Mod_reachesOf_14 : decode b_Mod_reachesOf 14 = .ok (.iconst 1, 1) := dc_4 (by decide +kernel)
theorem d_Mod_reachesOf_15 : decode b_Mod_reachesOf 15 = .ok (.ireturn, 1) := dc_172 (by decide +kernel)
abbrev q_Mod_reachesOf (h : Hp) (n : Int32) (nZ : Int) : Option Value → Hp → Prop := pInt (fun r h' => h = h' ∧ (1 ≤ r.toInt ∧ r.toInt ≤ 9))
set_option maxRecDepth 100000 in
theorem c_Mod_reachesOf (h : Hp) (n : Int32) (nZ : Int) (nE : n.toInt = nZ) : Ct y_Mod_reachesOf b_Mod_reachesOf 1 (some .int) 0 0 [.int n] h (q_Mod_reachesOf h n nZ) := by
  refine ct_ow R_Mod [some (.int n)] rfl (by decide) rfl (Nat.le_of_ble_eq_true rfl) ?_
  have f0 : fr [] h h := fr_rf
  refine V_iload_n 0 d_Mod_reachesOf_0 rfl rfl ?_
  refine V_if_eq 9 nE d_Mod_reachesOf_1 (by decide) (fun c1 => ?_) (fun c1 => ?_)
  ·
    refine V_bipush 9 d_Mod_reachesOf_9 (by decide) ?_
    refine V_goto 15 d_Mod_reachesOf_11 (by decide) ?_
    exact V_iret rfl d_Mod_reachesOf_15 ⟨9, rfl, ⟨rfl, (by (try rw [show Int32.toInt 9 = 9 from rfl]); omega)⟩⟩
  ·
    refine V_iload_n 0 d_Mod_reachesOf_4 rfl rfl ?_
    refine V_iconst 4 d_Mod_reachesOf_5 (by decide) ?_
    refine V_icmp_ne 14 nE tc_4 d_Mod_reachesOf_6 (by decide) (fun c2 => ?_) (fun c2 => ?_)
    ·
      refine V_iconst 1 d_Mod_reachesOf_14 (by decide) ?_
      exact V_iret rfl d_Mod_reachesOf_15 ⟨1, rfl, ⟨rfl, (by (try rw [show Int32.toInt 1 = 1 from rfl]); omega)⟩⟩
    ·
      refine V_bipush 9 d_Mod_reachesOf_9 (by decide) ?_
      refine V_goto 15 d_Mod_reachesOf_11 (by decide) ?_
      exact V_iret rfl d_Mod_reachesOf_15 ⟨9, rfl, ⟨rfl, (by (try rw [show Int32.toInt 9 = 9 from rfl]); omega)⟩⟩
theorem d_Mod_natures_0 : decode b_Mod_natures 0 = .ok (.iconst 0, 1) := dc_3 (by decide +kernel)
theorem d_Mod_natures_1 : decode b_Mod_natures 1 = .ok (.istore_n 1, 1) := dc_60 (by decide +kernel)
theorem d_Mod_natures_2 : decode b_Mod_natures 2 = .ok (.iconst 0, 1) := dc_3 (by decide +kernel)
theorem d_Mod_natures_3 : decode b_Mod_natures 3 = .ok (.istore_n 2, 1) := dc_61 (by decide +kernel)
theorem d_Mod_natures_4 : decode b_Mod_natures 4 = .ok (.iload_n 2, 1) := dc_28 (by decide +kernel)
theorem d_Mod_natures_5 : decode b_Mod_natures 5 = .ok (.iconst 4, 1) := dc_7 (by decide +kernel)
theorem d_Mod_natures_6 : decode b_Mod_natures 6 = .ok (.if_icmp .gt 39, 3) := dc_163 (a := 0) (b := 39) (by decide +kernel) rfl
theorem d_Mod_natures_9 : decode b_Mod_natures 9 = .ok (.iconst 1, 1) := dc_4 (by decide +kernel)
theorem d_Mod_natures_10 : decode b_Mod_natures 10 = .ok (.istore_n 3, 1) := dc_62 (by decide +kernel)
theorem d_Mod_natures_11 : decode b_Mod_natures 11 = .ok (.iload_n 3, 1) := dc_29 (by decide +kernel)
theorem d_Mod_natures_12 : decode b_Mod_natures 12 = .ok (.iload_n 2, 1) := dc_28 (by decide +kernel)
theorem d_Mod_natures_13 : decode b_Mod_natures 13 = .ok (.invokestatic 233, 3) := dc_184 (a := 0) (b := 233) (by decide +kernel) rfl
theorem d_Mod_natures_16 : decode b_Mod_natures 16 = .ok (.if_icmp .gt 23, 3) := dc_163 (a := 0) (b := 23) (by decide +kernel) rfl
theorem d_Mod_natures_19 : decode b_Mod_natures 19 = .ok (.iload_n 1, 1) := dc_27 (by decide +kernel)
theorem d_Mod_natures_20 : decode b_Mod_natures 20 = .ok (.aload_n 0, 1) := dc_42 (by decide +kernel)
theorem d_Mod_natures_21 : decode b_Mod_natures 21 = .ok (.iload_n 2, 1) := dc_28 (by decide +kernel)
theorem d_Mod_natures_22 : decode b_Mod_natures 22 = .ok (.iload_n 3, 1) := dc_29 (by decide +kernel)
theorem d_Mod_natures_23 : decode b_Mod_natures 23 = .ok (.invokevirtual 236, 3) := dc_182 (a := 0) (b := 236) (by decide +kernel) rfl
theorem d_Mod_natures_26 : decode b_Mod_natures 26 = .ok (.invokestatic 196, 3) := dc_184 (a := 0) (b := 196) (by decide +kernel) rfl
theorem d_Mod_natures_29 : decode b_Mod_natures 29 = .ok (.iload_n 2, 1) := dc_28 (by decide +kernel)
theorem d_Mod_natures_30 : decode b_Mod_natures 30 = .ok (.ishl, 1) := dc_120 (by decide +kernel)
theorem d_Mod_natures_31 : decode b_Mod_natures 31 = .ok (.ior, 1) := dc_128 (by decide +kernel)
theorem d_Mod_natures_32 : decode b_Mod_natures 32 = .ok (.istore_n 1, 1) := dc_60 (by decide +kernel)
theorem d_Mod_natures_33 : decode b_Mod_natures 33 = .ok (.iinc 3 1, 3) := dc_132 (a := 3) (b := 1) (by decide +kernel) rfl
theorem d_Mod_natures_36 : decode b_Mod_natures 36 = .ok (.goto (-25), 3) := dc_167 (a := 255) (b := 231) (by decide +kernel) rfl
theorem d_Mod_natures_39 : decode b_Mod_natures 39 = .ok (.iinc 2 1, 3) := dc_132 (a := 2) (b := 1) (by decide +kernel) rfl
theorem d_Mod_natures_42 : decode b_Mod_natures 42 = .ok (.goto (-38), 3) := dc_167 (a := 255) (b := 218) (by decide +kernel) rfl
theorem d_Mod_natures_45 : decode b_Mod_natures 45 = .ok (.iload_n 1, 1) := dc_27 (by decide +kernel)
theorem d_Mod_natures_46 : decode b_Mod_natures 46 = .ok (.ireturn, 1) := dc_172 (by decide +kernel)
abbrev q_Mod_natures (h : Hp)  : Option Value → Hp → Prop := pInt (fun r h' => h = h')
set_option maxRecDepth 100000 in
theorem c_Mod_natures (h : Hp) (hI : Inv h) : Ct y_Mod_natures b_Mod_natures 4 (some .int) 2 52 [.ref 116] h (q_Mod_natures h ) := by
  refine ct_ow R_Mod [some (.ref 116), none, none, none] rfl (by decide) rfl (Nat.le_of_ble_eq_true rfl) ?_
  have f0 : fr [] h h := fr_rf
  refine V_iconst 0 d_Mod_natures_0 (by decide) ?_
  refine V_istore_n 1 [some (.ref 116), some (.int 0), none, none] d_Mod_natures_1 rfl (by decide) rfl rfl ?_
  refine V_iconst 0 d_Mod_natures_2 (by decide) ?_
  refine V_istore_n 2 [some (.ref 116), some (.int 0), some (.int 0), none] d_Mod_natures_3 rfl (by decide) rfl rfl ?_
  have L1 : ∀ (nn : Nat) (v3 : Int32) (v3Z : Int) (v4 : Int32) (v4Z : Int), v3.toInt = v3Z → v4.toInt = v4Z → 0 ≤ v4Z ∧ v4Z ≤ 5 → 5 - v4Z < (nn : Int) → V R_Mod b_Mod_natures 4 (some .int) 2 52 (q_Mod_natures h ) h 4 [some (.ref 116), some (.int v3), some (.int v4), none] [] := by
    intro nn
    induction nn with
    | zero => intro v3 v3Z v4 v4Z v3E v4E q5 hm6; exact absurd hm6 (by omega)
    | succ nn ihL1 =>
      intro v3 v3Z v4 v4Z v3E v4E q5 hm6
      refine V_iload_n 2 d_Mod_natures_4 rfl rfl ?_
      refine V_iconst 4 d_Mod_natures_5 (by decide) ?_
      refine V_icmp_gt 45 v4E tc_4 d_Mod_natures_6 (by decide) (fun c7 => ?_) (fun c7 => ?_)
      ·
        refine V_iload_n 1 d_Mod_natures_45 rfl rfl ?_
        exact V_iret rfl d_Mod_natures_46 ⟨v3, rfl, rfl⟩
      ·
        refine V_iconst 1 d_Mod_natures_9 (by decide) ?_
        refine V_istore_n 3 [some (.ref 116), some (.int v3), some (.int v4), some (.int 1)] d_Mod_natures_10 rfl (by decide) rfl rfl ?_
        have L8 : ∀ (nn : Nat) (v10 : Int32) (v10Z : Int) (v11 : Int32) (v11Z : Int), v10.toInt = v10Z → v11.toInt = v11Z → 1 ≤ v11Z ∧ v11Z ≤ 10 → 10 - v11Z < (nn : Int) → V R_Mod b_Mod_natures 4 (some .int) 2 52 (q_Mod_natures h ) h 11 [some (.ref 116), some (.int v10), some (.int v4), some (.int v11)] [] := by
          intro nn
          induction nn with
          | zero => intro v10 v10Z v11 v11Z v10E v11E q12 hm13; exact absurd hm13 (by omega)
          | succ nn ihL8 =>
            intro v10 v10Z v11 v11Z v10E v11E q12 hm13
            refine V_iload_n 3 d_Mod_natures_11 rfl rfl ?_
            refine V_iload_n 2 d_Mod_natures_12 rfl rfl ?_
            refine N_callSI [.int v4] [.int v11] cs_Mod_233 d_Mod_natures_13 rfl (Nat.le_of_ble_eq_true rfl) (by decide) (by decide) (c_Mod_reachesOf h v4 v4Z v4E) (fun z14 h15 z14Z z14E p16 => ?_)
            obtain ⟨eh15, p16⟩ := p16
            subst eh15
            refine V_icmp_gt 39 v11E z14E d_Mod_natures_16 (by decide) (fun c17 => ?_) (fun c17 => ?_)
            ·
              obtain ⟨z18, z18E, z18e⟩ : ∃ y : Int32, y.toInt = v4Z + 1 ∧ y = v4 + Int32.ofInt 1 := ⟨_, ti_add v4E (by decide) (by omega), rfl⟩
              refine V_iinc 2 [some (.ref 116), some (.int v10), some (.int z18), some (.int v11)] d_Mod_natures_39 rfl z18e.symm (by decide) rfl rfl ?_
              refine V_goto 4 d_Mod_natures_42 (by decide) ?_
              refine V_drop 3 [some (.ref 116), some (.int v10), some (.int z18), none] rfl ?_
              exact ihL1 v10 v10Z z18 ((v4Z + 1)) v10E z18E (by omega) (by omega)
            ·
              refine V_iload_n 1 d_Mod_natures_19 rfl rfl ?_
              refine V_aload_n 0 d_Mod_natures_20 rfl rfl ?_
              refine V_iload_n 2 d_Mod_natures_21 rfl rfl ?_
              refine V_iload_n 3 d_Mod_natures_22 rfl rfl ?_
              refine N_callVI [.int v4, .int v11] [.int v10] cv_Mod_236 sk_116 rfl d_Mod_natures_23 rfl (Nat.le_of_ble_eq_true rfl) (by decide) (by decide) (c_Mod_doesFit h hI v4 v4Z v4E v11 v11Z v11E) (fun z19 h20 z19Z z19E p21 => ?_)
              obtain ⟨eh20, p21⟩ := p21
              subst eh20
              refine N_callSI [.int z19] [.int v10] cs_Mod_196 d_Mod_natures_26 rfl (Nat.le_of_ble_eq_true rfl) (by decide) (by decide) (c_Mod_flag h z19 z19Z z19E) (fun z22 h23 z22Z z22E p24 => ?_)
              obtain ⟨eh23, p24⟩ := p24
              subst eh23
              refine V_iload_n 2 d_Mod_natures_29 rfl rfl ?_
              refine N_ishl d_Mod_natures_30 (fun z25 z25Z z25E z25e => ?_)
              refine N_ior d_Mod_natures_31 (fun z26 z26Z z26E z26e => ?_)
              refine V_istore_n 1 [some (.ref 116), some (.int z26), some (.int v4), some (.int v11)] d_Mod_natures_32 rfl (by decide) rfl rfl ?_
              obtain ⟨z27, z27E, z27e⟩ : ∃ y : Int32, y.toInt = v11Z + 1 ∧ y = v11 + Int32.ofInt 1 := ⟨_, ti_add v11E (by decide) (by omega), rfl⟩
              refine V_iinc 3 [some (.ref 116), some (.int z26), some (.int v4), some (.int z27)] d_Mod_natures_33 rfl z27e.symm (by decide) rfl rfl ?_
              refine V_goto 11 d_Mod_natures_36 (by decide) ?_
              exact ihL8 z26 z26Z z27 ((v11Z + 1)) z26E z27E (by omega) (by omega)
        exact L8 (Int.toNat ((10 - 1 : Int) + 1)) v3 v3Z 1 1 v3E tc_1 (by omega) (by omega)
  exact L1 (Int.toNat ((5 - 0 : Int) + 1)) 0 0 0 0 tc_0 tc_0 (by omega) (by omega)
theorem d_Mod_reaches_0 : decode b_Mod_reaches 0 = .ok (.iload_n 1, 1) := dc_27 (by decide +kernel)
theorem d_Mod_reaches_1 : decode b_Mod_reaches 1 = .ok (.i2l, 1) := dc_133 (by decide +kernel)
theorem d_Mod_reaches_2 : decode b_Mod_reaches 2 = .ok (.lconst 0, 1) := dc_9 (by decide +kernel)
theorem d_Mod_reaches_3 : decode b_Mod_reaches 3 = .ok (.ldc2_w 217, 3) := dc_20 (a := 0) (b := 217) (by decide +kernel) rfl
theorem d_Mod_reaches_6 : decode b_Mod_reaches 6 = .ok (.invokestatic 95, 3) := dc_184 (a := 0) (b := 95) (by decide +kernel) rfl
theorem d_Mod_reaches_9 : decode b_Mod_reaches 9 = .ok (.ifCond .ne 5, 3) := dc_154 (a := 0) (b := 5) (by decide +kernel) rfl
theorem d_Mod_reaches_12 : decode b_Mod_reaches 12 = .ok (.iconst (-1), 1) := dc_2 (by decide +kernel)
theorem d_Mod_reaches_13 : decode b_Mod_reaches 13 = .ok (.ireturn, 1) := dc_172 (by decide +kernel)
theorem d_Mod_reaches_14 : decode b_Mod_reaches 14 = .ok (.iconst 0, 1) := dc_3 (by decide +kernel)
theorem d_Mod_reaches_15 : decode b_Mod_reaches 15 = .ok (.istore_n 2, 1) := dc_61 (by decide +kernel)
theorem d_Mod_reaches_16 : decode b_Mod_reaches 16 = .ok (.iconst 1, 1) := dc_4 (by decide +kernel)
theorem d_Mod_reaches_17 : decode b_Mod_reaches 17 = .ok (.istore_n 3, 1) := dc_62 (by decide +kernel)
theorem d_Mod_reaches_18 : decode b_Mod_reaches 18 = .ok (.iload_n 3, 1) := dc_29 (by decide +kernel)
theorem d_Mod_reaches_19 : decode b_Mod_reaches 19 = .ok (.bipush 9, 2) := dc_16 (a := 9) (by decide +kernel) rfl
theorem d_Mod_reaches_21 : decode b_Mod_reaches 21 = .ok (.if_icmp .gt 23, 3) := dc_163 (a := 0) (b := 23) (by decide +kernel) rfl
theorem d_Mod_reaches_24 : decode b_Mod_reaches 24 = .ok (.iload_n 2, 1) := dc_28 (by decide +kernel)
theorem d_Mod_reaches_25 : decode b_Mod_reaches 25 = .ok (.aload_n 0, 1) := dc_42 (by decide +kernel)
theorem d_Mod_reaches_26 : decode b_Mod_reaches 26 = .ok (.iload_n 1, 1) := dc_27 (by decide +kernel)
theorem d_Mod_reaches_27 : decode b_Mod_reaches 27 = .ok (.iload_n 3, 1) := dc_29 (by decide +kernel)
theorem d_Mod_reaches_28 : decode b_Mod_reaches 28 = .ok (.invokevirtual 236, 3) := dc_182 (a := 0) (b := 236) (by decide +kernel) rfl
theorem d_Mod_reaches_31 : decode b_Mod_reaches 31 = .ok (.invokestatic 196, 3) := dc_184 (a := 0) (b := 196) (by decide +kernel) rfl
theorem d_Mod_reaches_34 : decode b_Mod_reaches 34 = .ok (.iload_n 3, 1) := dc_29 (by decide +kernel)
theorem d_Mod_reaches_35 : decode b_Mod_reaches 35 = .ok (.ishl, 1) := dc_120 (by decide +kernel)
theorem d_Mod_reaches_36 : decode b_Mod_reaches 36 = .ok (.ior, 1) := dc_128 (by decide +kernel)
theorem d_Mod_reaches_37 : decode b_Mod_reaches 37 = .ok (.istore_n 2, 1) := dc_61 (by decide +kernel)
theorem d_Mod_reaches_38 : decode b_Mod_reaches 38 = .ok (.iinc 3 1, 3) := dc_132 (a := 3) (b := 1) (by decide +kernel) rfl
theorem d_Mod_reaches_41 : decode b_Mod_reaches 41 = .ok (.goto (-23), 3) := dc_167 (a := 255) (b := 233) (by decide +kernel) rfl
theorem d_Mod_reaches_44 : decode b_Mod_reaches 44 = .ok (.iload_n 2, 1) := dc_28 (by decide +kernel)
theorem d_Mod_reaches_45 : decode b_Mod_reaches 45 = .ok (.ireturn, 1) := dc_172 (by decide +kernel)
abbrev q_Mod_reaches (h : Hp) (n : Int32) (nZ : Int) : Option Value → Hp → Prop := pInt (fun r h' => h = h')
set_option maxRecDepth 100000 in
theorem c_Mod_reaches (h : Hp) (hI : Inv h) (n : Int32) (nZ : Int) (nE : n.toInt = nZ) : Ct y_Mod_reaches b_Mod_reaches 4 (some .int) 2 52 [.ref 116, .int n] h (q_Mod_reaches h n nZ) := by
  refine ct_ow R_Mod [some (.ref 116), some (.int n), none, none] rfl (by decide) rfl (Nat.le_of_ble_eq_true rfl) ?_
  have f0 : fr [] h h := fr_rf
  refine V_iload_n 1 d_Mod_reaches_0 rfl rfl ?_
  refine V_i2l d_Mod_reaches_1 (fun z1 z1e z1E => ?_)
  have z1F : z1.toInt = nZ := z1E.trans nE
  refine V_lconst 0 d_Mod_reaches_2 (by decide) ?_
  refine V_ldc2 d_Mod_reaches_3 wl_Mod_217 ?_
  refine N_callSI [.long z1, .long 0, .long 4] [] cs_Mod_95 d_Mod_reaches_6 rfl (Nat.le_of_ble_eq_true rfl) (by decide) (by decide) (c_Mod_in h z1 nZ z1F 0 0 tl_0 4 4 tl_4) (fun z2 h3 z2Z z2E p4 => ?_)
  obtain ⟨eh3, p4⟩ := p4
  subst eh3
  refine V_if_ne 14 z2E d_Mod_reaches_9 (by decide) (fun c5 => ?_) (fun c5 => ?_)
  ·
    refine V_iconst 0 d_Mod_reaches_14 (by decide) ?_
    refine V_istore_n 2 [some (.ref 116), some (.int n), some (.int 0), none] d_Mod_reaches_15 rfl (by decide) rfl rfl ?_
    refine V_iconst 1 d_Mod_reaches_16 (by decide) ?_
    refine V_istore_n 3 [some (.ref 116), some (.int n), some (.int 0), some (.int 1)] d_Mod_reaches_17 rfl (by decide) rfl rfl ?_
    have L6 : ∀ (nn : Nat) (v8 : Int32) (v8Z : Int) (v9 : Int32) (v9Z : Int), v8.toInt = v8Z → v9.toInt = v9Z → 1 ≤ v9Z ∧ v9Z ≤ 10 → 10 - v9Z < (nn : Int) → V R_Mod b_Mod_reaches 4 (some .int) 2 52 (q_Mod_reaches h n nZ) h 18 [some (.ref 116), some (.int n), some (.int v8), some (.int v9)] [] := by
      intro nn
      induction nn with
      | zero => intro v8 v8Z v9 v9Z v8E v9E q10 hm11; exact absurd hm11 (by omega)
      | succ nn ihL6 =>
        intro v8 v8Z v9 v9Z v8E v9E q10 hm11
        refine V_iload_n 3 d_Mod_reaches_18 rfl rfl ?_
        refine V_bipush 9 d_Mod_reaches_19 (by decide) ?_
        refine V_icmp_gt 44 v9E tc_9 d_Mod_reaches_21 (by decide) (fun c12 => ?_) (fun c12 => ?_)
        ·
          refine V_iload_n 2 d_Mod_reaches_44 rfl rfl ?_
          exact V_iret rfl d_Mod_reaches_45 ⟨v8, rfl, rfl⟩
        ·
          refine V_iload_n 2 d_Mod_reaches_24 rfl rfl ?_
          refine V_aload_n 0 d_Mod_reaches_25 rfl rfl ?_
          refine V_iload_n 1 d_Mod_reaches_26 rfl rfl ?_
          refine V_iload_n 3 d_Mod_reaches_27 rfl rfl ?_
          refine N_callVI [.int n, .int v9] [.int v8] cv_Mod_236 sk_116 rfl d_Mod_reaches_28 rfl (Nat.le_of_ble_eq_true rfl) (by decide) (by decide) (c_Mod_doesFit h hI n nZ nE v9 v9Z v9E) (fun z13 h14 z13Z z13E p15 => ?_)
          obtain ⟨eh14, p15⟩ := p15
          subst eh14
          refine N_callSI [.int z13] [.int v8] cs_Mod_196 d_Mod_reaches_31 rfl (Nat.le_of_ble_eq_true rfl) (by decide) (by decide) (c_Mod_flag h z13 z13Z z13E) (fun z16 h17 z16Z z16E p18 => ?_)
          obtain ⟨eh17, p18⟩ := p18
          subst eh17
          refine V_iload_n 3 d_Mod_reaches_34 rfl rfl ?_
          refine N_ishl d_Mod_reaches_35 (fun z19 z19Z z19E z19e => ?_)
          refine N_ior d_Mod_reaches_36 (fun z20 z20Z z20E z20e => ?_)
          refine V_istore_n 2 [some (.ref 116), some (.int n), some (.int z20), some (.int v9)] d_Mod_reaches_37 rfl (by decide) rfl rfl ?_
          obtain ⟨z21, z21E, z21e⟩ : ∃ y : Int32, y.toInt = v9Z + 1 ∧ y = v9 + Int32.ofInt 1 := ⟨_, ti_add v9E (by decide) (by omega), rfl⟩
          refine V_iinc 3 [some (.ref 116), some (.int n), some (.int z20), some (.int z21)] d_Mod_reaches_38 rfl z21e.symm (by decide) rfl rfl ?_
          refine V_goto 18 d_Mod_reaches_41 (by decide) ?_
          exact ihL6 z20 z20Z z21 ((v9Z + 1)) z20E z21E (by omega) (by omega)
    exact L6 (Int.toNat ((10 - 1 : Int) + 1)) 0 0 1 1 tc_0 tc_1 (by omega) (by omega)
  ·
    refine V_iconst (-1) d_Mod_reaches_12 (by decide) ?_
    exact V_iret rfl d_Mod_reaches_13 ⟨(-1), rfl, rfl⟩
theorem d_Mod_rodsBy_0 : decode b_Mod_rodsBy 0 = .ok (.iconst 0, 1) := dc_3 (by decide +kernel)
theorem d_Mod_rodsBy_1 : decode b_Mod_rodsBy 1 = .ok (.istore 5, 2) := dc_54 (a := 5) (by decide +kernel) rfl
theorem d_Mod_rodsBy_3 : decode b_Mod_rodsBy 3 = .ok (.iconst 0, 1) := dc_3 (by decide +kernel)
theorem d_Mod_rodsBy_4 : decode b_Mod_rodsBy 4 = .ok (.istore 6, 2) := dc_54 (a := 6) (by decide +kernel) rfl
theorem d_Mod_rodsBy_6 : decode b_Mod_rodsBy 6 = .ok (.iload 6, 2) := dc_21 (a := 6) (by decide +kernel) rfl
theorem d_Mod_rodsBy_8 : decode b_Mod_rodsBy 8 = .ok (.iconst 4, 1) := dc_7 (by decide +kernel)
theorem d_Mod_rodsBy_9 : decode b_Mod_rodsBy 9 = .ok (.if_icmp .gt 68, 3) := dc_163 (a := 0) (b := 68) (by decide +kernel) rfl
theorem d_Mod_rodsBy_12 : decode b_Mod_rodsBy 12 = .ok (.iconst 1, 1) := dc_4 (by decide +kernel)
theorem d_Mod_rodsBy_13 : decode b_Mod_rodsBy 13 = .ok (.istore 7, 2) := dc_54 (a := 7) (by decide +kernel) rfl
theorem d_Mod_rodsBy_15 : decode b_Mod_rodsBy 15 = .ok (.iload 7, 2) := dc_21 (a := 7) (by decide +kernel) rfl
theorem d_Mod_rodsBy_17 : decode b_Mod_rodsBy 17 = .ok (.iload 6, 2) := dc_21 (a := 6) (by decide +kernel) rfl
theorem d_Mod_rodsBy_19 : decode b_Mod_rodsBy 19 = .ok (.invokestatic 233, 3) := dc_184 (a := 0) (b := 233) (by decide +kernel) rfl
theorem d_Mod_rodsBy_22 : decode b_Mod_rodsBy 22 = .ok (.if_icmp .gt 49, 3) := dc_163 (a := 0) (b := 49) (by decide +kernel) rfl
theorem d_Mod_rodsBy_25 : decode b_Mod_rodsBy 25 = .ok (.iload 5, 2) := dc_21 (a := 5) (by decide +kernel) rfl
theorem d_Mod_rodsBy_27 : decode b_Mod_rodsBy 27 = .ok (.aload_n 0, 1) := dc_42 (by decide +kernel)
theorem d_Mod_rodsBy_28 : decode b_Mod_rodsBy 28 = .ok (.iload 6, 2) := dc_21 (a := 6) (by decide +kernel) rfl
theorem d_Mod_rodsBy_30 : decode b_Mod_rodsBy 30 = .ok (.iload 7, 2) := dc_21 (a := 7) (by decide +kernel) rfl
theorem d_Mod_rodsBy_32 : decode b_Mod_rodsBy 32 = .ok (.invokevirtual 236, 3) := dc_182 (a := 0) (b := 236) (by decide +kernel) rfl
theorem d_Mod_rodsBy_35 : decode b_Mod_rodsBy 35 = .ok (.ifCond .eq 23, 3) := dc_153 (a := 0) (b := 23) (by decide +kernel) rfl
theorem d_Mod_rodsBy_38 : decode b_Mod_rodsBy 38 = .ok (.aload_n 0, 1) := dc_42 (by decide +kernel)
theorem d_Mod_rodsBy_39 : decode b_Mod_rodsBy 39 = .ok (.iload 6, 2) := dc_21 (a := 6) (by decide +kernel) rfl
theorem d_Mod_rodsBy_41 : decode b_Mod_rodsBy 41 = .ok (.iload 7, 2) := dc_21 (a := 7) (by decide +kernel) rfl
theorem d_Mod_rodsBy_43 : decode b_Mod_rodsBy 43 = .ok (.iload_n 1, 1) := dc_27 (by decide +kernel)
theorem d_Mod_rodsBy_44 : decode b_Mod_rodsBy 44 = .ok (.iload_n 2, 1) := dc_28 (by decide +kernel)
theorem d_Mod_rodsBy_45 : decode b_Mod_rodsBy 45 = .ok (.iload_n 3, 1) := dc_29 (by decide +kernel)
theorem d_Mod_rodsBy_46 : decode b_Mod_rodsBy 46 = .ok (.invokevirtual 229, 3) := dc_182 (a := 0) (b := 229) (by decide +kernel) rfl
theorem d_Mod_rodsBy_49 : decode b_Mod_rodsBy 49 = .ok (.iload 4, 2) := dc_21 (a := 4) (by decide +kernel) rfl
theorem d_Mod_rodsBy_51 : decode b_Mod_rodsBy 51 = .ok (.if_icmp .ne 7, 3) := dc_160 (a := 0) (b := 7) (by decide +kernel) rfl
theorem d_Mod_rodsBy_54 : decode b_Mod_rodsBy 54 = .ok (.iconst 1, 1) := dc_4 (by decide +kernel)
theorem d_Mod_rodsBy_55 : decode b_Mod_rodsBy 55 = .ok (.goto 4, 3) := dc_167 (a := 0) (b := 4) (by decide +kernel) rfl
theorem d_Mod_rodsBy_58 : decode b_Mod_rodsBy 58 = .ok (.iconst 0, 1) := dc_3 (by decide +kernel)
theorem d_Mod_rodsBy_59 : decode b_Mod_rodsBy 59 = .ok (.invokestatic 196, 3) := dc_184 (a := 0) (b := 196) (by decide +kernel) rfl
theorem d_Mod_rodsBy_62 : decode b_Mod_rodsBy 62 = .ok (.iadd, 1) := dc_96 (by decide +kernel)
theorem d_Mod_rodsBy_63 : decode b_Mod_rodsBy 63 = .ok (.istore 5, 2) := dc_54 (a := 5) (by decide +kernel) rfl
theorem d_Mod_rodsBy_65 : decode b_Mod_rodsBy 65 = .ok (.iinc 7 1, 3) := dc_132 (a := 7) (b := 1) (by decide +kernel) rfl
theorem d_Mod_rodsBy_68 : decode b_Mod_rodsBy 68 = .ok (.goto (-53), 3) := dc_167 (a := 255) (b := 203) (by decide +kernel) rfl
theorem d_Mod_rodsBy_71 : decode b_Mod_rodsBy 71 = .ok (.iinc 6 1, 3) := dc_132 (a := 6) (b := 1) (by decide +kernel) rfl
theorem d_Mod_rodsBy_74 : decode b_Mod_rodsBy 74 = .ok (.goto (-68), 3) := dc_167 (a := 255) (b := 188) (by decide +kernel) rfl
theorem d_Mod_rodsBy_77 : decode b_Mod_rodsBy 77 = .ok (.iload 5, 2) := dc_21 (a := 5) (by decide +kernel) rfl
theorem d_Mod_rodsBy_79 : decode b_Mod_rodsBy 79 = .ok (.ireturn, 1) := dc_172 (by decide +kernel)
abbrev q_Mod_rodsBy (h : Hp) (c : Int32) (cZ : Int) (o : Int32) (oZ : Int) (s : Int32) (sZ : Int) (b : Int32) (bZ : Int) : Option Value → Hp → Prop := pInt (fun r h' => h = h')
set_option maxRecDepth 100000 in
theorem c_Mod_rodsBy (h : Hp) (hI : Inv h) (c : Int32) (cZ : Int) (cE : c.toInt = cZ) (o : Int32) (oZ : Int) (oE : o.toInt = oZ) (s : Int32) (sZ : Int) (sE : s.toInt = sZ) (b : Int32) (bZ : Int) (bE : b.toInt = bZ) (hy0 : 0 ≤ cZ ∧ cZ ≤ 15) : Ct y_Mod_rodsBy b_Mod_rodsBy 8 (some .int) 2 52 [.ref 116, .int c, .int o, .int s, .int b] h (q_Mod_rodsBy h c cZ o oZ s sZ b bZ) := by
  refine ct_ow R_Mod [some (.ref 116), some (.int c), some (.int o), some (.int s), some (.int b), none, none, none] rfl (by decide) rfl (Nat.le_of_ble_eq_true rfl) ?_
  have f0 : fr [] h h := fr_rf
  refine V_iconst 0 d_Mod_rodsBy_0 (by decide) ?_
  refine V_istore 5 [some (.ref 116), some (.int c), some (.int o), some (.int s), some (.int b), some (.int 0), none, none] d_Mod_rodsBy_1 (by decide) rfl rfl ?_
  refine V_iconst 0 d_Mod_rodsBy_3 (by decide) ?_
  refine V_istore 6 [some (.ref 116), some (.int c), some (.int o), some (.int s), some (.int b), some (.int 0), some (.int 0), none] d_Mod_rodsBy_4 (by decide) rfl rfl ?_
  have L1 : ∀ (nn : Nat) (v3 : Int32) (v3Z : Int) (v4 : Int32) (v4Z : Int), v3.toInt = v3Z → v4.toInt = v4Z → 0 ≤ v4Z ∧ v4Z ≤ 5 → 5 - v4Z < (nn : Int) → V R_Mod b_Mod_rodsBy 8 (some .int) 2 52 (q_Mod_rodsBy h c cZ o oZ s sZ b bZ) h 6 [some (.ref 116), some (.int c), some (.int o), some (.int s), some (.int b), some (.int v3), some (.int v4), none] [] := by
    intro nn
    induction nn with
    | zero => intro v3 v3Z v4 v4Z v3E v4E q5 hm6; exact absurd hm6 (by omega)
    | succ nn ihL1 =>
      intro v3 v3Z v4 v4Z v3E v4E q5 hm6
      refine V_iload d_Mod_rodsBy_6 rfl ?_
      refine V_iconst 4 d_Mod_rodsBy_8 (by decide) ?_
      refine V_icmp_gt 77 v4E tc_4 d_Mod_rodsBy_9 (by decide) (fun c7 => ?_) (fun c7 => ?_)
      ·
        refine V_iload d_Mod_rodsBy_77 rfl ?_
        exact V_iret rfl d_Mod_rodsBy_79 ⟨v3, rfl, rfl⟩
      ·
        refine V_iconst 1 d_Mod_rodsBy_12 (by decide) ?_
        refine V_istore 7 [some (.ref 116), some (.int c), some (.int o), some (.int s), some (.int b), some (.int v3), some (.int v4), some (.int 1)] d_Mod_rodsBy_13 (by decide) rfl rfl ?_
        have L8 : ∀ (nn : Nat) (v10 : Int32) (v10Z : Int) (v11 : Int32) (v11Z : Int), v10.toInt = v10Z → v11.toInt = v11Z → 1 ≤ v11Z ∧ v11Z ≤ 10 → 10 - v11Z < (nn : Int) → V R_Mod b_Mod_rodsBy 8 (some .int) 2 52 (q_Mod_rodsBy h c cZ o oZ s sZ b bZ) h 15 [some (.ref 116), some (.int c), some (.int o), some (.int s), some (.int b), some (.int v10), some (.int v4), some (.int v11)] [] := by
          intro nn
          induction nn with
          | zero => intro v10 v10Z v11 v11Z v10E v11E q12 hm13; exact absurd hm13 (by omega)
          | succ nn ihL8 =>
            intro v10 v10Z v11 v11Z v10E v11E q12 hm13
            refine V_iload d_Mod_rodsBy_15 rfl ?_
            refine V_iload d_Mod_rodsBy_17 rfl ?_
            refine N_callSI [.int v4] [.int v11] cs_Mod_233 d_Mod_rodsBy_19 rfl (Nat.le_of_ble_eq_true rfl) (by decide) (by decide) (c_Mod_reachesOf h v4 v4Z v4E) (fun z14 h15 z14Z z14E p16 => ?_)
            obtain ⟨eh15, p16⟩ := p16
            subst eh15
            refine V_icmp_gt 71 v11E z14E d_Mod_rodsBy_22 (by decide) (fun c17 => ?_) (fun c17 => ?_)
            ·
              obtain ⟨z18, z18E, z18e⟩ : ∃ y : Int32, y.toInt = v4Z + 1 ∧ y = v4 + Int32.ofInt 1 := ⟨_, ti_add v4E (by decide) (by omega), rfl⟩
              refine V_iinc 6 [some (.ref 116), some (.int c), some (.int o), some (.int s), some (.int b), some (.int v10), some (.int z18), some (.int v11)] d_Mod_rodsBy_71 rfl z18e.symm (by decide) rfl rfl ?_
              refine V_goto 6 d_Mod_rodsBy_74 (by decide) ?_
              refine V_drop 7 [some (.ref 116), some (.int c), some (.int o), some (.int s), some (.int b), some (.int v10), some (.int z18), none] rfl ?_
              exact ihL1 v10 v10Z z18 ((v4Z + 1)) v10E z18E (by omega) (by omega)
            ·
              refine V_iload d_Mod_rodsBy_25 rfl ?_
              refine V_aload_n 0 d_Mod_rodsBy_27 rfl rfl ?_
              refine V_iload d_Mod_rodsBy_28 rfl ?_
              refine V_iload d_Mod_rodsBy_30 rfl ?_
              refine N_callVI [.int v4, .int v11] [.int v10] cv_Mod_236 sk_116 rfl d_Mod_rodsBy_32 rfl (Nat.le_of_ble_eq_true rfl) (by decide) (by decide) (c_Mod_doesFit h hI v4 v4Z v4E v11 v11Z v11E) (fun z19 h20 z19Z z19E p21 => ?_)
              obtain ⟨eh20, p21⟩ := p21
              subst eh20
              refine V_if_eq 58 z19E d_Mod_rodsBy_35 (by decide) (fun c22 => ?_) (fun c22 => ?_)
              ·
                refine V_iconst 0 d_Mod_rodsBy_58 (by decide) ?_
                refine N_callSI [.int 0] [.int v10] cs_Mod_196 d_Mod_rodsBy_59 rfl (Nat.le_of_ble_eq_true rfl) (by decide) (by decide) (c_Mod_flag h 0 0 tc_0) (fun z23 h24 z23Z z23E p25 => ?_)
                obtain ⟨eh24, p25⟩ := p25
                subst eh24
                refine N_iaddw d_Mod_rodsBy_62 (fun z26 z26Z z26E z26e => ?_)
                refine V_istore 5 [some (.ref 116), some (.int c), some (.int o), some (.int s), some (.int b), some (.int z26), some (.int v4), some (.int v11)] d_Mod_rodsBy_63 (by decide) rfl rfl ?_
                obtain ⟨z27, z27E, z27e⟩ : ∃ y : Int32, y.toInt = v11Z + 1 ∧ y = v11 + Int32.ofInt 1 := ⟨_, ti_add v11E (by decide) (by omega), rfl⟩
                refine V_iinc 7 [some (.ref 116), some (.int c), some (.int o), some (.int s), some (.int b), some (.int z26), some (.int v4), some (.int z27)] d_Mod_rodsBy_65 rfl z27e.symm (by decide) rfl rfl ?_
                refine V_goto 15 d_Mod_rodsBy_68 (by decide) ?_
                exact ihL8 z26 z26Z z27 ((v11Z + 1)) z26E z27E (by omega) (by omega)
              ·
                refine V_aload_n 0 d_Mod_rodsBy_38 rfl rfl ?_
                refine V_iload d_Mod_rodsBy_39 rfl ?_
                refine V_iload d_Mod_rodsBy_41 rfl ?_
                refine V_iload_n 1 d_Mod_rodsBy_43 rfl rfl ?_
                refine V_iload_n 2 d_Mod_rodsBy_44 rfl rfl ?_
                refine V_iload_n 3 d_Mod_rodsBy_45 rfl rfl ?_
                refine N_callVI [.int v4, .int v11, .int c, .int o, .int s] [.int v10] cv_Mod_229 sk_116 rfl d_Mod_rodsBy_46 rfl (Nat.le_of_ble_eq_true rfl) (by decide) (by decide) (c_Mod_doesTwitch h hI v4 v4Z v4E v11 v11Z v11E c cZ cE o oZ oE s sZ sE (by omega)) (fun z28 h29 z28Z z28E p30 => ?_)
                obtain ⟨eh29, p30⟩ := p30
                subst eh29
                refine V_iload d_Mod_rodsBy_49 rfl ?_
                refine V_icmp_ne 58 z28E bE d_Mod_rodsBy_51 (by decide) (fun c31 => ?_) (fun c31 => ?_)
                ·
                  refine V_iconst 0 d_Mod_rodsBy_58 (by decide) ?_
                  refine N_callSI [.int 0] [.int v10] cs_Mod_196 d_Mod_rodsBy_59 rfl (Nat.le_of_ble_eq_true rfl) (by decide) (by decide) (c_Mod_flag h 0 0 tc_0) (fun z32 h33 z32Z z32E p34 => ?_)
                  obtain ⟨eh33, p34⟩ := p34
                  subst eh33
                  refine N_iaddw d_Mod_rodsBy_62 (fun z35 z35Z z35E z35e => ?_)
                  refine V_istore 5 [some (.ref 116), some (.int c), some (.int o), some (.int s), some (.int b), some (.int z35), some (.int v4), some (.int v11)] d_Mod_rodsBy_63 (by decide) rfl rfl ?_
                  obtain ⟨z36, z36E, z36e⟩ : ∃ y : Int32, y.toInt = v11Z + 1 ∧ y = v11 + Int32.ofInt 1 := ⟨_, ti_add v11E (by decide) (by omega), rfl⟩
                  refine V_iinc 7 [some (.ref 116), some (.int c), some (.int o), some (.int s), some (.int b), some (.int z35), some (.int v4), some (.int z36)] d_Mod_rodsBy_65 rfl z36e.symm (by decide) rfl rfl ?_
                  refine V_goto 15 d_Mod_rodsBy_68 (by decide) ?_
                  exact ihL8 z35 z35Z z36 ((v11Z + 1)) z35E z36E (by omega) (by omega)
                ·
                  refine V_iconst 1 d_Mod_rodsBy_54 (by decide) ?_
                  refine V_goto 59 d_Mod_rodsBy_55 (by decide) ?_
                  refine N_callSI [.int 1] [.int v10] cs_Mod_196 d_Mod_rodsBy_59 rfl (Nat.le_of_ble_eq_true rfl) (by decide) (by decide) (c_Mod_flag h 1 1 tc_1) (fun z37 h38 z37Z z37E p39 => ?_)
                  obtain ⟨eh38, p39⟩ := p39
                  subst eh38
                  refine N_iaddw d_Mod_rodsBy_62 (fun z40 z40Z z40E z40e => ?_)
                  refine V_istore 5 [some (.ref 116), some (.int c), some (.int o), some (.int s), some (.int b), some (.int z40), some (.int v4), some (.int v11)] d_Mod_rodsBy_63 (by decide) rfl rfl ?_
                  obtain ⟨z41, z41E, z41e⟩ : ∃ y : Int32, y.toInt = v11Z + 1 ∧ y = v11 + Int32.ofInt 1 := ⟨_, ti_add v11E (by decide) (by omega), rfl⟩
                  refine V_iinc 7 [some (.ref 116), some (.int c), some (.int o), some (.int s), some (.int b), some (.int z40), some (.int v4), some (.int z41)] d_Mod_rodsBy_65 rfl z41e.symm (by decide) rfl rfl ?_
                  refine V_goto 15 d_Mod_rodsBy_68 (by decide) ?_
                  exact ihL8 z40 z40Z z41 ((v11Z + 1)) z40E z41E (by omega) (by omega)
        exact L8 (Int.toNat ((10 - 1 : Int) + 1)) v3 v3Z 1 1 v3E tc_1 (by omega) (by omega)
  exact L1 (Int.toNat ((5 - 0 : Int) + 1)) 0 0 0 0 tc_0 tc_0 (by omega) (by omega)
theorem d_Mod_test_0 : decode b_Mod_test 0 = .ok (.iload_n 1, 1) := dc_27 (by decide +kernel)
theorem d_Mod_test_1 : decode b_Mod_test 1 = .ok (.invokestatic 205, 3) := dc_184 (a := 0) (b := 205) (by decide +kernel) rfl
theorem d_Mod_test_4 : decode b_Mod_test 4 = .ok (.ifCond .eq 13, 3) := dc_153 (a := 0) (b := 13) (by decide +kernel) rfl
theorem d_Mod_test_7 : decode b_Mod_test 7 = .ok (.iload_n 2, 1) := dc_28 (by decide +kernel)
theorem d_Mod_test_8 : decode b_Mod_test 8 = .ok (.i2l, 1) := dc_133 (by decide +kernel)
theorem d_Mod_test_9 : decode b_Mod_test 9 = .ok (.lconst 0, 1) := dc_9 (by decide +kernel)
theorem d_Mod_test_10 : decode b_Mod_test 10 = .ok (.lconst 1, 1) := dc_10 (by decide +kernel)
theorem d_Mod_test_11 : decode b_Mod_test 11 = .ok (.invokestatic 95, 3) := dc_184 (a := 0) (b := 95) (by decide +kernel) rfl
theorem d_Mod_test_14 : decode b_Mod_test 14 = .ok (.ifCond .ne 5, 3) := dc_154 (a := 0) (b := 5) (by decide +kernel) rfl
theorem d_Mod_test_17 : decode b_Mod_test 17 = .ok (.iconst (-1), 1) := dc_2 (by decide +kernel)
theorem d_Mod_test_18 : decode b_Mod_test 18 = .ok (.ireturn, 1) := dc_172 (by decide +kernel)
theorem d_Mod_test_19 : decode b_Mod_test 19 = .ok (.aload_n 0, 1) := dc_42 (by decide +kernel)
theorem d_Mod_test_20 : decode b_Mod_test 20 = .ok (.iconst 0, 1) := dc_3 (by decide +kernel)
theorem d_Mod_test_21 : decode b_Mod_test 21 = .ok (.iload_n 1, 1) := dc_27 (by decide +kernel)
theorem d_Mod_test_22 : decode b_Mod_test 22 = .ok (.iconst 1, 1) := dc_4 (by decide +kernel)
theorem d_Mod_test_23 : decode b_Mod_test 23 = .ok (.iconst 1, 1) := dc_4 (by decide +kernel)
theorem d_Mod_test_24 : decode b_Mod_test 24 = .ok (.invokevirtual 239, 3) := dc_182 (a := 0) (b := 239) (by decide +kernel) rfl
theorem d_Mod_test_27 : decode b_Mod_test 27 = .ok (.aload_n 0, 1) := dc_42 (by decide +kernel)
theorem d_Mod_test_28 : decode b_Mod_test 28 = .ok (.iconst 0, 1) := dc_3 (by decide +kernel)
theorem d_Mod_test_29 : decode b_Mod_test 29 = .ok (.iload_n 1, 1) := dc_27 (by decide +kernel)
theorem d_Mod_test_30 : decode b_Mod_test 30 = .ok (.iconst 1, 1) := dc_4 (by decide +kernel)
theorem d_Mod_test_31 : decode b_Mod_test 31 = .ok (.iconst 0, 1) := dc_3 (by decide +kernel)
theorem d_Mod_test_32 : decode b_Mod_test 32 = .ok (.invokevirtual 239, 3) := dc_182 (a := 0) (b := 239) (by decide +kernel) rfl
theorem d_Mod_test_35 : decode b_Mod_test 35 = .ok (.iadd, 1) := dc_96 (by decide +kernel)
theorem d_Mod_test_36 : decode b_Mod_test 36 = .ok (.istore_n 3, 1) := dc_62 (by decide +kernel)
theorem d_Mod_test_37 : decode b_Mod_test 37 = .ok (.bipush (-4), 2) := dc_16 (a := 252) (by decide +kernel) rfl
theorem d_Mod_test_39 : decode b_Mod_test 39 = .ok (.istore 4, 2) := dc_54 (a := 4) (by decide +kernel) rfl
theorem d_Mod_test_41 : decode b_Mod_test 41 = .ok (.iconst 0, 1) := dc_3 (by decide +kernel)
theorem d_Mod_test_42 : decode b_Mod_test 42 = .ok (.istore 5, 2) := dc_54 (a := 5) (by decide +kernel) rfl
theorem d_Mod_test_44 : decode b_Mod_test 44 = .ok (.iload 5, 2) := dc_21 (a := 5) (by decide +kernel) rfl
theorem d_Mod_test_46 : decode b_Mod_test 46 = .ok (.aload_n 0, 1) := dc_42 (by decide +kernel)
theorem d_Mod_test_47 : decode b_Mod_test 47 = .ok (.invokevirtual 183, 3) := dc_182 (a := 0) (b := 183) (by decide +kernel) rfl
theorem d_Mod_test_50 : decode b_Mod_test 50 = .ok (.if_icmp .ge 98, 3) := dc_162 (a := 0) (b := 98) (by decide +kernel) rfl
theorem d_Mod_test_53 : decode b_Mod_test 53 = .ok (.iconst 1, 1) := dc_4 (by decide +kernel)
theorem d_Mod_test_54 : decode b_Mod_test 54 = .ok (.istore 6, 2) := dc_54 (a := 6) (by decide +kernel) rfl
theorem d_Mod_test_56 : decode b_Mod_test 56 = .ok (.iload 6, 2) := dc_21 (a := 6) (by decide +kernel) rfl
theorem d_Mod_test_58 : decode b_Mod_test 58 = .ok (.iconst 2, 1) := dc_5 (by decide +kernel)
theorem d_Mod_test_59 : decode b_Mod_test 59 = .ok (.if_icmp .gt 83, 3) := dc_163 (a := 0) (b := 83) (by decide +kernel) rfl
theorem d_Mod_test_62 : decode b_Mod_test 62 = .ok (.aload_n 0, 1) := dc_42 (by decide +kernel)
theorem d_Mod_test_63 : decode b_Mod_test 63 = .ok (.iload 5, 2) := dc_21 (a := 5) (by decide +kernel) rfl
theorem d_Mod_test_65 : decode b_Mod_test 65 = .ok (.iload_n 1, 1) := dc_27 (by decide +kernel)
theorem d_Mod_test_66 : decode b_Mod_test 66 = .ok (.iload 6, 2) := dc_21 (a := 6) (by decide +kernel) rfl
theorem d_Mod_test_68 : decode b_Mod_test 68 = .ok (.iconst 1, 1) := dc_4 (by decide +kernel)
theorem d_Mod_test_69 : decode b_Mod_test 69 = .ok (.invokevirtual 239, 3) := dc_182 (a := 0) (b := 239) (by decide +kernel) rfl
theorem d_Mod_test_72 : decode b_Mod_test 72 = .ok (.istore 7, 2) := dc_54 (a := 7) (by decide +kernel) rfl
theorem d_Mod_test_74 : decode b_Mod_test 74 = .ok (.aload_n 0, 1) := dc_42 (by decide +kernel)
theorem d_Mod_test_75 : decode b_Mod_test 75 = .ok (.iload 5, 2) := dc_21 (a := 5) (by decide +kernel) rfl
theorem d_Mod_test_77 : decode b_Mod_test 77 = .ok (.iload_n 1, 1) := dc_27 (by decide +kernel)
theorem d_Mod_test_78 : decode b_Mod_test 78 = .ok (.iload 6, 2) := dc_21 (a := 6) (by decide +kernel) rfl
theorem d_Mod_test_80 : decode b_Mod_test 80 = .ok (.iconst 0, 1) := dc_3 (by decide +kernel)
theorem d_Mod_test_81 : decode b_Mod_test 81 = .ok (.invokevirtual 239, 3) := dc_182 (a := 0) (b := 239) (by decide +kernel) rfl
theorem d_Mod_test_84 : decode b_Mod_test 84 = .ok (.istore 8, 2) := dc_54 (a := 8) (by decide +kernel) rfl
theorem d_Mod_test_86 : decode b_Mod_test 86 = .ok (.iload 7, 2) := dc_21 (a := 7) (by decide +kernel) rfl
theorem d_Mod_test_88 : decode b_Mod_test 88 = .ok (.iload 8, 2) := dc_21 (a := 8) (by decide +kernel) rfl
theorem d_Mod_test_90 : decode b_Mod_test 90 = .ok (.if_icmp .le 8, 3) := dc_164 (a := 0) (b := 8) (by decide +kernel) rfl
theorem d_Mod_test_93 : decode b_Mod_test 93 = .ok (.iload 7, 2) := dc_21 (a := 7) (by decide +kernel) rfl
theorem d_Mod_test_95 : decode b_Mod_test 95 = .ok (.goto 5, 3) := dc_167 (a := 0) (b := 5) (by decide +kernel) rfl
theorem d_Mod_test_98 : decode b_Mod_test 98 = .ok (.iload 8, 2) := dc_21 (a := 8) (by decide +kernel) rfl
theorem d_Mod_test_100 : decode b_Mod_test 100 = .ok (.istore 9, 2) := dc_54 (a := 9) (by decide +kernel) rfl
theorem d_Mod_test_102 : decode b_Mod_test 102 = .ok (.iload 9, 2) := dc_21 (a := 9) (by decide +kernel) rfl
theorem d_Mod_test_104 : decode b_Mod_test 104 = .ok (.iload_n 3, 1) := dc_29 (by decide +kernel)
theorem d_Mod_test_105 : decode b_Mod_test 105 = .ok (.if_icmp .ge 14, 3) := dc_162 (a := 0) (b := 14) (by decide +kernel) rfl
theorem d_Mod_test_108 : decode b_Mod_test 108 = .ok (.bipush 10, 2) := dc_16 (a := 10) (by decide +kernel) rfl
theorem d_Mod_test_110 : decode b_Mod_test 110 = .ok (.iload 5, 2) := dc_21 (a := 5) (by decide +kernel) rfl
theorem d_Mod_test_112 : decode b_Mod_test 112 = .ok (.imul, 1) := dc_104 (by decide +kernel)
theorem d_Mod_test_113 : decode b_Mod_test 113 = .ok (.iload 6, 2) := dc_21 (a := 6) (by decide +kernel) rfl
theorem d_Mod_test_115 : decode b_Mod_test 115 = .ok (.iadd, 1) := dc_96 (by decide +kernel)
theorem d_Mod_test_116 : decode b_Mod_test 116 = .ok (.goto 5, 3) := dc_167 (a := 0) (b := 5) (by decide +kernel) rfl
theorem d_Mod_test_119 : decode b_Mod_test 119 = .ok (.iload 4, 2) := dc_21 (a := 4) (by decide +kernel) rfl
theorem d_Mod_test_121 : decode b_Mod_test 121 = .ok (.istore 4, 2) := dc_54 (a := 4) (by decide +kernel) rfl
theorem d_Mod_test_123 : decode b_Mod_test 123 = .ok (.iload 9, 2) := dc_21 (a := 9) (by decide +kernel) rfl
theorem d_Mod_test_125 : decode b_Mod_test 125 = .ok (.iload_n 3, 1) := dc_29 (by decide +kernel)
theorem d_Mod_test_126 : decode b_Mod_test 126 = .ok (.if_icmp .ge 8, 3) := dc_162 (a := 0) (b := 8) (by decide +kernel) rfl
theorem d_Mod_test_129 : decode b_Mod_test 129 = .ok (.iload 9, 2) := dc_21 (a := 9) (by decide +kernel) rfl
theorem d_Mod_test_131 : decode b_Mod_test 131 = .ok (.goto 4, 3) := dc_167 (a := 0) (b := 4) (by decide +kernel) rfl
theorem d_Mod_test_134 : decode b_Mod_test 134 = .ok (.iload_n 3, 1) := dc_29 (by decide +kernel)
theorem d_Mod_test_135 : decode b_Mod_test 135 = .ok (.istore_n 3, 1) := dc_62 (by decide +kernel)
theorem d_Mod_test_136 : decode b_Mod_test 136 = .ok (.iinc 6 1, 3) := dc_132 (a := 6) (b := 1) (by decide +kernel) rfl
theorem d_Mod_test_139 : decode b_Mod_test 139 = .ok (.goto (-83), 3) := dc_167 (a := 255) (b := 173) (by decide +kernel) rfl
theorem d_Mod_test_142 : decode b_Mod_test 142 = .ok (.iinc 5 1, 3) := dc_132 (a := 5) (b := 1) (by decide +kernel) rfl
theorem d_Mod_test_145 : decode b_Mod_test 145 = .ok (.goto (-101), 3) := dc_167 (a := 255) (b := 155) (by decide +kernel) rfl
theorem d_Mod_test_148 : decode b_Mod_test 148 = .ok (.iload 4, 2) := dc_21 (a := 4) (by decide +kernel) rfl
theorem d_Mod_test_150 : decode b_Mod_test 150 = .ok (.bipush (-4), 2) := dc_16 (a := 252) (by decide +kernel) rfl
theorem d_Mod_test_152 : decode b_Mod_test 152 = .ok (.if_icmp .ne 8, 3) := dc_160 (a := 0) (b := 8) (by decide +kernel) rfl
theorem d_Mod_test_155 : decode b_Mod_test 155 = .ok (.bipush (-4), 2) := dc_16 (a := 252) (by decide +kernel) rfl
theorem d_Mod_test_157 : decode b_Mod_test 157 = .ok (.goto 13, 3) := dc_167 (a := 0) (b := 13) (by decide +kernel) rfl
theorem d_Mod_test_160 : decode b_Mod_test 160 = .ok (.iload_n 2, 1) := dc_28 (by decide +kernel)
theorem d_Mod_test_161 : decode b_Mod_test 161 = .ok (.ifCond .ne 8, 3) := dc_154 (a := 0) (b := 8) (by decide +kernel) rfl
theorem d_Mod_test_164 : decode b_Mod_test 164 = .ok (.iload 4, 2) := dc_21 (a := 4) (by decide +kernel) rfl
theorem d_Mod_test_166 : decode b_Mod_test 166 = .ok (.goto 4, 3) := dc_167 (a := 0) (b := 4) (by decide +kernel) rfl
theorem d_Mod_test_169 : decode b_Mod_test 169 = .ok (.iload_n 3, 1) := dc_29 (by decide +kernel)
theorem d_Mod_test_170 : decode b_Mod_test 170 = .ok (.ireturn, 1) := dc_172 (by decide +kernel)
abbrev q_Mod_test (h : Hp) (o : Int32) (oZ : Int) (a : Int32) (aZ : Int) (w : Int32) (wZ : Int) (g : Int32) (gZ : Int) : Option Value → Hp → Prop := pInt (fun r h' => h = h')
set_option maxRecDepth 100000 in
theorem c_Mod_test (h : Hp) (hI : Inv h) (o : Int32) (oZ : Int) (oE : o.toInt = oZ) (a : Int32) (aZ : Int) (aE : a.toInt = aZ) (w : Int32) (wZ : Int) (wE : w.toInt = wZ) (wK : h.1 116 2 = w) (g : Int32) (gZ : Int) (gE : g.toInt = gZ) (gK : h.1 116 3 = g) : Ct y_Mod_test b_Mod_test 10 (some .int) 3 79 [.ref 116, .int o, .int a] h (q_Mod_test h o oZ a aZ w wZ g gZ) := by
  refine ct_ow R_Mod [some (.ref 116), some (.int o), some (.int a), none, none, none, none, none, none, none] rfl (by decide) rfl (Nat.le_of_ble_eq_true rfl) ?_
  have f0 : fr [] h h := fr_rf
  have g1 : 2 ≤ wZ ∧ wZ ≤ 4 := inv_at hI wE wK.symm rfl
  have g2 : 2 ≤ gZ ∧ gZ ≤ 4 := inv_at hI gE gK.symm rfl
  refine V_iload_n 1 d_Mod_test_0 rfl rfl ?_
  refine N_callSI [.int o] [] cs_Mod_205 d_Mod_test_1 rfl (Nat.le_of_ble_eq_true rfl) (by decide) (by decide) (c_Mod_isOwner h o oZ oE) (fun z3 h4 z3Z z3E p5 => ?_)
  obtain ⟨eh4, p5⟩ := p5
  subst eh4
  refine V_if_eq 17 z3E d_Mod_test_4 (by decide) (fun c6 => ?_) (fun c6 => ?_)
  ·
    refine V_iconst (-1) d_Mod_test_17 (by decide) ?_
    exact V_iret rfl d_Mod_test_18 ⟨(-1), rfl, rfl⟩
  ·
    refine V_iload_n 2 d_Mod_test_7 rfl rfl ?_
    refine V_i2l d_Mod_test_8 (fun z7 z7e z7E => ?_)
    have z7F : z7.toInt = aZ := z7E.trans aE
    refine V_lconst 0 d_Mod_test_9 (by decide) ?_
    refine V_lconst 1 d_Mod_test_10 (by decide) ?_
    refine N_callSI [.long z7, .long 0, .long 1] [] cs_Mod_95 d_Mod_test_11 rfl (Nat.le_of_ble_eq_true rfl) (by decide) (by decide) (c_Mod_in h z7 aZ z7F 0 0 tl_0 1 1 tl_1) (fun z8 h9 z8Z z8E p10 => ?_)
    obtain ⟨eh9, p10⟩ := p10
    subst eh9
    refine V_if_ne 19 z8E d_Mod_test_14 (by decide) (fun c11 => ?_) (fun c11 => ?_)
    ·
      refine V_aload_n 0 d_Mod_test_19 rfl rfl ?_
      refine V_iconst 0 d_Mod_test_20 (by decide) ?_
      refine V_iload_n 1 d_Mod_test_21 rfl rfl ?_
      refine V_iconst 1 d_Mod_test_22 (by decide) ?_
      refine V_iconst 1 d_Mod_test_23 (by decide) ?_
      refine N_callVI [.int 0, .int o, .int 1, .int 1] [] cv_Mod_239 sk_116 rfl d_Mod_test_24 rfl (Nat.le_of_ble_eq_true rfl) (by decide) (by decide) (c_Mod_rodsBy h hI 0 0 tc_0 o oZ oE 1 1 tc_1 1 1 tc_1 (by omega)) (fun z12 h13 z12Z z12E p14 => ?_)
      subst p14
      refine V_aload_n 0 d_Mod_test_27 rfl rfl ?_
      refine V_iconst 0 d_Mod_test_28 (by decide) ?_
      refine V_iload_n 1 d_Mod_test_29 rfl rfl ?_
      refine V_iconst 1 d_Mod_test_30 (by decide) ?_
      refine V_iconst 0 d_Mod_test_31 (by decide) ?_
      refine N_callVI [.int 0, .int o, .int 1, .int 0] [.int z12] cv_Mod_239 sk_116 rfl d_Mod_test_32 rfl (Nat.le_of_ble_eq_true rfl) (by decide) (by decide) (c_Mod_rodsBy h hI 0 0 tc_0 o oZ oE 1 1 tc_1 0 0 tc_0 (by omega)) (fun z15 h16 z15Z z15E p17 => ?_)
      subst p17
      refine N_iaddw d_Mod_test_35 (fun z18 z18Z z18E z18e => ?_)
      refine V_istore_n 3 [some (.ref 116), some (.int o), some (.int a), some (.int z18), none, none, none, none, none, none] d_Mod_test_36 rfl (by decide) rfl rfl ?_
      refine V_bipush (-4) d_Mod_test_37 (by decide) ?_
      refine V_istore 4 [some (.ref 116), some (.int o), some (.int a), some (.int z18), some (.int (-4)), none, none, none, none, none] d_Mod_test_39 (by decide) rfl rfl ?_
      refine V_iconst 0 d_Mod_test_41 (by decide) ?_
      refine V_istore 5 [some (.ref 116), some (.int o), some (.int a), some (.int z18), some (.int (-4)), some (.int 0), none, none, none, none] d_Mod_test_42 (by decide) rfl rfl ?_
      have L19 : ∀ (nn : Nat) (v21 : Int32) (v21Z : Int) (v22 : Int32) (v22Z : Int) (v23 : Int32) (v23Z : Int), v21.toInt = v21Z → v22.toInt = v22Z → v23.toInt = v23Z → 0 ≤ v23Z ∧ v23Z ≤ 16 → 16 - v23Z < (nn : Int) → V R_Mod b_Mod_test 10 (some .int) 3 79 (q_Mod_test h o oZ a aZ w wZ g gZ) h 44 [some (.ref 116), some (.int o), some (.int a), some (.int v21), some (.int v22), some (.int v23), none, none, none, none] [] := by
        intro nn
        induction nn with
        | zero => intro v21 v21Z v22 v22Z v23 v23Z v21E v22E v23E q24 hm25; exact absurd hm25 (by omega)
        | succ nn ihL19 =>
          intro v21 v21Z v22 v22Z v23 v23Z v21E v22E v23E q24 hm25
          refine V_iload d_Mod_test_44 rfl ?_
          refine V_aload_n 0 d_Mod_test_46 rfl rfl ?_
          refine N_callVI [] [.int v23] cv_Mod_183 sk_116 rfl d_Mod_test_47 rfl (Nat.le_of_ble_eq_true rfl) (by decide) (by decide) (c_Mod_cellMany h hI w wZ wE wK g gZ gE gK) (fun z26 h27 z26Z z26E p28 => ?_)
          obtain ⟨eh27, p28⟩ := p28
          subst eh27
          refine V_icmp_ge 148 v23E z26E d_Mod_test_50 (by decide) (fun c29 => ?_) (fun c29 => ?_)
          ·
            refine V_iload d_Mod_test_148 rfl ?_
            refine V_bipush (-4) d_Mod_test_150 (by decide) ?_
            refine V_icmp_ne 160 v22E tc_m4 d_Mod_test_152 (by decide) (fun c30 => ?_) (fun c30 => ?_)
            ·
              refine V_iload_n 2 d_Mod_test_160 rfl rfl ?_
              refine V_if_ne 169 aE d_Mod_test_161 (by decide) (fun c31 => ?_) (fun c31 => ?_)
              ·
                refine V_iload_n 3 d_Mod_test_169 rfl rfl ?_
                exact V_iret rfl d_Mod_test_170 ⟨v21, rfl, rfl⟩
              ·
                refine V_iload d_Mod_test_164 rfl ?_
                refine V_goto 170 d_Mod_test_166 (by decide) ?_
                exact V_iret rfl d_Mod_test_170 ⟨v22, rfl, rfl⟩
            ·
              refine V_bipush (-4) d_Mod_test_155 (by decide) ?_
              refine V_goto 170 d_Mod_test_157 (by decide) ?_
              exact V_iret rfl d_Mod_test_170 ⟨(-4), rfl, rfl⟩
          ·
            refine V_iconst 1 d_Mod_test_53 (by decide) ?_
            refine V_istore 6 [some (.ref 116), some (.int o), some (.int a), some (.int v21), some (.int v22), some (.int v23), some (.int 1), none, none, none] d_Mod_test_54 (by decide) rfl rfl ?_
            have L32 : ∀ (nn : Nat) (v34 : Int32) (v34Z : Int) (v35 : Int32) (v35Z : Int) (v36 : Int32) (v36Z : Int), v34.toInt = v34Z → v35.toInt = v35Z → v36.toInt = v36Z → 1 ≤ v36Z ∧ v36Z ≤ 3 → 3 - v36Z < (nn : Int) → V R_Mod b_Mod_test 10 (some .int) 3 79 (q_Mod_test h o oZ a aZ w wZ g gZ) h 56 [some (.ref 116), some (.int o), some (.int a), some (.int v34), some (.int v35), some (.int v23), some (.int v36), none, none, none] [] := by
              intro nn
              induction nn with
              | zero => intro v34 v34Z v35 v35Z v36 v36Z v34E v35E v36E q37 hm38; exact absurd hm38 (by omega)
              | succ nn ihL32 =>
                intro v34 v34Z v35 v35Z v36 v36Z v34E v35E v36E q37 hm38
                refine V_iload d_Mod_test_56 rfl ?_
                refine V_iconst 2 d_Mod_test_58 (by decide) ?_
                refine V_icmp_gt 142 v36E tc_2 d_Mod_test_59 (by decide) (fun c39 => ?_) (fun c39 => ?_)
                ·
                  obtain ⟨z40, z40E, z40e⟩ : ∃ y : Int32, y.toInt = v23Z + 1 ∧ y = v23 + Int32.ofInt 1 := ⟨_, ti_add v23E (by decide) (by omega), rfl⟩
                  refine V_iinc 5 [some (.ref 116), some (.int o), some (.int a), some (.int v34), some (.int v35), some (.int z40), some (.int v36), none, none, none] d_Mod_test_142 rfl z40e.symm (by decide) rfl rfl ?_
                  refine V_goto 44 d_Mod_test_145 (by decide) ?_
                  refine V_drop 6 [some (.ref 116), some (.int o), some (.int a), some (.int v34), some (.int v35), some (.int z40), none, none, none, none] rfl ?_
                  exact ihL19 v34 v34Z v35 v35Z z40 ((v23Z + 1)) v34E v35E z40E (by omega) (by omega)
                ·
                  have J41 : ∀ (v43 : Int32) (v43Z : Int) (v44 : Int32) (v44Z : Int), v43.toInt = v43Z → v44.toInt = v44Z → V R_Mod b_Mod_test 10 (some .int) 3 79 (q_Mod_test h o oZ a aZ w wZ g gZ) h 136 [some (.ref 116), some (.int o), some (.int a), some (.int v43), some (.int v44), some (.int v23), some (.int v36), none, none, none] [] := by
                    intro v43 v43Z v44 v44Z v43E v44E
                    obtain ⟨z45, z45E, z45e⟩ : ∃ y : Int32, y.toInt = v36Z + 1 ∧ y = v36 + Int32.ofInt 1 := ⟨_, ti_add v36E (by decide) (by omega), rfl⟩
                    refine V_iinc 6 [some (.ref 116), some (.int o), some (.int a), some (.int v43), some (.int v44), some (.int v23), some (.int z45), none, none, none] d_Mod_test_136 rfl z45e.symm (by decide) rfl rfl ?_
                    refine V_goto 56 d_Mod_test_139 (by decide) ?_
                    exact ihL32 v43 v43Z v44 v44Z z45 ((v36Z + 1)) v43E v44E z45E (by omega) (by omega)
                  refine V_aload_n 0 d_Mod_test_62 rfl rfl ?_
                  refine V_iload d_Mod_test_63 rfl ?_
                  refine V_iload_n 1 d_Mod_test_65 rfl rfl ?_
                  refine V_iload d_Mod_test_66 rfl ?_
                  refine V_iconst 1 d_Mod_test_68 (by decide) ?_
                  refine N_callVI [.int v23, .int o, .int v36, .int 1] [] cv_Mod_239 sk_116 rfl d_Mod_test_69 rfl (Nat.le_of_ble_eq_true rfl) (by decide) (by decide) (c_Mod_rodsBy h hI v23 v23Z v23E o oZ oE v36 v36Z v36E 1 1 tc_1 (by omega)) (fun z46 h47 z46Z z46E p48 => ?_)
                  subst p48
                  refine V_istore 7 [some (.ref 116), some (.int o), some (.int a), some (.int v34), some (.int v35), some (.int v23), some (.int v36), some (.int z46), none, none] d_Mod_test_72 (by decide) rfl rfl ?_
                  refine V_aload_n 0 d_Mod_test_74 rfl rfl ?_
                  refine V_iload d_Mod_test_75 rfl ?_
                  refine V_iload_n 1 d_Mod_test_77 rfl rfl ?_
                  refine V_iload d_Mod_test_78 rfl ?_
                  refine V_iconst 0 d_Mod_test_80 (by decide) ?_
                  refine N_callVI [.int v23, .int o, .int v36, .int 0] [] cv_Mod_239 sk_116 rfl d_Mod_test_81 rfl (Nat.le_of_ble_eq_true rfl) (by decide) (by decide) (c_Mod_rodsBy h hI v23 v23Z v23E o oZ oE v36 v36Z v36E 0 0 tc_0 (by omega)) (fun z49 h50 z49Z z49E p51 => ?_)
                  subst p51
                  refine V_istore 8 [some (.ref 116), some (.int o), some (.int a), some (.int v34), some (.int v35), some (.int v23), some (.int v36), some (.int z46), some (.int z49), none] d_Mod_test_84 (by decide) rfl rfl ?_
                  refine V_iload d_Mod_test_86 rfl ?_
                  refine V_iload d_Mod_test_88 rfl ?_
                  refine V_icmp_le 98 z46E z49E d_Mod_test_90 (by decide) (fun c52 => ?_) (fun c52 => ?_)
                  ·
                    refine V_iload d_Mod_test_98 rfl ?_
                    refine V_istore 9 [some (.ref 116), some (.int o), some (.int a), some (.int v34), some (.int v35), some (.int v23), some (.int v36), some (.int z46), some (.int z49), some (.int z49)] d_Mod_test_100 (by decide) rfl rfl ?_
                    refine V_iload d_Mod_test_102 rfl ?_
                    refine V_iload_n 3 d_Mod_test_104 rfl rfl ?_
                    refine V_icmp_ge 119 z49E v34E d_Mod_test_105 (by decide) (fun c53 => ?_) (fun c53 => ?_)
                    ·
                      refine V_iload d_Mod_test_119 rfl ?_
                      refine V_istore 4 [some (.ref 116), some (.int o), some (.int a), some (.int v34), some (.int v35), some (.int v23), some (.int v36), some (.int z46), some (.int z49), some (.int z49)] d_Mod_test_121 (by decide) rfl rfl ?_
                      refine V_iload d_Mod_test_123 rfl ?_
                      refine V_iload_n 3 d_Mod_test_125 rfl rfl ?_
                      refine V_icmp_ge 134 z49E v34E d_Mod_test_126 (by decide) (fun c54 => ?_) (fun c54 => ?_)
                      ·
                        refine V_iload_n 3 d_Mod_test_134 rfl rfl ?_
                        refine V_istore_n 3 [some (.ref 116), some (.int o), some (.int a), some (.int v34), some (.int v35), some (.int v23), some (.int v36), some (.int z46), some (.int z49), some (.int z49)] d_Mod_test_135 rfl (by decide) rfl rfl ?_
                        refine V_drop 7 [some (.ref 116), some (.int o), some (.int a), some (.int v34), some (.int v35), some (.int v23), some (.int v36), none, some (.int z49), some (.int z49)] rfl ?_
                        refine V_drop 8 [some (.ref 116), some (.int o), some (.int a), some (.int v34), some (.int v35), some (.int v23), some (.int v36), none, none, some (.int z49)] rfl ?_
                        refine V_drop 9 [some (.ref 116), some (.int o), some (.int a), some (.int v34), some (.int v35), some (.int v23), some (.int v36), none, none, none] rfl ?_
                        exact J41 v34 v34Z v35 v35Z v34E v35E
                      ·
                        refine V_iload d_Mod_test_129 rfl ?_
                        refine V_goto 135 d_Mod_test_131 (by decide) ?_
                        refine V_istore_n 3 [some (.ref 116), some (.int o), some (.int a), some (.int z49), some (.int v35), some (.int v23), some (.int v36), some (.int z46), some (.int z49), some (.int z49)] d_Mod_test_135 rfl (by decide) rfl rfl ?_
                        refine V_drop 7 [some (.ref 116), some (.int o), some (.int a), some (.int z49), some (.int v35), some (.int v23), some (.int v36), none, some (.int z49), some (.int z49)] rfl ?_
                        refine V_drop 8 [some (.ref 116), some (.int o), some (.int a), some (.int z49), some (.int v35), some (.int v23), some (.int v36), none, none, some (.int z49)] rfl ?_
                        refine V_drop 9 [some (.ref 116), some (.int o), some (.int a), some (.int z49), some (.int v35), some (.int v23), some (.int v36), none, none, none] rfl ?_
                        exact J41 z49 z49Z v35 v35Z z49E v35E
                    ·
                      refine V_bipush 10 d_Mod_test_108 (by decide) ?_
                      refine V_iload d_Mod_test_110 rfl ?_
                      refine V_imul tc_10 v23E (by omega) d_Mod_test_112 (fun z55 z55e z55E => ?_)
                      refine V_iload d_Mod_test_113 rfl ?_
                      refine V_iadd z55E v36E (by omega) d_Mod_test_115 (fun z56 z56e z56E => ?_)
                      refine V_goto 121 d_Mod_test_116 (by decide) ?_
                      refine V_istore 4 [some (.ref 116), some (.int o), some (.int a), some (.int v34), some (.int z56), some (.int v23), some (.int v36), some (.int z46), some (.int z49), some (.int z49)] d_Mod_test_121 (by decide) rfl rfl ?_
                      refine V_iload d_Mod_test_123 rfl ?_
                      refine V_iload_n 3 d_Mod_test_125 rfl rfl ?_
                      refine V_icmp_ge 134 z49E v34E d_Mod_test_126 (by decide) (fun c57 => ?_) (fun c57 => ?_)
                      ·
                        refine V_iload_n 3 d_Mod_test_134 rfl rfl ?_
                        refine V_istore_n 3 [some (.ref 116), some (.int o), some (.int a), some (.int v34), some (.int z56), some (.int v23), some (.int v36), some (.int z46), some (.int z49), some (.int z49)] d_Mod_test_135 rfl (by decide) rfl rfl ?_
                        refine V_drop 7 [some (.ref 116), some (.int o), some (.int a), some (.int v34), some (.int z56), some (.int v23), some (.int v36), none, some (.int z49), some (.int z49)] rfl ?_
                        refine V_drop 8 [some (.ref 116), some (.int o), some (.int a), some (.int v34), some (.int z56), some (.int v23), some (.int v36), none, none, some (.int z49)] rfl ?_
                        refine V_drop 9 [some (.ref 116), some (.int o), some (.int a), some (.int v34), some (.int z56), some (.int v23), some (.int v36), none, none, none] rfl ?_
                        exact J41 v34 v34Z z56 (((10 * v23Z) + v36Z)) v34E z56E
                      ·
                        refine V_iload d_Mod_test_129 rfl ?_
                        refine V_goto 135 d_Mod_test_131 (by decide) ?_
                        refine V_istore_n 3 [some (.ref 116), some (.int o), some (.int a), some (.int z49), some (.int z56), some (.int v23), some (.int v36), some (.int z46), some (.int z49), some (.int z49)] d_Mod_test_135 rfl (by decide) rfl rfl ?_
                        refine V_drop 7 [some (.ref 116), some (.int o), some (.int a), some (.int z49), some (.int z56), some (.int v23), some (.int v36), none, some (.int z49), some (.int z49)] rfl ?_
                        refine V_drop 8 [some (.ref 116), some (.int o), some (.int a), some (.int z49), some (.int z56), some (.int v23), some (.int v36), none, none, some (.int z49)] rfl ?_
                        refine V_drop 9 [some (.ref 116), some (.int o), some (.int a), some (.int z49), some (.int z56), some (.int v23), some (.int v36), none, none, none] rfl ?_
                        exact J41 z49 z49Z z56 (((10 * v23Z) + v36Z)) z49E z56E
                  ·
                    refine V_iload d_Mod_test_93 rfl ?_
                    refine V_goto 100 d_Mod_test_95 (by decide) ?_
                    refine V_istore 9 [some (.ref 116), some (.int o), some (.int a), some (.int v34), some (.int v35), some (.int v23), some (.int v36), some (.int z46), some (.int z49), some (.int z46)] d_Mod_test_100 (by decide) rfl rfl ?_
                    refine V_iload d_Mod_test_102 rfl ?_
                    refine V_iload_n 3 d_Mod_test_104 rfl rfl ?_
                    refine V_icmp_ge 119 z46E v34E d_Mod_test_105 (by decide) (fun c58 => ?_) (fun c58 => ?_)
                    ·
                      refine V_iload d_Mod_test_119 rfl ?_
                      refine V_istore 4 [some (.ref 116), some (.int o), some (.int a), some (.int v34), some (.int v35), some (.int v23), some (.int v36), some (.int z46), some (.int z49), some (.int z46)] d_Mod_test_121 (by decide) rfl rfl ?_
                      refine V_iload d_Mod_test_123 rfl ?_
                      refine V_iload_n 3 d_Mod_test_125 rfl rfl ?_
                      refine V_icmp_ge 134 z46E v34E d_Mod_test_126 (by decide) (fun c59 => ?_) (fun c59 => ?_)
                      ·
                        refine V_iload_n 3 d_Mod_test_134 rfl rfl ?_
                        refine V_istore_n 3 [some (.ref 116), some (.int o), some (.int a), some (.int v34), some (.int v35), some (.int v23), some (.int v36), some (.int z46), some (.int z49), some (.int z46)] d_Mod_test_135 rfl (by decide) rfl rfl ?_
                        refine V_drop 7 [some (.ref 116), some (.int o), some (.int a), some (.int v34), some (.int v35), some (.int v23), some (.int v36), none, some (.int z49), some (.int z46)] rfl ?_
                        refine V_drop 8 [some (.ref 116), some (.int o), some (.int a), some (.int v34), some (.int v35), some (.int v23), some (.int v36), none, none, some (.int z46)] rfl ?_
                        refine V_drop 9 [some (.ref 116), some (.int o), some (.int a), some (.int v34), some (.int v35), some (.int v23), some (.int v36), none, none, none] rfl ?_
                        exact J41 v34 v34Z v35 v35Z v34E v35E
                      ·
                        refine V_iload d_Mod_test_129 rfl ?_
                        refine V_goto 135 d_Mod_test_131 (by decide) ?_
                        refine V_istore_n 3 [some (.ref 116), some (.int o), some (.int a), some (.int z46), some (.int v35), some (.int v23), some (.int v36), some (.int z46), some (.int z49), some (.int z46)] d_Mod_test_135 rfl (by decide) rfl rfl ?_
                        refine V_drop 7 [some (.ref 116), some (.int o), some (.int a), some (.int z46), some (.int v35), some (.int v23), some (.int v36), none, some (.int z49), some (.int z46)] rfl ?_
                        refine V_drop 8 [some (.ref 116), some (.int o), some (.int a), some (.int z46), some (.int v35), some (.int v23), some (.int v36), none, none, some (.int z46)] rfl ?_
                        refine V_drop 9 [some (.ref 116), some (.int o), some (.int a), some (.int z46), some (.int v35), some (.int v23), some (.int v36), none, none, none] rfl ?_
                        exact J41 z46 z46Z v35 v35Z z46E v35E
                    ·
                      refine V_bipush 10 d_Mod_test_108 (by decide) ?_
                      refine V_iload d_Mod_test_110 rfl ?_
                      refine V_imul tc_10 v23E (by omega) d_Mod_test_112 (fun z60 z60e z60E => ?_)
                      refine V_iload d_Mod_test_113 rfl ?_
                      refine V_iadd z60E v36E (by omega) d_Mod_test_115 (fun z61 z61e z61E => ?_)
                      refine V_goto 121 d_Mod_test_116 (by decide) ?_
                      refine V_istore 4 [some (.ref 116), some (.int o), some (.int a), some (.int v34), some (.int z61), some (.int v23), some (.int v36), some (.int z46), some (.int z49), some (.int z46)] d_Mod_test_121 (by decide) rfl rfl ?_
                      refine V_iload d_Mod_test_123 rfl ?_
                      refine V_iload_n 3 d_Mod_test_125 rfl rfl ?_
                      refine V_icmp_ge 134 z46E v34E d_Mod_test_126 (by decide) (fun c62 => ?_) (fun c62 => ?_)
                      ·
                        refine V_iload_n 3 d_Mod_test_134 rfl rfl ?_
                        refine V_istore_n 3 [some (.ref 116), some (.int o), some (.int a), some (.int v34), some (.int z61), some (.int v23), some (.int v36), some (.int z46), some (.int z49), some (.int z46)] d_Mod_test_135 rfl (by decide) rfl rfl ?_
                        refine V_drop 7 [some (.ref 116), some (.int o), some (.int a), some (.int v34), some (.int z61), some (.int v23), some (.int v36), none, some (.int z49), some (.int z46)] rfl ?_
                        refine V_drop 8 [some (.ref 116), some (.int o), some (.int a), some (.int v34), some (.int z61), some (.int v23), some (.int v36), none, none, some (.int z46)] rfl ?_
                        refine V_drop 9 [some (.ref 116), some (.int o), some (.int a), some (.int v34), some (.int z61), some (.int v23), some (.int v36), none, none, none] rfl ?_
                        exact J41 v34 v34Z z61 (((10 * v23Z) + v36Z)) v34E z61E
                      ·
                        refine V_iload d_Mod_test_129 rfl ?_
                        refine V_goto 135 d_Mod_test_131 (by decide) ?_
                        refine V_istore_n 3 [some (.ref 116), some (.int o), some (.int a), some (.int z46), some (.int z61), some (.int v23), some (.int v36), some (.int z46), some (.int z49), some (.int z46)] d_Mod_test_135 rfl (by decide) rfl rfl ?_
                        refine V_drop 7 [some (.ref 116), some (.int o), some (.int a), some (.int z46), some (.int z61), some (.int v23), some (.int v36), none, some (.int z49), some (.int z46)] rfl ?_
                        refine V_drop 8 [some (.ref 116), some (.int o), some (.int a), some (.int z46), some (.int z61), some (.int v23), some (.int v36), none, none, some (.int z46)] rfl ?_
                        refine V_drop 9 [some (.ref 116), some (.int o), some (.int a), some (.int z46), some (.int z61), some (.int v23), some (.int v36), none, none, none] rfl ?_
                        exact J41 z46 z46Z z61 (((10 * v23Z) + v36Z)) z46E z61E
            exact L32 (Int.toNat ((3 - 1 : Int) + 1)) v21 v21Z v22 v22Z 1 1 v21E v22E tc_1 (by omega) (by omega)
      exact L19 (Int.toNat ((16 - 0 : Int) + 1)) z18 z18Z (-4) ((-4)) 0 0 z18E tc_m4 tc_0 (by omega) (by omega)
    ·
      refine V_iconst (-1) d_Mod_test_17 (by decide) ?_
      exact V_iret rfl d_Mod_test_18 ⟨(-1), rfl, rfl⟩
end
section
theorem cb_Mod_beside : CB y_Mod_beside b_Mod_beside 4 (some .int) 2 := ⟨vv_Gin (List.mem_append_right _ (List.mem_append_right _ (List.mem_append_right _ (List.mem_append_right _ (List.mem_append_right _ (List.mem_append_right _ (List.mem_of_getElem? (i := 87) rfl))))))) rfl, by decide +kernel, vv_Gin (List.mem_append_right _ (List.mem_append_left _ (List.mem_of_getElem? (i := 13) rfl))) rfl⟩
theorem im_Mod_beside : Cond.instanceMethod y_Mod_beside ∈ vv_G := vv_Gin (List.mem_append_right _ (List.mem_append_right _ (List.mem_append_right _ (List.mem_append_right _ (List.mem_append_right _ (List.mem_append_right _ (List.mem_of_getElem? (i := 86) rfl))))))) rfl
theorem se_Mod_beside : Cond.selects y_Mod_beside.cls y_Mod_beside y_Mod_beside ∈ vv_G := vv_Gin (List.mem_append_left _ (List.mem_of_getElem? (i := 46) rfl)) rfl
theorem cv_Mod_243 : CV R_Mod 243 y_Mod_beside b_Mod_beside 4 (some .int) 2 := ⟨cb_Mod_beside, im_Mod_beside, se_Mod_beside, vv_Gin (List.mem_append_right _ (List.mem_append_right _ (List.mem_append_right _ (List.mem_append_right _ (List.mem_append_right _ (List.mem_append_right _ (List.mem_of_getElem? (i := 84) rfl))))))) rfl⟩
theorem fa_Mod_26 : FA R_Mod 26 11 22 := ⟨_, _, _, rfl, i_Mod, by decide, vv_Gin (List.mem_append_right _ (List.mem_append_right _ (List.mem_append_right _ (List.mem_append_right _ (List.mem_append_right _ (List.mem_append_left _ (List.mem_of_getElem? (i := 5) rfl))))))) rfl⟩
theorem cb_Mod_bestBeside : CB y_Mod_bestBeside b_Mod_bestBeside 6 (some .int) 2 := ⟨vv_Gin (List.mem_append_right _ (List.mem_append_right _ (List.mem_append_right _ (List.mem_append_right _ (List.mem_append_right _ (List.mem_append_right _ (List.mem_of_getElem? (i := 83) rfl))))))) rfl, by decide +kernel, vv_Gin (List.mem_append_right _ (List.mem_append_left _ (List.mem_of_getElem? (i := 13) rfl))) rfl⟩
theorem im_Mod_bestBeside : Cond.instanceMethod y_Mod_bestBeside ∈ vv_G := vv_Gin (List.mem_append_right _ (List.mem_append_right _ (List.mem_append_right _ (List.mem_append_right _ (List.mem_append_right _ (List.mem_append_right _ (List.mem_of_getElem? (i := 82) rfl))))))) rfl
theorem se_Mod_bestBeside : Cond.selects y_Mod_bestBeside.cls y_Mod_bestBeside y_Mod_bestBeside ∈ vv_G := vv_Gin (List.mem_append_left _ (List.mem_of_getElem? (i := 45) rfl)) rfl
theorem cv_Mod_246 : CV R_Mod 246 y_Mod_bestBeside b_Mod_bestBeside 6 (some .int) 2 := ⟨cb_Mod_bestBeside, im_Mod_bestBeside, se_Mod_bestBeside, vv_Gin (List.mem_append_right _ (List.mem_append_right _ (List.mem_append_right _ (List.mem_append_right _ (List.mem_append_right _ (List.mem_append_right _ (List.mem_of_getElem? (i := 80) rfl))))))) rfl⟩
theorem cb_Mod_showsIn : CB y_Mod_showsIn b_Mod_showsIn 4 (some .int) 3 := ⟨vv_Gin (List.mem_append_right _ (List.mem_append_right _ (List.mem_append_right _ (List.mem_append_right _ (List.mem_append_right _ (List.mem_append_right _ (List.mem_of_getElem? (i := 91) rfl))))))) rfl, by decide +kernel, vv_Gin (List.mem_append_right _ (List.mem_append_left _ (List.mem_of_getElem? (i := 13) rfl))) rfl⟩
theorem im_Mod_showsIn : Cond.instanceMethod y_Mod_showsIn ∈ vv_G := vv_Gin (List.mem_append_right _ (List.mem_append_right _ (List.mem_append_right _ (List.mem_append_right _ (List.mem_append_right _ (List.mem_append_right _ (List.mem_of_getElem? (i := 90) rfl))))))) rfl
theorem se_Mod_showsIn : Cond.selects y_Mod_showsIn.cls y_Mod_showsIn y_Mod_showsIn ∈ vv_G := vv_Gin (List.mem_append_left _ (List.mem_of_getElem? (i := 47) rfl)) rfl
theorem cv_Mod_249 : CV R_Mod 249 y_Mod_showsIn b_Mod_showsIn 4 (some .int) 3 := ⟨cb_Mod_showsIn, im_Mod_showsIn, se_Mod_showsIn, vv_Gin (List.mem_append_right _ (List.mem_append_right _ (List.mem_append_right _ (List.mem_append_right _ (List.mem_append_right _ (List.mem_append_right _ (List.mem_of_getElem? (i := 88) rfl))))))) rfl⟩
theorem wl_Mod_253 : Cond.constantLong R_Mod 253 6 ∈ vv_G := by decide +kernel
theorem tl_6 : (6 : Int64).toInt = 6 := rfl
theorem cb_Mod_findShown : CB y_Mod_findShown b_Mod_findShown 6 none 2 := ⟨vv_Gin (List.mem_append_right _ (List.mem_append_right _ (List.mem_append_right _ (List.mem_append_right _ (List.mem_append_right _ (List.mem_append_right _ (List.mem_of_getElem? (i := 79) rfl))))))) rfl, by decide +kernel, vv_Gin (List.mem_append_right _ (List.mem_append_left _ (List.mem_of_getElem? (i := 13) rfl))) rfl⟩
theorem im_Mod_findShown : Cond.instanceMethod y_Mod_findShown ∈ vv_G := vv_Gin (List.mem_append_right _ (List.mem_append_right _ (List.mem_append_right _ (List.mem_append_right _ (List.mem_append_right _ (List.mem_append_right _ (List.mem_of_getElem? (i := 78) rfl))))))) rfl
theorem se_Mod_findShown : Cond.selects y_Mod_findShown.cls y_Mod_findShown y_Mod_findShown ∈ vv_G := vv_Gin (List.mem_append_left _ (List.mem_of_getElem? (i := 44) rfl)) rfl
theorem cv_Mod_255 : CV R_Mod 255 y_Mod_findShown b_Mod_findShown 6 none 2 := ⟨cb_Mod_findShown, im_Mod_findShown, se_Mod_findShown, vv_Gin (List.mem_append_right _ (List.mem_append_right _ (List.mem_append_right _ (List.mem_append_right _ (List.mem_append_right _ (List.mem_append_right _ (List.mem_of_getElem? (i := 76) rfl))))))) rfl⟩
theorem tc_999 : (999 : Int32).toInt = 999 := rfl
theorem wl_Mod_259 : Cond.constantLong R_Mod 259 10000 ∈ vv_G := by decide +kernel
theorem tl_10000 : (10000 : Int64).toInt = 10000 := rfl
theorem fa_Mod_29 : FA R_Mod 29 11 23 := ⟨_, _, _, rfl, i_Mod, by decide, vv_Gin (List.mem_append_right _ (List.mem_append_right _ (List.mem_append_right _ (List.mem_append_right _ (List.mem_append_right _ (List.mem_append_left _ (List.mem_of_getElem? (i := 6) rfl))))))) rfl⟩
theorem d_Mod_beside_0 : decode b_Mod_beside 0 = .ok (.iload_n 1, 1) := dc_27 (by decide +kernel)
theorem d_Mod_beside_1 : decode b_Mod_beside 1 = .ok (.aload_n 0, 1) := dc_42 (by decide +kernel)
theorem d_Mod_beside_2 : decode b_Mod_beside 2 = .ok (.getfield 81, 3) := dc_180 (a := 0) (b := 81) (by decide +kernel) rfl
theorem d_Mod_beside_5 : decode b_Mod_beside 5 = .ok (.irem, 1) := dc_112 (by decide +kernel)
theorem d_Mod_beside_6 : decode b_Mod_beside 6 = .ok (.istore_n 3, 1) := dc_62 (by decide +kernel)
theorem d_Mod_beside_7 : decode b_Mod_beside 7 = .ok (.iload_n 2, 1) := dc_28 (by decide +kernel)
theorem d_Mod_beside_8 : decode b_Mod_beside 8 = .ok (.tableswitch 80 0 2 #[28, 48, 61], 28) := by decide +kernel
theorem d_Mod_beside_36 : decode b_Mod_beside 36 = .ok (.iload_n 1, 1) := dc_27 (by decide +kernel)
theorem d_Mod_beside_37 : decode b_Mod_beside 37 = .ok (.aload_n 0, 1) := dc_42 (by decide +kernel)
theorem d_Mod_beside_38 : decode b_Mod_beside 38 = .ok (.getfield 81, 3) := dc_180 (a := 0) (b := 81) (by decide +kernel) rfl
theorem d_Mod_beside_41 : decode b_Mod_beside 41 = .ok (.if_icmp .lt 12, 3) := dc_161 (a := 0) (b := 12) (by decide +kernel) rfl
theorem d_Mod_beside_44 : decode b_Mod_beside 44 = .ok (.iload_n 1, 1) := dc_27 (by decide +kernel)
theorem d_Mod_beside_45 : decode b_Mod_beside 45 = .ok (.aload_n 0, 1) := dc_42 (by decide +kernel)
theorem d_Mod_beside_46 : decode b_Mod_beside 46 = .ok (.getfield 81, 3) := dc_180 (a := 0) (b := 81) (by decide +kernel) rfl
theorem d_Mod_beside_49 : decode b_Mod_beside 49 = .ok (.isub, 1) := dc_100 (by decide +kernel)
theorem d_Mod_beside_50 : decode b_Mod_beside 50 = .ok (.goto 5, 3) := dc_167 (a := 0) (b := 5) (by decide +kernel) rfl
theorem d_Mod_beside_53 : decode b_Mod_beside 53 = .ok (.bipush (-4), 2) := dc_16 (a := 252) (by decide +kernel) rfl
theorem d_Mod_beside_55 : decode b_Mod_beside 55 = .ok (.ireturn, 1) := dc_172 (by decide +kernel)
theorem d_Mod_beside_56 : decode b_Mod_beside 56 = .ok (.iload_n 3, 1) := dc_29 (by decide +kernel)
theorem d_Mod_beside_57 : decode b_Mod_beside 57 = .ok (.ifCond .le 9, 3) := dc_158 (a := 0) (b := 9) (by decide +kernel) rfl
theorem d_Mod_beside_60 : decode b_Mod_beside 60 = .ok (.iload_n 1, 1) := dc_27 (by decide +kernel)
theorem d_Mod_beside_61 : decode b_Mod_beside 61 = .ok (.iconst 1, 1) := dc_4 (by decide +kernel)
theorem d_Mod_beside_62 : decode b_Mod_beside 62 = .ok (.isub, 1) := dc_100 (by decide +kernel)
theorem d_Mod_beside_63 : decode b_Mod_beside 63 = .ok (.goto 5, 3) := dc_167 (a := 0) (b := 5) (by decide +kernel) rfl
theorem d_Mod_beside_66 : decode b_Mod_beside 66 = .ok (.bipush (-4), 2) := dc_16 (a := 252) (by decide +kernel) rfl
theorem d_Mod_beside_68 : decode b_Mod_beside 68 = .ok (.ireturn, 1) := dc_172 (by decide +kernel)
theorem d_Mod_beside_69 : decode b_Mod_beside 69 = .ok (.iload_n 3, 1) := dc_29 (by decide +kernel)
theorem d_Mod_beside_70 : decode b_Mod_beside 70 = .ok (.iconst 1, 1) := dc_4 (by decide +kernel)
theorem d_Mod_beside_71 : decode b_Mod_beside 71 = .ok (.iadd, 1) := dc_96 (by decide +kernel)
theorem d_Mod_beside_72 : decode b_Mod_beside 72 = .ok (.aload_n 0, 1) := dc_42 (by decide +kernel)
theorem d_Mod_beside_73 : decode b_Mod_beside 73 = .ok (.getfield 81, 3) := dc_180 (a := 0) (b := 81) (by decide +kernel) rfl
theorem d_Mod_beside_76 : decode b_Mod_beside 76 = .ok (.if_icmp .ge 9, 3) := dc_162 (a := 0) (b := 9) (by decide +kernel) rfl
theorem d_Mod_beside_79 : decode b_Mod_beside 79 = .ok (.iload_n 1, 1) := dc_27 (by decide +kernel)
theorem d_Mod_beside_80 : decode b_Mod_beside 80 = .ok (.iconst 1, 1) := dc_4 (by decide +kernel)
theorem d_Mod_beside_81 : decode b_Mod_beside 81 = .ok (.iadd, 1) := dc_96 (by decide +kernel)
theorem d_Mod_beside_82 : decode b_Mod_beside 82 = .ok (.goto 5, 3) := dc_167 (a := 0) (b := 5) (by decide +kernel) rfl
theorem d_Mod_beside_85 : decode b_Mod_beside 85 = .ok (.bipush (-4), 2) := dc_16 (a := 252) (by decide +kernel) rfl
theorem d_Mod_beside_87 : decode b_Mod_beside 87 = .ok (.ireturn, 1) := dc_172 (by decide +kernel)
theorem d_Mod_beside_88 : decode b_Mod_beside 88 = .ok (.iload_n 1, 1) := dc_27 (by decide +kernel)
theorem d_Mod_beside_89 : decode b_Mod_beside 89 = .ok (.aload_n 0, 1) := dc_42 (by decide +kernel)
theorem d_Mod_beside_90 : decode b_Mod_beside 90 = .ok (.getfield 81, 3) := dc_180 (a := 0) (b := 81) (by decide +kernel) rfl
theorem d_Mod_beside_93 : decode b_Mod_beside 93 = .ok (.iadd, 1) := dc_96 (by decide +kernel)
theorem d_Mod_beside_94 : decode b_Mod_beside 94 = .ok (.aload_n 0, 1) := dc_42 (by decide +kernel)
theorem d_Mod_beside_95 : decode b_Mod_beside 95 = .ok (.invokevirtual 183, 3) := dc_182 (a := 0) (b := 183) (by decide +kernel) rfl
theorem d_Mod_beside_98 : decode b_Mod_beside 98 = .ok (.if_icmp .ge 12, 3) := dc_162 (a := 0) (b := 12) (by decide +kernel) rfl
theorem d_Mod_beside_101 : decode b_Mod_beside 101 = .ok (.iload_n 1, 1) := dc_27 (by decide +kernel)
theorem d_Mod_beside_102 : decode b_Mod_beside 102 = .ok (.aload_n 0, 1) := dc_42 (by decide +kernel)
theorem d_Mod_beside_103 : decode b_Mod_beside 103 = .ok (.getfield 81, 3) := dc_180 (a := 0) (b := 81) (by decide +kernel) rfl
theorem d_Mod_beside_106 : decode b_Mod_beside 106 = .ok (.iadd, 1) := dc_96 (by decide +kernel)
theorem d_Mod_beside_107 : decode b_Mod_beside 107 = .ok (.goto 5, 3) := dc_167 (a := 0) (b := 5) (by decide +kernel) rfl
theorem d_Mod_beside_110 : decode b_Mod_beside 110 = .ok (.bipush (-4), 2) := dc_16 (a := 252) (by decide +kernel) rfl
theorem d_Mod_beside_112 : decode b_Mod_beside 112 = .ok (.ireturn, 1) := dc_172 (by decide +kernel)
abbrev q_Mod_beside (h : Hp) (c : Int32) (cZ : Int) (a : Int32) (aZ : Int) (w : Int32) (wZ : Int) (g : Int32) (gZ : Int) : Option Value → Hp → Prop := pInt (fun r h' => h = h' ∧ ((-4 ≤ r.toInt ∨ cZ - 1 ≤ r.toInt) ∧ (r.toInt ≤ 15 ∨ r.toInt ≤ cZ + 1)))
set_option maxRecDepth 100000 in
theorem c_Mod_beside (h : Hp) (hI : Inv h) (c : Int32) (cZ : Int) (cE : c.toInt = cZ) (a : Int32) (aZ : Int) (aE : a.toInt = aZ) (w : Int32) (wZ : Int) (wE : w.toInt = wZ) (wK : h.1 116 2 = w) (g : Int32) (gZ : Int) (gE : g.toInt = gZ) (gK : h.1 116 3 = g) (hy0 : -20 ≤ cZ ∧ cZ ≤ 40) : Ct y_Mod_beside b_Mod_beside 4 (some .int) 1 20 [.ref 116, .int c, .int a] h (q_Mod_beside h c cZ a aZ w wZ g gZ) := by
  refine ct_ow R_Mod [some (.ref 116), some (.int c), some (.int a), none] rfl (by decide) rfl (Nat.le_of_ble_eq_true rfl) ?_
  have f0 : fr [] h h := fr_rf
  have g1 : 2 ≤ wZ ∧ wZ ≤ 4 := inv_at hI wE wK.symm rfl
  have g2 : 2 ≤ gZ ∧ gZ ≤ 4 := inv_at hI gE gK.symm rfl
  refine V_iload_n 1 d_Mod_beside_0 rfl rfl ?_
  refine V_aload_n 0 d_Mod_beside_1 rfl rfl ?_
  refine N_getK fa_Mod_81 sk_116 rfl d_Mod_beside_2 wK ?_
  refine N_iremg wE (by omega) d_Mod_beside_5 (fun z3 z3Z z3E z3e => ?_)
  refine V_istore_n 3 [some (.ref 116), some (.int c), some (.int a), some (.int z3)] d_Mod_beside_6 rfl (by decide) rfl rfl ?_
  refine V_iload_n 2 d_Mod_beside_7 rfl rfl ?_
  rcases (by omega : (aZ < 0 ∨ 2 < aZ) ∨ aZ = 0 ∨ aZ = 1 ∨ aZ = 2) with c4 | c4 | c4 | c4
  ·
    refine V_tabOut 88 aE d_Mod_beside_8 c4 (by decide) ?_
    refine V_iload_n 1 d_Mod_beside_88 rfl rfl ?_
    refine V_aload_n 0 d_Mod_beside_89 rfl rfl ?_
    refine N_getK fa_Mod_81 sk_116 rfl d_Mod_beside_90 wK ?_
    refine V_iadd cE wE (by omega) d_Mod_beside_93 (fun z5 z5e z5E => ?_)
    refine V_aload_n 0 d_Mod_beside_94 rfl rfl ?_
    refine N_callVI [] [.int z5] cv_Mod_183 sk_116 rfl d_Mod_beside_95 rfl (Nat.le_of_ble_eq_true rfl) (by decide) (by decide) (c_Mod_cellMany h hI w wZ wE wK g gZ gE gK) (fun z6 h7 z6Z z6E p8 => ?_)
    obtain ⟨eh7, p8⟩ := p8
    subst eh7
    refine V_icmp_ge 110 z5E z6E d_Mod_beside_98 (by decide) (fun c9 => ?_) (fun c9 => ?_)
    ·
      refine V_bipush (-4) d_Mod_beside_110 (by decide) ?_
      exact V_iret rfl d_Mod_beside_112 ⟨(-4), rfl, ⟨rfl, (by (try rw [show Int32.toInt (-4) = (-4) from rfl]); omega)⟩⟩
    ·
      refine V_iload_n 1 d_Mod_beside_101 rfl rfl ?_
      refine V_aload_n 0 d_Mod_beside_102 rfl rfl ?_
      refine N_getK fa_Mod_81 sk_116 rfl d_Mod_beside_103 wK ?_
      refine V_iadd cE wE (by omega) d_Mod_beside_106 (fun z10 z10e z10E => ?_)
      refine V_goto 112 d_Mod_beside_107 (by decide) ?_
      exact V_iret rfl d_Mod_beside_112 ⟨z10, rfl, ⟨rfl, (by (try rw [z10E]); omega)⟩⟩
  ·
    refine V_tabIn 36 aE d_Mod_beside_8 (by omega) (by omega) (by rw [c4]; rfl) (by decide) ?_
    refine V_iload_n 1 d_Mod_beside_36 rfl rfl ?_
    refine V_aload_n 0 d_Mod_beside_37 rfl rfl ?_
    refine N_getK fa_Mod_81 sk_116 rfl d_Mod_beside_38 wK ?_
    refine V_icmp_lt 53 cE wE d_Mod_beside_41 (by decide) (fun c11 => ?_) (fun c11 => ?_)
    ·
      refine V_bipush (-4) d_Mod_beside_53 (by decide) ?_
      exact V_iret rfl d_Mod_beside_55 ⟨(-4), rfl, ⟨rfl, (by (try rw [show Int32.toInt (-4) = (-4) from rfl]); omega)⟩⟩
    ·
      refine V_iload_n 1 d_Mod_beside_44 rfl rfl ?_
      refine V_aload_n 0 d_Mod_beside_45 rfl rfl ?_
      refine N_getK fa_Mod_81 sk_116 rfl d_Mod_beside_46 wK ?_
      refine V_isub cE wE (by omega) d_Mod_beside_49 (fun z12 z12e z12E => ?_)
      refine V_goto 55 d_Mod_beside_50 (by decide) ?_
      exact V_iret rfl d_Mod_beside_55 ⟨z12, rfl, ⟨rfl, (by (try rw [z12E]); omega)⟩⟩
  ·
    refine V_tabIn 56 aE d_Mod_beside_8 (by omega) (by omega) (by rw [c4]; rfl) (by decide) ?_
    refine V_iload_n 3 d_Mod_beside_56 rfl rfl ?_
    refine V_if_le 66 z3E d_Mod_beside_57 (by decide) (fun c13 => ?_) (fun c13 => ?_)
    ·
      refine V_bipush (-4) d_Mod_beside_66 (by decide) ?_
      exact V_iret rfl d_Mod_beside_68 ⟨(-4), rfl, ⟨rfl, (by (try rw [show Int32.toInt (-4) = (-4) from rfl]); omega)⟩⟩
    ·
      refine V_iload_n 1 d_Mod_beside_60 rfl rfl ?_
      refine V_iconst 1 d_Mod_beside_61 (by decide) ?_
      refine V_isub cE tc_1 (by omega) d_Mod_beside_62 (fun z14 z14e z14E => ?_)
      refine V_goto 68 d_Mod_beside_63 (by decide) ?_
      exact V_iret rfl d_Mod_beside_68 ⟨z14, rfl, ⟨rfl, (by (try rw [z14E]); omega)⟩⟩
  ·
    refine V_tabIn 69 aE d_Mod_beside_8 (by omega) (by omega) (by rw [c4]; rfl) (by decide) ?_
    refine V_iload_n 3 d_Mod_beside_69 rfl rfl ?_
    refine V_iconst 1 d_Mod_beside_70 (by decide) ?_
    refine N_iaddw d_Mod_beside_71 (fun z15 z15Z z15E z15e => ?_)
    refine V_aload_n 0 d_Mod_beside_72 rfl rfl ?_
    refine N_getK fa_Mod_81 sk_116 rfl d_Mod_beside_73 wK ?_
    refine V_icmp_ge 85 z15E wE d_Mod_beside_76 (by decide) (fun c16 => ?_) (fun c16 => ?_)
    ·
      refine V_bipush (-4) d_Mod_beside_85 (by decide) ?_
      exact V_iret rfl d_Mod_beside_87 ⟨(-4), rfl, ⟨rfl, (by (try rw [show Int32.toInt (-4) = (-4) from rfl]); omega)⟩⟩
    ·
      refine V_iload_n 1 d_Mod_beside_79 rfl rfl ?_
      refine V_iconst 1 d_Mod_beside_80 (by decide) ?_
      refine V_iadd cE tc_1 (by omega) d_Mod_beside_81 (fun z17 z17e z17E => ?_)
      refine V_goto 87 d_Mod_beside_82 (by decide) ?_
      exact V_iret rfl d_Mod_beside_87 ⟨z17, rfl, ⟨rfl, (by (try rw [z17E]); omega)⟩⟩
theorem d_Mod_showsIn_0 : decode b_Mod_showsIn 0 = .ok (.iconst 2, 1) := dc_5 (by decide +kernel)
theorem d_Mod_showsIn_1 : decode b_Mod_showsIn 1 = .ok (.aload_n 0, 1) := dc_42 (by decide +kernel)
theorem d_Mod_showsIn_2 : decode b_Mod_showsIn 2 = .ok (.aload_n 0, 1) := dc_42 (by decide +kernel)
theorem d_Mod_showsIn_3 : decode b_Mod_showsIn 3 = .ok (.getfield 7, 3) := dc_180 (a := 0) (b := 7) (by decide +kernel) rfl
theorem d_Mod_showsIn_6 : decode b_Mod_showsIn 6 = .ok (.bipush 84, 2) := dc_16 (a := 84) (by decide +kernel) rfl
theorem d_Mod_showsIn_8 : decode b_Mod_showsIn 8 = .ok (.iaload, 1) := dc_46 (by decide +kernel)
theorem d_Mod_showsIn_9 : decode b_Mod_showsIn 9 = .ok (.aload_n 0, 1) := dc_42 (by decide +kernel)
theorem d_Mod_showsIn_10 : decode b_Mod_showsIn 10 = .ok (.getfield 7, 3) := dc_180 (a := 0) (b := 7) (by decide +kernel) rfl
theorem d_Mod_showsIn_13 : decode b_Mod_showsIn 13 = .ok (.bipush 85, 2) := dc_16 (a := 85) (by decide +kernel) rfl
theorem d_Mod_showsIn_15 : decode b_Mod_showsIn 15 = .ok (.iaload, 1) := dc_46 (by decide +kernel)
theorem d_Mod_showsIn_16 : decode b_Mod_showsIn 16 = .ok (.iload_n 1, 1) := dc_27 (by decide +kernel)
theorem d_Mod_showsIn_17 : decode b_Mod_showsIn 17 = .ok (.iload_n 2, 1) := dc_28 (by decide +kernel)
theorem d_Mod_showsIn_18 : decode b_Mod_showsIn 18 = .ok (.iload_n 3, 1) := dc_29 (by decide +kernel)
theorem d_Mod_showsIn_19 : decode b_Mod_showsIn 19 = .ok (.invokevirtual 229, 3) := dc_182 (a := 0) (b := 229) (by decide +kernel) rfl
theorem d_Mod_showsIn_22 : decode b_Mod_showsIn 22 = .ok (.invokestatic 196, 3) := dc_184 (a := 0) (b := 196) (by decide +kernel) rfl
theorem d_Mod_showsIn_25 : decode b_Mod_showsIn 25 = .ok (.imul, 1) := dc_104 (by decide +kernel)
theorem d_Mod_showsIn_26 : decode b_Mod_showsIn 26 = .ok (.aload_n 0, 1) := dc_42 (by decide +kernel)
theorem d_Mod_showsIn_27 : decode b_Mod_showsIn 27 = .ok (.getfield 7, 3) := dc_180 (a := 0) (b := 7) (by decide +kernel) rfl
theorem d_Mod_showsIn_30 : decode b_Mod_showsIn 30 = .ok (.iconst 0, 1) := dc_3 (by decide +kernel)
theorem d_Mod_showsIn_31 : decode b_Mod_showsIn 31 = .ok (.iload_n 1, 1) := dc_27 (by decide +kernel)
theorem d_Mod_showsIn_32 : decode b_Mod_showsIn 32 = .ok (.iadd, 1) := dc_96 (by decide +kernel)
theorem d_Mod_showsIn_33 : decode b_Mod_showsIn 33 = .ok (.iaload, 1) := dc_46 (by decide +kernel)
theorem d_Mod_showsIn_34 : decode b_Mod_showsIn 34 = .ok (.ifCond .le 7, 3) := dc_158 (a := 0) (b := 7) (by decide +kernel) rfl
theorem d_Mod_showsIn_37 : decode b_Mod_showsIn 37 = .ok (.iconst 1, 1) := dc_4 (by decide +kernel)
theorem d_Mod_showsIn_38 : decode b_Mod_showsIn 38 = .ok (.goto 4, 3) := dc_167 (a := 0) (b := 4) (by decide +kernel) rfl
theorem d_Mod_showsIn_41 : decode b_Mod_showsIn 41 = .ok (.iconst 0, 1) := dc_3 (by decide +kernel)
theorem d_Mod_showsIn_42 : decode b_Mod_showsIn 42 = .ok (.invokestatic 196, 3) := dc_184 (a := 0) (b := 196) (by decide +kernel) rfl
theorem d_Mod_showsIn_45 : decode b_Mod_showsIn 45 = .ok (.isub, 1) := dc_100 (by decide +kernel)
theorem d_Mod_showsIn_46 : decode b_Mod_showsIn 46 = .ok (.ireturn, 1) := dc_172 (by decide +kernel)
abbrev q_Mod_showsIn (h : Hp) (c : Int32) (cZ : Int) (o : Int32) (oZ : Int) (s : Int32) (sZ : Int) : Option Value → Hp → Prop := pInt (fun r h' => h = h')
set_option maxRecDepth 100000 in
theorem c_Mod_showsIn (h : Hp) (hI : Inv h) (c : Int32) (cZ : Int) (cE : c.toInt = cZ) (o : Int32) (oZ : Int) (oE : o.toInt = oZ) (s : Int32) (sZ : Int) (sE : s.toInt = sZ) (hy0 : 0 ≤ cZ ∧ cZ ≤ 15) : Ct y_Mod_showsIn b_Mod_showsIn 4 (some .int) 1 27 [.ref 116, .int c, .int o, .int s] h (q_Mod_showsIn h c cZ o oZ s sZ) := by
  refine ct_ow R_Mod [some (.ref 116), some (.int c), some (.int o), some (.int s)] rfl (by decide) rfl (Nat.le_of_ble_eq_true rfl) ?_
  have f0 : fr [] h h := fr_rf
  refine V_iconst 2 d_Mod_showsIn_0 (by decide) ?_
  refine V_aload_n 0 d_Mod_showsIn_1 rfl rfl ?_
  refine V_aload_n 0 d_Mod_showsIn_2 rfl rfl ?_
  refine V_getR fa_Mod_7 sk_116 rfl d_Mod_showsIn_3 ?_
  refine V_bipush 84 d_Mod_showsIn_6 (by decide) ?_
  refine N_iald sk_117 tc_84 (by omega) d_Mod_showsIn_8 (fun z1 z1Z z1E z1e => ?_)
  refine V_aload_n 0 d_Mod_showsIn_9 rfl rfl ?_
  refine V_getR fa_Mod_7 sk_116 rfl d_Mod_showsIn_10 ?_
  refine V_bipush 85 d_Mod_showsIn_13 (by decide) ?_
  refine N_iald sk_117 tc_85 (by omega) d_Mod_showsIn_15 (fun z2 z2Z z2E z2e => ?_)
  refine V_iload_n 1 d_Mod_showsIn_16 rfl rfl ?_
  refine V_iload_n 2 d_Mod_showsIn_17 rfl rfl ?_
  refine V_iload_n 3 d_Mod_showsIn_18 rfl rfl ?_
  refine N_callVI [.int z1, .int z2, .int c, .int o, .int s] [.int 2] cv_Mod_229 sk_116 rfl d_Mod_showsIn_19 rfl (Nat.le_of_ble_eq_true rfl) (by decide) (by decide) (c_Mod_doesTwitch h hI z1 z1Z z1E z2 z2Z z2E c cZ cE o oZ oE s sZ sE (by omega)) (fun z3 h4 z3Z z3E p5 => ?_)
  obtain ⟨eh4, p5⟩ := p5
  subst eh4
  refine N_callSI [.int z3] [.int 2] cs_Mod_196 d_Mod_showsIn_22 rfl (Nat.le_of_ble_eq_true rfl) (by decide) (by decide) (c_Mod_flag h z3 z3Z z3E) (fun z6 h7 z6Z z6E p8 => ?_)
  obtain ⟨eh7, p8⟩ := p8
  subst eh7
  refine V_imul tc_2 z6E (by omega) d_Mod_showsIn_25 (fun z9 z9e z9E => ?_)
  refine V_aload_n 0 d_Mod_showsIn_26 rfl rfl ?_
  refine V_getR fa_Mod_7 sk_116 rfl d_Mod_showsIn_27 ?_
  refine V_iconst 0 d_Mod_showsIn_30 (by decide) ?_
  refine V_iload_n 1 d_Mod_showsIn_31 rfl rfl ?_
  refine V_iadd tc_0 cE (by omega) d_Mod_showsIn_32 (fun z10 z10e z10E => ?_)
  refine N_iald sk_117 z10E (by omega) d_Mod_showsIn_33 (fun z11 z11Z z11E z11e => ?_)
  refine V_if_le 41 z11E d_Mod_showsIn_34 (by decide) (fun c12 => ?_) (fun c12 => ?_)
  ·
    refine V_iconst 0 d_Mod_showsIn_41 (by decide) ?_
    refine N_callSI [.int 0] [.int z9] cs_Mod_196 d_Mod_showsIn_42 rfl (Nat.le_of_ble_eq_true rfl) (by decide) (by decide) (c_Mod_flag h 0 0 tc_0) (fun z13 h14 z13Z z13E p15 => ?_)
    obtain ⟨eh14, p15⟩ := p15
    subst eh14
    refine V_isub z9E z13E (by omega) d_Mod_showsIn_45 (fun z16 z16e z16E => ?_)
    exact V_iret rfl d_Mod_showsIn_46 ⟨z16, rfl, rfl⟩
  ·
    refine V_iconst 1 d_Mod_showsIn_37 (by decide) ?_
    refine V_goto 42 d_Mod_showsIn_38 (by decide) ?_
    refine N_callSI [.int 1] [.int z9] cs_Mod_196 d_Mod_showsIn_42 rfl (Nat.le_of_ble_eq_true rfl) (by decide) (by decide) (c_Mod_flag h 1 1 tc_1) (fun z17 h18 z17Z z17E p19 => ?_)
    obtain ⟨eh18, p19⟩ := p19
    subst eh18
    refine V_isub z9E z17E (by omega) d_Mod_showsIn_45 (fun z20 z20e z20E => ?_)
    exact V_iret rfl d_Mod_showsIn_46 ⟨z20, rfl, rfl⟩
theorem d_Mod_bestBeside_0 : decode b_Mod_bestBeside 0 = .ok (.bipush (-4), 2) := dc_16 (a := 252) (by decide +kernel) rfl
theorem d_Mod_bestBeside_2 : decode b_Mod_bestBeside 2 = .ok (.istore_n 3, 1) := dc_62 (by decide +kernel)
theorem d_Mod_bestBeside_3 : decode b_Mod_bestBeside 3 = .ok (.iconst 0, 1) := dc_3 (by decide +kernel)
theorem d_Mod_bestBeside_4 : decode b_Mod_bestBeside 4 = .ok (.istore 4, 2) := dc_54 (a := 4) (by decide +kernel) rfl
theorem d_Mod_bestBeside_6 : decode b_Mod_bestBeside 6 = .ok (.iload 4, 2) := dc_21 (a := 4) (by decide +kernel) rfl
theorem d_Mod_bestBeside_8 : decode b_Mod_bestBeside 8 = .ok (.iconst 4, 1) := dc_7 (by decide +kernel)
theorem d_Mod_bestBeside_9 : decode b_Mod_bestBeside 9 = .ok (.if_icmp .ge 64, 3) := dc_162 (a := 0) (b := 64) (by decide +kernel) rfl
theorem d_Mod_bestBeside_12 : decode b_Mod_bestBeside 12 = .ok (.aload_n 0, 1) := dc_42 (by decide +kernel)
theorem d_Mod_bestBeside_13 : decode b_Mod_bestBeside 13 = .ok (.iload_n 1, 1) := dc_27 (by decide +kernel)
theorem d_Mod_bestBeside_14 : decode b_Mod_bestBeside 14 = .ok (.iload 4, 2) := dc_21 (a := 4) (by decide +kernel) rfl
theorem d_Mod_bestBeside_16 : decode b_Mod_bestBeside 16 = .ok (.invokevirtual 243, 3) := dc_182 (a := 0) (b := 243) (by decide +kernel) rfl
theorem d_Mod_bestBeside_19 : decode b_Mod_bestBeside 19 = .ok (.istore 5, 2) := dc_54 (a := 5) (by decide +kernel) rfl
theorem d_Mod_bestBeside_21 : decode b_Mod_bestBeside 21 = .ok (.iload 5, 2) := dc_21 (a := 5) (by decide +kernel) rfl
theorem d_Mod_bestBeside_23 : decode b_Mod_bestBeside 23 = .ok (.bipush (-4), 2) := dc_16 (a := 252) (by decide +kernel) rfl
theorem d_Mod_bestBeside_25 : decode b_Mod_bestBeside 25 = .ok (.if_icmp .eq 40, 3) := dc_159 (a := 0) (b := 40) (by decide +kernel) rfl
theorem d_Mod_bestBeside_28 : decode b_Mod_bestBeside 28 = .ok (.iload_n 3, 1) := dc_29 (by decide +kernel)
theorem d_Mod_bestBeside_29 : decode b_Mod_bestBeside 29 = .ok (.bipush (-4), 2) := dc_16 (a := 252) (by decide +kernel) rfl
theorem d_Mod_bestBeside_31 : decode b_Mod_bestBeside 31 = .ok (.if_icmp .eq 29, 3) := dc_159 (a := 0) (b := 29) (by decide +kernel) rfl
theorem d_Mod_bestBeside_34 : decode b_Mod_bestBeside 34 = .ok (.aload_n 0, 1) := dc_42 (by decide +kernel)
theorem d_Mod_bestBeside_35 : decode b_Mod_bestBeside 35 = .ok (.getfield 26, 3) := dc_180 (a := 0) (b := 26) (by decide +kernel) rfl
theorem d_Mod_bestBeside_38 : decode b_Mod_bestBeside 38 = .ok (.bipush 16, 2) := dc_16 (a := 16) (by decide +kernel) rfl
theorem d_Mod_bestBeside_40 : decode b_Mod_bestBeside 40 = .ok (.iload_n 2, 1) := dc_28 (by decide +kernel)
theorem d_Mod_bestBeside_41 : decode b_Mod_bestBeside 41 = .ok (.imul, 1) := dc_104 (by decide +kernel)
theorem d_Mod_bestBeside_42 : decode b_Mod_bestBeside 42 = .ok (.iload 5, 2) := dc_21 (a := 5) (by decide +kernel) rfl
theorem d_Mod_bestBeside_44 : decode b_Mod_bestBeside 44 = .ok (.iadd, 1) := dc_96 (by decide +kernel)
theorem d_Mod_bestBeside_45 : decode b_Mod_bestBeside 45 = .ok (.iaload, 1) := dc_46 (by decide +kernel)
theorem d_Mod_bestBeside_46 : decode b_Mod_bestBeside 46 = .ok (.aload_n 0, 1) := dc_42 (by decide +kernel)
theorem d_Mod_bestBeside_47 : decode b_Mod_bestBeside 47 = .ok (.getfield 26, 3) := dc_180 (a := 0) (b := 26) (by decide +kernel) rfl
theorem d_Mod_bestBeside_50 : decode b_Mod_bestBeside 50 = .ok (.bipush 16, 2) := dc_16 (a := 16) (by decide +kernel) rfl
theorem d_Mod_bestBeside_52 : decode b_Mod_bestBeside 52 = .ok (.iload_n 2, 1) := dc_28 (by decide +kernel)
theorem d_Mod_bestBeside_53 : decode b_Mod_bestBeside 53 = .ok (.imul, 1) := dc_104 (by decide +kernel)
theorem d_Mod_bestBeside_54 : decode b_Mod_bestBeside 54 = .ok (.iload_n 3, 1) := dc_29 (by decide +kernel)
theorem d_Mod_bestBeside_55 : decode b_Mod_bestBeside 55 = .ok (.iadd, 1) := dc_96 (by decide +kernel)
theorem d_Mod_bestBeside_56 : decode b_Mod_bestBeside 56 = .ok (.iaload, 1) := dc_46 (by decide +kernel)
theorem d_Mod_bestBeside_57 : decode b_Mod_bestBeside 57 = .ok (.if_icmp .le 8, 3) := dc_164 (a := 0) (b := 8) (by decide +kernel) rfl
theorem d_Mod_bestBeside_60 : decode b_Mod_bestBeside 60 = .ok (.iload 5, 2) := dc_21 (a := 5) (by decide +kernel) rfl
theorem d_Mod_bestBeside_62 : decode b_Mod_bestBeside 62 = .ok (.goto 4, 3) := dc_167 (a := 0) (b := 4) (by decide +kernel) rfl
theorem d_Mod_bestBeside_65 : decode b_Mod_bestBeside 65 = .ok (.iload_n 3, 1) := dc_29 (by decide +kernel)
theorem d_Mod_bestBeside_66 : decode b_Mod_bestBeside 66 = .ok (.istore_n 3, 1) := dc_62 (by decide +kernel)
theorem d_Mod_bestBeside_67 : decode b_Mod_bestBeside 67 = .ok (.iinc 4 1, 3) := dc_132 (a := 4) (b := 1) (by decide +kernel) rfl
theorem d_Mod_bestBeside_70 : decode b_Mod_bestBeside 70 = .ok (.goto (-64), 3) := dc_167 (a := 255) (b := 192) (by decide +kernel) rfl
theorem d_Mod_bestBeside_73 : decode b_Mod_bestBeside 73 = .ok (.iload_n 3, 1) := dc_29 (by decide +kernel)
theorem d_Mod_bestBeside_74 : decode b_Mod_bestBeside 74 = .ok (.ireturn, 1) := dc_172 (by decide +kernel)
abbrev q_Mod_bestBeside (h : Hp) (c : Int32) (cZ : Int) (s : Int32) (sZ : Int) (w : Int32) (wZ : Int) (g : Int32) (gZ : Int) : Option Value → Hp → Prop := pInt (fun r h' => h = h' ∧ ((-4 ≤ r.toInt ∨ cZ - 1 ≤ r.toInt) ∧ (r.toInt ≤ 15 ∨ r.toInt ≤ cZ + 1)))
set_option maxRecDepth 100000 in
theorem c_Mod_bestBeside (h : Hp) (hI : Inv h) (c : Int32) (cZ : Int) (cE : c.toInt = cZ) (s : Int32) (sZ : Int) (sE : s.toInt = sZ) (w : Int32) (wZ : Int) (wE : w.toInt = wZ) (wK : h.1 116 2 = w) (g : Int32) (gZ : Int) (gE : g.toInt = gZ) (gK : h.1 116 3 = g) (hy0 : -9 ≤ cZ ∧ cZ ≤ 20) (hy1 : 2 ≤ sZ ∧ sZ ≤ 6) : Ct y_Mod_bestBeside b_Mod_bestBeside 6 (some .int) 2 43 [.ref 116, .int c, .int s] h (q_Mod_bestBeside h c cZ s sZ w wZ g gZ) := by
  refine ct_ow R_Mod [some (.ref 116), some (.int c), some (.int s), none, none, none] rfl (by decide) rfl (Nat.le_of_ble_eq_true rfl) ?_
  have f0 : fr [] h h := fr_rf
  have g1 : 2 ≤ wZ ∧ wZ ≤ 4 := inv_at hI wE wK.symm rfl
  have g2 : 2 ≤ gZ ∧ gZ ≤ 4 := inv_at hI gE gK.symm rfl
  refine V_bipush (-4) d_Mod_bestBeside_0 (by decide) ?_
  refine V_istore_n 3 [some (.ref 116), some (.int c), some (.int s), some (.int (-4)), none, none] d_Mod_bestBeside_2 rfl (by decide) rfl rfl ?_
  refine V_iconst 0 d_Mod_bestBeside_3 (by decide) ?_
  refine V_istore 4 [some (.ref 116), some (.int c), some (.int s), some (.int (-4)), some (.int 0), none] d_Mod_bestBeside_4 (by decide) rfl rfl ?_
  have L3 : ∀ (nn : Nat) (v5 : Int32) (v5Z : Int) (v6 : Int32) (v6Z : Int), v5.toInt = v5Z → v6.toInt = v6Z → (-4 ≤ v5Z ∨ cZ - 1 ≤ v5Z) ∧ (v5Z ≤ 15 ∨ v5Z ≤ cZ + 1) → 0 ≤ v6Z ∧ v6Z ≤ 4 → 4 - v6Z < (nn : Int) → V R_Mod b_Mod_bestBeside 6 (some .int) 2 43 (q_Mod_bestBeside h c cZ s sZ w wZ g gZ) h 6 [some (.ref 116), some (.int c), some (.int s), some (.int v5), some (.int v6), none] [] := by
    intro nn
    induction nn with
    | zero => intro v5 v5Z v6 v6Z v5E v6E q7 q8 hm9; exact absurd hm9 (by omega)
    | succ nn ihL3 =>
      intro v5 v5Z v6 v6Z v5E v6E q7 q8 hm9
      refine V_iload d_Mod_bestBeside_6 rfl ?_
      refine V_iconst 4 d_Mod_bestBeside_8 (by decide) ?_
      refine V_icmp_ge 73 v6E tc_4 d_Mod_bestBeside_9 (by decide) (fun c10 => ?_) (fun c10 => ?_)
      ·
        refine V_iload_n 3 d_Mod_bestBeside_73 rfl rfl ?_
        exact V_iret rfl d_Mod_bestBeside_74 ⟨v5, rfl, ⟨rfl, (by (try rw [v5E]); omega)⟩⟩
      ·
        refine V_aload_n 0 d_Mod_bestBeside_12 rfl rfl ?_
        refine V_iload_n 1 d_Mod_bestBeside_13 rfl rfl ?_
        refine V_iload d_Mod_bestBeside_14 rfl ?_
        refine N_callVI [.int c, .int v6] [] cv_Mod_243 sk_116 rfl d_Mod_bestBeside_16 rfl (Nat.le_of_ble_eq_true rfl) (by decide) (by decide) (c_Mod_beside h hI c cZ cE v6 v6Z v6E w wZ wE wK g gZ gE gK (by omega)) (fun z11 h12 z11Z z11E p13 => ?_)
        obtain ⟨eh12, p13⟩ := p13
        subst eh12
        refine V_istore 5 [some (.ref 116), some (.int c), some (.int s), some (.int v5), some (.int v6), some (.int z11)] d_Mod_bestBeside_19 (by decide) rfl rfl ?_
        refine V_iload d_Mod_bestBeside_21 rfl ?_
        refine V_bipush (-4) d_Mod_bestBeside_23 (by decide) ?_
        refine V_icmp_eq 65 z11E tc_m4 d_Mod_bestBeside_25 (by decide) (fun c14 => ?_) (fun c14 => ?_)
        ·
          refine V_iload_n 3 d_Mod_bestBeside_65 rfl rfl ?_
          refine V_istore_n 3 [some (.ref 116), some (.int c), some (.int s), some (.int v5), some (.int v6), some (.int z11)] d_Mod_bestBeside_66 rfl (by decide) rfl rfl ?_
          obtain ⟨z15, z15E, z15e⟩ : ∃ y : Int32, y.toInt = v6Z + 1 ∧ y = v6 + Int32.ofInt 1 := ⟨_, ti_add v6E (by decide) (by omega), rfl⟩
          refine V_iinc 4 [some (.ref 116), some (.int c), some (.int s), some (.int v5), some (.int z15), some (.int z11)] d_Mod_bestBeside_67 rfl z15e.symm (by decide) rfl rfl ?_
          refine V_goto 6 d_Mod_bestBeside_70 (by decide) ?_
          refine V_drop 5 [some (.ref 116), some (.int c), some (.int s), some (.int v5), some (.int z15), none] rfl ?_
          exact ihL3 v5 v5Z z15 ((v6Z + 1)) v5E z15E (by omega) (by omega) (by omega)
        ·
          refine V_iload_n 3 d_Mod_bestBeside_28 rfl rfl ?_
          refine V_bipush (-4) d_Mod_bestBeside_29 (by decide) ?_
          refine V_icmp_eq 60 v5E tc_m4 d_Mod_bestBeside_31 (by decide) (fun c16 => ?_) (fun c16 => ?_)
          ·
            refine V_iload d_Mod_bestBeside_60 rfl ?_
            refine V_goto 66 d_Mod_bestBeside_62 (by decide) ?_
            refine V_istore_n 3 [some (.ref 116), some (.int c), some (.int s), some (.int z11), some (.int v6), some (.int z11)] d_Mod_bestBeside_66 rfl (by decide) rfl rfl ?_
            obtain ⟨z17, z17E, z17e⟩ : ∃ y : Int32, y.toInt = v6Z + 1 ∧ y = v6 + Int32.ofInt 1 := ⟨_, ti_add v6E (by decide) (by omega), rfl⟩
            refine V_iinc 4 [some (.ref 116), some (.int c), some (.int s), some (.int z11), some (.int z17), some (.int z11)] d_Mod_bestBeside_67 rfl z17e.symm (by decide) rfl rfl ?_
            refine V_goto 6 d_Mod_bestBeside_70 (by decide) ?_
            refine V_drop 5 [some (.ref 116), some (.int c), some (.int s), some (.int z11), some (.int z17), none] rfl ?_
            exact ihL3 z11 z11Z z17 ((v6Z + 1)) z11E z17E (by omega) (by omega) (by omega)
          ·
            refine V_aload_n 0 d_Mod_bestBeside_34 rfl rfl ?_
            refine V_getR fa_Mod_26 sk_116 rfl d_Mod_bestBeside_35 ?_
            refine V_bipush 16 d_Mod_bestBeside_38 (by decide) ?_
            refine V_iload_n 2 d_Mod_bestBeside_40 rfl rfl ?_
            refine V_imul tc_16 sE (by omega) d_Mod_bestBeside_41 (fun z18 z18e z18E => ?_)
            refine V_iload d_Mod_bestBeside_42 rfl ?_
            refine V_iadd z18E z11E (by omega) d_Mod_bestBeside_44 (fun z19 z19e z19E => ?_)
            refine N_iald sk_122 z19E (by omega) d_Mod_bestBeside_45 (fun z20 z20Z z20E z20e => ?_)
            refine V_aload_n 0 d_Mod_bestBeside_46 rfl rfl ?_
            refine V_getR fa_Mod_26 sk_116 rfl d_Mod_bestBeside_47 ?_
            refine V_bipush 16 d_Mod_bestBeside_50 (by decide) ?_
            refine V_iload_n 2 d_Mod_bestBeside_52 rfl rfl ?_
            refine V_imul tc_16 sE (by omega) d_Mod_bestBeside_53 (fun z21 z21e z21E => ?_)
            refine V_iload_n 3 d_Mod_bestBeside_54 rfl rfl ?_
            refine V_iadd z21E v5E (by omega) d_Mod_bestBeside_55 (fun z22 z22e z22E => ?_)
            refine N_iald sk_122 z22E (by omega) d_Mod_bestBeside_56 (fun z23 z23Z z23E z23e => ?_)
            refine V_icmp_le 65 z20E z23E d_Mod_bestBeside_57 (by decide) (fun c24 => ?_) (fun c24 => ?_)
            ·
              refine V_iload_n 3 d_Mod_bestBeside_65 rfl rfl ?_
              refine V_istore_n 3 [some (.ref 116), some (.int c), some (.int s), some (.int v5), some (.int v6), some (.int z11)] d_Mod_bestBeside_66 rfl (by decide) rfl rfl ?_
              obtain ⟨z25, z25E, z25e⟩ : ∃ y : Int32, y.toInt = v6Z + 1 ∧ y = v6 + Int32.ofInt 1 := ⟨_, ti_add v6E (by decide) (by omega), rfl⟩
              refine V_iinc 4 [some (.ref 116), some (.int c), some (.int s), some (.int v5), some (.int z25), some (.int z11)] d_Mod_bestBeside_67 rfl z25e.symm (by decide) rfl rfl ?_
              refine V_goto 6 d_Mod_bestBeside_70 (by decide) ?_
              refine V_drop 5 [some (.ref 116), some (.int c), some (.int s), some (.int v5), some (.int z25), none] rfl ?_
              exact ihL3 v5 v5Z z25 ((v6Z + 1)) v5E z25E (by omega) (by omega) (by omega)
            ·
              refine V_iload d_Mod_bestBeside_60 rfl ?_
              refine V_goto 66 d_Mod_bestBeside_62 (by decide) ?_
              refine V_istore_n 3 [some (.ref 116), some (.int c), some (.int s), some (.int z11), some (.int v6), some (.int z11)] d_Mod_bestBeside_66 rfl (by decide) rfl rfl ?_
              obtain ⟨z26, z26E, z26e⟩ : ∃ y : Int32, y.toInt = v6Z + 1 ∧ y = v6 + Int32.ofInt 1 := ⟨_, ti_add v6E (by decide) (by omega), rfl⟩
              refine V_iinc 4 [some (.ref 116), some (.int c), some (.int s), some (.int z11), some (.int z26), some (.int z11)] d_Mod_bestBeside_67 rfl z26e.symm (by decide) rfl rfl ?_
              refine V_goto 6 d_Mod_bestBeside_70 (by decide) ?_
              refine V_drop 5 [some (.ref 116), some (.int c), some (.int s), some (.int z11), some (.int z26), none] rfl ?_
              exact ihL3 z11 z11Z z26 ((v6Z + 1)) z11E z26E (by omega) (by omega) (by omega)
  exact L3 (Int.toNat ((4 - 0 : Int) + 1)) (-4) ((-4)) 0 0 tc_m4 tc_0 (by omega) (by omega) (by omega)
theorem d_Mod_findShown_0 : decode b_Mod_findShown 0 = .ok (.iload_n 2, 1) := dc_28 (by decide +kernel)
theorem d_Mod_findShown_1 : decode b_Mod_findShown 1 = .ok (.istore_n 3, 1) := dc_62 (by decide +kernel)
theorem d_Mod_findShown_2 : decode b_Mod_findShown 2 = .ok (.iload_n 3, 1) := dc_29 (by decide +kernel)
theorem d_Mod_findShown_3 : decode b_Mod_findShown 3 = .ok (.iconst 1, 1) := dc_4 (by decide +kernel)
theorem d_Mod_findShown_4 : decode b_Mod_findShown 4 = .ok (.if_icmp .lt 82, 3) := dc_161 (a := 0) (b := 82) (by decide +kernel) rfl
theorem d_Mod_findShown_7 : decode b_Mod_findShown 7 = .ok (.iconst 0, 1) := dc_3 (by decide +kernel)
theorem d_Mod_findShown_8 : decode b_Mod_findShown 8 = .ok (.istore 4, 2) := dc_54 (a := 4) (by decide +kernel) rfl
theorem d_Mod_findShown_10 : decode b_Mod_findShown 10 = .ok (.iload 4, 2) := dc_21 (a := 4) (by decide +kernel) rfl
theorem d_Mod_findShown_12 : decode b_Mod_findShown 12 = .ok (.aload_n 0, 1) := dc_42 (by decide +kernel)
theorem d_Mod_findShown_13 : decode b_Mod_findShown 13 = .ok (.invokevirtual 183, 3) := dc_182 (a := 0) (b := 183) (by decide +kernel) rfl
theorem d_Mod_findShown_16 : decode b_Mod_findShown 16 = .ok (.if_icmp .ge 64, 3) := dc_162 (a := 0) (b := 64) (by decide +kernel) rfl
theorem d_Mod_findShown_19 : decode b_Mod_findShown 19 = .ok (.iload_n 3, 1) := dc_29 (by decide +kernel)
theorem d_Mod_findShown_20 : decode b_Mod_findShown 20 = .ok (.iload_n 2, 1) := dc_28 (by decide +kernel)
theorem d_Mod_findShown_21 : decode b_Mod_findShown 21 = .ok (.if_icmp .ne 7, 3) := dc_160 (a := 0) (b := 7) (by decide +kernel) rfl
theorem d_Mod_findShown_24 : decode b_Mod_findShown 24 = .ok (.iconst 0, 1) := dc_3 (by decide +kernel)
theorem d_Mod_findShown_25 : decode b_Mod_findShown 25 = .ok (.goto 24, 3) := dc_167 (a := 0) (b := 24) (by decide +kernel) rfl
theorem d_Mod_findShown_28 : decode b_Mod_findShown 28 = .ok (.aload_n 0, 1) := dc_42 (by decide +kernel)
theorem d_Mod_findShown_29 : decode b_Mod_findShown 29 = .ok (.getfield 26, 3) := dc_180 (a := 0) (b := 26) (by decide +kernel) rfl
theorem d_Mod_findShown_32 : decode b_Mod_findShown 32 = .ok (.bipush 16, 2) := dc_16 (a := 16) (by decide +kernel) rfl
theorem d_Mod_findShown_34 : decode b_Mod_findShown 34 = .ok (.iload_n 3, 1) := dc_29 (by decide +kernel)
theorem d_Mod_findShown_35 : decode b_Mod_findShown 35 = .ok (.iconst 1, 1) := dc_4 (by decide +kernel)
theorem d_Mod_findShown_36 : decode b_Mod_findShown 36 = .ok (.iadd, 1) := dc_96 (by decide +kernel)
theorem d_Mod_findShown_37 : decode b_Mod_findShown 37 = .ok (.imul, 1) := dc_104 (by decide +kernel)
theorem d_Mod_findShown_38 : decode b_Mod_findShown 38 = .ok (.aload_n 0, 1) := dc_42 (by decide +kernel)
theorem d_Mod_findShown_39 : decode b_Mod_findShown 39 = .ok (.iload 4, 2) := dc_21 (a := 4) (by decide +kernel) rfl
theorem d_Mod_findShown_41 : decode b_Mod_findShown 41 = .ok (.iload_n 3, 1) := dc_29 (by decide +kernel)
theorem d_Mod_findShown_42 : decode b_Mod_findShown 42 = .ok (.iconst 1, 1) := dc_4 (by decide +kernel)
theorem d_Mod_findShown_43 : decode b_Mod_findShown 43 = .ok (.iadd, 1) := dc_96 (by decide +kernel)
theorem d_Mod_findShown_44 : decode b_Mod_findShown 44 = .ok (.invokevirtual 246, 3) := dc_182 (a := 0) (b := 246) (by decide +kernel) rfl
theorem d_Mod_findShown_47 : decode b_Mod_findShown 47 = .ok (.iadd, 1) := dc_96 (by decide +kernel)
theorem d_Mod_findShown_48 : decode b_Mod_findShown 48 = .ok (.iaload, 1) := dc_46 (by decide +kernel)
theorem d_Mod_findShown_49 : decode b_Mod_findShown 49 = .ok (.istore 5, 2) := dc_54 (a := 5) (by decide +kernel) rfl
theorem d_Mod_findShown_51 : decode b_Mod_findShown 51 = .ok (.aload_n 0, 1) := dc_42 (by decide +kernel)
theorem d_Mod_findShown_52 : decode b_Mod_findShown 52 = .ok (.getfield 26, 3) := dc_180 (a := 0) (b := 26) (by decide +kernel) rfl
theorem d_Mod_findShown_55 : decode b_Mod_findShown 55 = .ok (.bipush 16, 2) := dc_16 (a := 16) (by decide +kernel) rfl
theorem d_Mod_findShown_57 : decode b_Mod_findShown 57 = .ok (.iload_n 3, 1) := dc_29 (by decide +kernel)
theorem d_Mod_findShown_58 : decode b_Mod_findShown 58 = .ok (.imul, 1) := dc_104 (by decide +kernel)
theorem d_Mod_findShown_59 : decode b_Mod_findShown 59 = .ok (.iload 4, 2) := dc_21 (a := 4) (by decide +kernel) rfl
theorem d_Mod_findShown_61 : decode b_Mod_findShown 61 = .ok (.iadd, 1) := dc_96 (by decide +kernel)
theorem d_Mod_findShown_62 : decode b_Mod_findShown 62 = .ok (.aload_n 0, 1) := dc_42 (by decide +kernel)
theorem d_Mod_findShown_63 : decode b_Mod_findShown 63 = .ok (.iload 4, 2) := dc_21 (a := 4) (by decide +kernel) rfl
theorem d_Mod_findShown_65 : decode b_Mod_findShown 65 = .ok (.iload_n 1, 1) := dc_27 (by decide +kernel)
theorem d_Mod_findShown_66 : decode b_Mod_findShown 66 = .ok (.iload_n 3, 1) := dc_29 (by decide +kernel)
theorem d_Mod_findShown_67 : decode b_Mod_findShown 67 = .ok (.invokevirtual 249, 3) := dc_182 (a := 0) (b := 249) (by decide +kernel) rfl
theorem d_Mod_findShown_70 : decode b_Mod_findShown 70 = .ok (.iload 5, 2) := dc_21 (a := 5) (by decide +kernel) rfl
theorem d_Mod_findShown_72 : decode b_Mod_findShown 72 = .ok (.iadd, 1) := dc_96 (by decide +kernel)
theorem d_Mod_findShown_73 : decode b_Mod_findShown 73 = .ok (.iastore, 1) := dc_79 (by decide +kernel)
theorem d_Mod_findShown_74 : decode b_Mod_findShown 74 = .ok (.iinc 4 1, 3) := dc_132 (a := 4) (b := 1) (by decide +kernel) rfl
theorem d_Mod_findShown_77 : decode b_Mod_findShown 77 = .ok (.goto (-67), 3) := dc_167 (a := 255) (b := 189) (by decide +kernel) rfl
theorem d_Mod_findShown_80 : decode b_Mod_findShown 80 = .ok (.iinc 3 (-1), 3) := dc_132 (a := 3) (b := 255) (by decide +kernel) rfl
theorem d_Mod_findShown_83 : decode b_Mod_findShown 83 = .ok (.goto (-81), 3) := dc_167 (a := 255) (b := 175) (by decide +kernel) rfl
theorem d_Mod_findShown_86 : decode b_Mod_findShown 86 = .ok (.return_, 1) := dc_177 (by decide +kernel)
def S_Mod_findShown : List (Nat × Option Nat) := [(122, none)]
abbrev q_Mod_findShown (h : Hp) (o : Int32) (oZ : Int) (n : Int32) (nZ : Int) (w : Int32) (wZ : Int) (g : Int32) (gZ : Int) : Option Value → Hp → Prop := pVd (fun h' => Inv h' ∧ fr S_Mod_findShown h h')
set_option maxRecDepth 100000 in
theorem c_Mod_findShown (h : Hp) (hI : Inv h) (o : Int32) (oZ : Int) (oE : o.toInt = oZ) (n : Int32) (nZ : Int) (nE : n.toInt = nZ) (w : Int32) (wZ : Int) (wE : w.toInt = wZ) (wK : h.1 116 2 = w) (g : Int32) (gZ : Int) (gE : g.toInt = gZ) (gK : h.1 116 3 = g) (hy0 : 1 ≤ nZ ∧ nZ ≤ 6) : Ct y_Mod_findShown b_Mod_findShown 6 none 3 68 [.ref 116, .int o, .int n] h (q_Mod_findShown h o oZ n nZ w wZ g gZ) := by
  refine ct_ow R_Mod [some (.ref 116), some (.int o), some (.int n), none, none, none] rfl (by decide) rfl (Nat.le_of_ble_eq_true rfl) ?_
  have f0 : fr S_Mod_findShown h h := fr_rf
  have g1 : 2 ≤ wZ ∧ wZ ≤ 4 := inv_at hI wE wK.symm rfl
  have g2 : 2 ≤ gZ ∧ gZ ≤ 4 := inv_at hI gE gK.symm rfl
  refine V_iload_n 2 d_Mod_findShown_0 rfl rfl ?_
  refine V_istore_n 3 [some (.ref 116), some (.int o), some (.int n), some (.int n), none, none] d_Mod_findShown_1 rfl (by decide) rfl rfl ?_
  have L3 : ∀ (nn : Nat) (v5 : Int32) (v5Z : Int) (h6 : Hp), v5.toInt = v5Z → Inv h6 → fr S_Mod_findShown h h6 → h6.1 116 2 = w → h6.1 116 3 = g → 0 ≤ v5Z ∧ v5Z ≤ nZ → v5Z < (nn : Int) → V R_Mod b_Mod_findShown 6 none 3 68 (q_Mod_findShown h o oZ n nZ w wZ g gZ) h6 2 [some (.ref 116), some (.int o), some (.int n), some (.int v5), none, none] [] := by
    intro nn
    induction nn with
    | zero => intro v5 v5Z h6 v5E Ih6 Fh6 K7 K8 q9 hm10; exact absurd hm10 (by omega)
    | succ nn ihL3 =>
      intro v5 v5Z h6 v5E Ih6 Fh6 K7 K8 q9 hm10
      refine V_iload_n 3 d_Mod_findShown_2 rfl rfl ?_
      refine V_iconst 1 d_Mod_findShown_3 (by decide) ?_
      refine V_icmp_lt 86 v5E tc_1 d_Mod_findShown_4 (by decide) (fun c11 => ?_) (fun c11 => ?_)
      ·
        exact V_vret rfl d_Mod_findShown_86 ⟨rfl, ⟨Ih6, Fh6⟩⟩
      ·
        refine V_iconst 0 d_Mod_findShown_7 (by decide) ?_
        refine V_istore 4 [some (.ref 116), some (.int o), some (.int n), some (.int v5), some (.int 0), none] d_Mod_findShown_8 (by decide) rfl rfl ?_
        have L12 : ∀ (nn : Nat) (v14 : Int32) (v14Z : Int) (h15 : Hp), v14.toInt = v14Z → Inv h15 → fr S_Mod_findShown h h15 → h15.1 116 2 = w → h15.1 116 3 = g → 0 ≤ v14Z ∧ v14Z ≤ 16 → 16 - v14Z < (nn : Int) → V R_Mod b_Mod_findShown 6 none 3 68 (q_Mod_findShown h o oZ n nZ w wZ g gZ) h15 10 [some (.ref 116), some (.int o), some (.int n), some (.int v5), some (.int v14), none] [] := by
          intro nn
          induction nn with
          | zero => intro v14 v14Z h15 v14E Ih15 Fh15 K16 K17 q18 hm19; exact absurd hm19 (by omega)
          | succ nn ihL12 =>
            intro v14 v14Z h15 v14E Ih15 Fh15 K16 K17 q18 hm19
            refine V_iload d_Mod_findShown_10 rfl ?_
            refine V_aload_n 0 d_Mod_findShown_12 rfl rfl ?_
            refine N_callVI [] [.int v14] cv_Mod_183 sk_116 rfl d_Mod_findShown_13 rfl (Nat.le_of_ble_eq_true rfl) (by decide) (by decide) (c_Mod_cellMany h15 Ih15 w wZ wE K16 g gZ gE K17) (fun z20 h21 z20Z z20E p22 => ?_)
            obtain ⟨eh21, p22⟩ := p22
            subst eh21
            refine V_icmp_ge 80 v14E z20E d_Mod_findShown_16 (by decide) (fun c23 => ?_) (fun c23 => ?_)
            ·
              obtain ⟨z24, z24E, z24e⟩ : ∃ y : Int32, y.toInt = v5Z + (-1) ∧ y = v5 + Int32.ofInt (-1) := ⟨_, ti_add v5E (by decide) (by omega), rfl⟩
              refine V_iinc 3 [some (.ref 116), some (.int o), some (.int n), some (.int z24), some (.int v14), none] d_Mod_findShown_80 rfl z24e.symm (by decide) rfl rfl ?_
              refine V_goto 2 d_Mod_findShown_83 (by decide) ?_
              refine V_drop 4 [some (.ref 116), some (.int o), some (.int n), some (.int z24), none, none] rfl ?_
              exact ihL3 z24 ((v5Z + (-1))) h15 z24E Ih15 Fh15 K16 K17 (by omega) (by omega)
            ·
              refine V_iload_n 3 d_Mod_findShown_19 rfl rfl ?_
              refine V_iload_n 2 d_Mod_findShown_20 rfl rfl ?_
              refine V_icmp_ne 28 v5E nE d_Mod_findShown_21 (by decide) (fun c25 => ?_) (fun c25 => ?_)
              ·
                refine V_aload_n 0 d_Mod_findShown_28 rfl rfl ?_
                refine V_getR fa_Mod_26 sk_116 rfl d_Mod_findShown_29 ?_
                refine V_bipush 16 d_Mod_findShown_32 (by decide) ?_
                refine V_iload_n 3 d_Mod_findShown_34 rfl rfl ?_
                refine V_iconst 1 d_Mod_findShown_35 (by decide) ?_
                refine V_iadd v5E tc_1 (by omega) d_Mod_findShown_36 (fun z26 z26e z26E => ?_)
                refine V_imul tc_16 z26E (by omega) d_Mod_findShown_37 (fun z27 z27e z27E => ?_)
                refine V_aload_n 0 d_Mod_findShown_38 rfl rfl ?_
                refine V_iload d_Mod_findShown_39 rfl ?_
                refine V_iload_n 3 d_Mod_findShown_41 rfl rfl ?_
                refine V_iconst 1 d_Mod_findShown_42 (by decide) ?_
                refine V_iadd v5E tc_1 (by omega) d_Mod_findShown_43 (fun z28 z28e z28E => ?_)
                refine N_callVI [.int v14, .int z28] [.int z27, .ref 122] cv_Mod_246 sk_116 rfl d_Mod_findShown_44 rfl (Nat.le_of_ble_eq_true rfl) (by decide) (by decide) (c_Mod_bestBeside h15 Ih15 v14 v14Z v14E z28 ((v5Z + 1)) z28E w wZ wE K16 g gZ gE K17 (by omega) (by omega)) (fun z29 h30 z29Z z29E p31 => ?_)
                obtain ⟨eh30, p31⟩ := p31
                subst eh30
                refine V_iadd z27E z29E (by omega) d_Mod_findShown_47 (fun z32 z32e z32E => ?_)
                refine N_iald sk_122 z32E (by omega) d_Mod_findShown_48 (fun z33 z33Z z33E z33e => ?_)
                refine V_istore 5 [some (.ref 116), some (.int o), some (.int n), some (.int v5), some (.int v14), some (.int z33)] d_Mod_findShown_49 (by decide) rfl rfl ?_
                refine V_aload_n 0 d_Mod_findShown_51 rfl rfl ?_
                refine V_getR fa_Mod_26 sk_116 rfl d_Mod_findShown_52 ?_
                refine V_bipush 16 d_Mod_findShown_55 (by decide) ?_
                refine V_iload_n 3 d_Mod_findShown_57 rfl rfl ?_
                refine V_imul tc_16 v5E (by omega) d_Mod_findShown_58 (fun z34 z34e z34E => ?_)
                refine V_iload d_Mod_findShown_59 rfl ?_
                refine V_iadd z34E v14E (by omega) d_Mod_findShown_61 (fun z35 z35e z35E => ?_)
                refine V_aload_n 0 d_Mod_findShown_62 rfl rfl ?_
                refine V_iload d_Mod_findShown_63 rfl ?_
                refine V_iload_n 1 d_Mod_findShown_65 rfl rfl ?_
                refine V_iload_n 3 d_Mod_findShown_66 rfl rfl ?_
                refine N_callVI [.int v14, .int o, .int v5] [.int z35, .ref 122] cv_Mod_249 sk_116 rfl d_Mod_findShown_67 rfl (Nat.le_of_ble_eq_true rfl) (by decide) (by decide) (c_Mod_showsIn h15 Ih15 v14 v14Z v14E o oZ oE v5 v5Z v5E (by omega)) (fun z36 h37 z36Z z36E p38 => ?_)
                subst p38
                refine V_iload d_Mod_findShown_70 rfl ?_
                refine N_iaddw d_Mod_findShown_72 (fun z39 z39Z z39E z39e => ?_)
                refine N_iast sk_122 z35E (by omega) d_Mod_findShown_73 (fun h40 eh40 => ?_)
                have hI41 : Inv h40 := inv_full Ih15 eh40 rfl
                have f42 : fr S_Mod_findShown h h40 := fr_put Fh15 eh40 rfl
                obtain ⟨z43, z43E, z43e⟩ : ∃ y : Int32, y.toInt = v14Z + 1 ∧ y = v14 + Int32.ofInt 1 := ⟨_, ti_add v14E (by decide) (by omega), rfl⟩
                refine V_iinc 4 [some (.ref 116), some (.int o), some (.int n), some (.int v5), some (.int z43), some (.int z33)] d_Mod_findShown_74 rfl z43e.symm (by decide) rfl rfl ?_
                refine V_goto 10 d_Mod_findShown_77 (by decide) ?_
                refine V_drop 5 [some (.ref 116), some (.int o), some (.int n), some (.int v5), some (.int z43), none] rfl ?_
                exact ihL12 z43 ((v14Z + 1)) h40 z43E hI41 f42 (kn_ne eh40 K16 (by decide)) (kn_ne eh40 K17 (by decide)) (by omega) (by omega)
              ·
                refine V_iconst 0 d_Mod_findShown_24 (by decide) ?_
                refine V_goto 49 d_Mod_findShown_25 (by decide) ?_
                refine V_istore 5 [some (.ref 116), some (.int o), some (.int n), some (.int v5), some (.int v14), some (.int 0)] d_Mod_findShown_49 (by decide) rfl rfl ?_
                refine V_aload_n 0 d_Mod_findShown_51 rfl rfl ?_
                refine V_getR fa_Mod_26 sk_116 rfl d_Mod_findShown_52 ?_
                refine V_bipush 16 d_Mod_findShown_55 (by decide) ?_
                refine V_iload_n 3 d_Mod_findShown_57 rfl rfl ?_
                refine V_imul tc_16 v5E (by omega) d_Mod_findShown_58 (fun z44 z44e z44E => ?_)
                refine V_iload d_Mod_findShown_59 rfl ?_
                refine V_iadd z44E v14E (by omega) d_Mod_findShown_61 (fun z45 z45e z45E => ?_)
                refine V_aload_n 0 d_Mod_findShown_62 rfl rfl ?_
                refine V_iload d_Mod_findShown_63 rfl ?_
                refine V_iload_n 1 d_Mod_findShown_65 rfl rfl ?_
                refine V_iload_n 3 d_Mod_findShown_66 rfl rfl ?_
                refine N_callVI [.int v14, .int o, .int v5] [.int z45, .ref 122] cv_Mod_249 sk_116 rfl d_Mod_findShown_67 rfl (Nat.le_of_ble_eq_true rfl) (by decide) (by decide) (c_Mod_showsIn h15 Ih15 v14 v14Z v14E o oZ oE v5 v5Z v5E (by omega)) (fun z46 h47 z46Z z46E p48 => ?_)
                subst p48
                refine V_iload d_Mod_findShown_70 rfl ?_
                refine N_iaddw d_Mod_findShown_72 (fun z49 z49Z z49E z49e => ?_)
                refine N_iast sk_122 z45E (by omega) d_Mod_findShown_73 (fun h50 eh50 => ?_)
                have hI51 : Inv h50 := inv_full Ih15 eh50 rfl
                have f52 : fr S_Mod_findShown h h50 := fr_put Fh15 eh50 rfl
                obtain ⟨z53, z53E, z53e⟩ : ∃ y : Int32, y.toInt = v14Z + 1 ∧ y = v14 + Int32.ofInt 1 := ⟨_, ti_add v14E (by decide) (by omega), rfl⟩
                refine V_iinc 4 [some (.ref 116), some (.int o), some (.int n), some (.int v5), some (.int z53), some (.int 0)] d_Mod_findShown_74 rfl z53e.symm (by decide) rfl rfl ?_
                refine V_goto 10 d_Mod_findShown_77 (by decide) ?_
                refine V_drop 5 [some (.ref 116), some (.int o), some (.int n), some (.int v5), some (.int z53), none] rfl ?_
                exact ihL12 z53 ((v14Z + 1)) h50 z53E hI51 f52 (kn_ne eh50 K16 (by decide)) (kn_ne eh50 K17 (by decide)) (by omega) (by omega)
        exact L12 (Int.toNat ((16 - 0 : Int) + 1)) 0 0 h6 tc_0 Ih6 Fh6 K7 K8 (by omega) (by omega)
  exact L3 (Int.toNat ((nZ : Int) + 1)) n nZ h nE hI f0 wK gK (by omega) (by omega)
theorem d_Mod_show_0 : decode b_Mod_show 0 = .ok (.aload_n 0, 1) := dc_42 (by decide +kernel)
theorem d_Mod_show_1 : decode b_Mod_show 1 = .ok (.iload_n 1, 1) := dc_27 (by decide +kernel)
theorem d_Mod_show_2 : decode b_Mod_show 2 = .ok (.invokevirtual 200, 3) := dc_182 (a := 0) (b := 200) (by decide +kernel) rfl
theorem d_Mod_show_5 : decode b_Mod_show 5 = .ok (.ifCond .eq 44, 3) := dc_153 (a := 0) (b := 44) (by decide +kernel) rfl
theorem d_Mod_show_8 : decode b_Mod_show 8 = .ok (.iload_n 2, 1) := dc_28 (by decide +kernel)
theorem d_Mod_show_9 : decode b_Mod_show 9 = .ok (.invokestatic 205, 3) := dc_184 (a := 0) (b := 205) (by decide +kernel) rfl
theorem d_Mod_show_12 : decode b_Mod_show 12 = .ok (.ifCond .eq 37, 3) := dc_153 (a := 0) (b := 37) (by decide +kernel) rfl
theorem d_Mod_show_15 : decode b_Mod_show 15 = .ok (.iload_n 3, 1) := dc_29 (by decide +kernel)
theorem d_Mod_show_16 : decode b_Mod_show 16 = .ok (.i2l, 1) := dc_133 (by decide +kernel)
theorem d_Mod_show_17 : decode b_Mod_show 17 = .ok (.lconst 1, 1) := dc_10 (by decide +kernel)
theorem d_Mod_show_18 : decode b_Mod_show 18 = .ok (.ldc2_w 253, 3) := dc_20 (a := 0) (b := 253) (by decide +kernel) rfl
theorem d_Mod_show_21 : decode b_Mod_show 21 = .ok (.invokestatic 95, 3) := dc_184 (a := 0) (b := 95) (by decide +kernel) rfl
theorem d_Mod_show_24 : decode b_Mod_show 24 = .ok (.ifCond .eq 25, 3) := dc_153 (a := 0) (b := 25) (by decide +kernel) rfl
theorem d_Mod_show_27 : decode b_Mod_show 27 = .ok (.iload 4, 2) := dc_21 (a := 4) (by decide +kernel) rfl
theorem d_Mod_show_29 : decode b_Mod_show 29 = .ok (.ifCond .eq 22, 3) := dc_153 (a := 0) (b := 22) (by decide +kernel) rfl
theorem d_Mod_show_32 : decode b_Mod_show 32 = .ok (.iload 4, 2) := dc_21 (a := 4) (by decide +kernel) rfl
theorem d_Mod_show_34 : decode b_Mod_show 34 = .ok (.bipush 10, 2) := dc_16 (a := 10) (by decide +kernel) rfl
theorem d_Mod_show_36 : decode b_Mod_show 36 = .ok (.isub, 1) := dc_100 (by decide +kernel)
theorem d_Mod_show_37 : decode b_Mod_show 37 = .ok (.i2l, 1) := dc_133 (by decide +kernel)
theorem d_Mod_show_38 : decode b_Mod_show 38 = .ok (.lconst 0, 1) := dc_9 (by decide +kernel)
theorem d_Mod_show_39 : decode b_Mod_show 39 = .ok (.iload_n 3, 1) := dc_29 (by decide +kernel)
theorem d_Mod_show_40 : decode b_Mod_show 40 = .ok (.iconst 1, 1) := dc_4 (by decide +kernel)
theorem d_Mod_show_41 : decode b_Mod_show 41 = .ok (.isub, 1) := dc_100 (by decide +kernel)
theorem d_Mod_show_42 : decode b_Mod_show 42 = .ok (.i2l, 1) := dc_133 (by decide +kernel)
theorem d_Mod_show_43 : decode b_Mod_show 43 = .ok (.invokestatic 95, 3) := dc_184 (a := 0) (b := 95) (by decide +kernel) rfl
theorem d_Mod_show_46 : decode b_Mod_show 46 = .ok (.ifCond .ne 5, 3) := dc_154 (a := 0) (b := 5) (by decide +kernel) rfl
theorem d_Mod_show_49 : decode b_Mod_show 49 = .ok (.iconst (-1), 1) := dc_2 (by decide +kernel)
theorem d_Mod_show_50 : decode b_Mod_show 50 = .ok (.ireturn, 1) := dc_172 (by decide +kernel)
theorem d_Mod_show_51 : decode b_Mod_show 51 = .ok (.aload_n 0, 1) := dc_42 (by decide +kernel)
theorem d_Mod_show_52 : decode b_Mod_show 52 = .ok (.iload_n 2, 1) := dc_28 (by decide +kernel)
theorem d_Mod_show_53 : decode b_Mod_show 53 = .ok (.iload_n 3, 1) := dc_29 (by decide +kernel)
theorem d_Mod_show_54 : decode b_Mod_show 54 = .ok (.invokevirtual 255, 3) := dc_182 (a := 0) (b := 255) (by decide +kernel) rfl
theorem d_Mod_show_57 : decode b_Mod_show 57 = .ok (.iload 4, 2) := dc_21 (a := 4) (by decide +kernel) rfl
theorem d_Mod_show_59 : decode b_Mod_show 59 = .ok (.ifCond .ne 16, 3) := dc_154 (a := 0) (b := 16) (by decide +kernel) rfl
theorem d_Mod_show_62 : decode b_Mod_show 62 = .ok (.bipush 10, 2) := dc_16 (a := 10) (by decide +kernel) rfl
theorem d_Mod_show_64 : decode b_Mod_show 64 = .ok (.aload_n 0, 1) := dc_42 (by decide +kernel)
theorem d_Mod_show_65 : decode b_Mod_show 65 = .ok (.getfield 26, 3) := dc_180 (a := 0) (b := 26) (by decide +kernel) rfl
theorem d_Mod_show_68 : decode b_Mod_show 68 = .ok (.bipush 16, 2) := dc_16 (a := 16) (by decide +kernel) rfl
theorem d_Mod_show_70 : decode b_Mod_show 70 = .ok (.iload_n 1, 1) := dc_27 (by decide +kernel)
theorem d_Mod_show_71 : decode b_Mod_show 71 = .ok (.iadd, 1) := dc_96 (by decide +kernel)
theorem d_Mod_show_72 : decode b_Mod_show 72 = .ok (.iaload, 1) := dc_46 (by decide +kernel)
theorem d_Mod_show_73 : decode b_Mod_show 73 = .ok (.iadd, 1) := dc_96 (by decide +kernel)
theorem d_Mod_show_74 : decode b_Mod_show 74 = .ok (.ireturn, 1) := dc_172 (by decide +kernel)
theorem d_Mod_show_75 : decode b_Mod_show 75 = .ok (.iload_n 1, 1) := dc_27 (by decide +kernel)
theorem d_Mod_show_76 : decode b_Mod_show 76 = .ok (.istore 5, 2) := dc_54 (a := 5) (by decide +kernel) rfl
theorem d_Mod_show_78 : decode b_Mod_show 78 = .ok (.iconst 0, 1) := dc_3 (by decide +kernel)
theorem d_Mod_show_79 : decode b_Mod_show 79 = .ok (.istore 6, 2) := dc_54 (a := 6) (by decide +kernel) rfl
theorem d_Mod_show_81 : decode b_Mod_show 81 = .ok (.iload 6, 2) := dc_21 (a := 6) (by decide +kernel) rfl
theorem d_Mod_show_83 : decode b_Mod_show 83 = .ok (.iload 4, 2) := dc_21 (a := 4) (by decide +kernel) rfl
theorem d_Mod_show_85 : decode b_Mod_show 85 = .ok (.bipush 10, 2) := dc_16 (a := 10) (by decide +kernel) rfl
theorem d_Mod_show_87 : decode b_Mod_show 87 = .ok (.isub, 1) := dc_100 (by decide +kernel)
theorem d_Mod_show_88 : decode b_Mod_show 88 = .ok (.if_icmp .ge 21, 3) := dc_162 (a := 0) (b := 21) (by decide +kernel) rfl
theorem d_Mod_show_91 : decode b_Mod_show 91 = .ok (.aload_n 0, 1) := dc_42 (by decide +kernel)
theorem d_Mod_show_92 : decode b_Mod_show 92 = .ok (.iload 5, 2) := dc_21 (a := 5) (by decide +kernel) rfl
theorem d_Mod_show_94 : decode b_Mod_show 94 = .ok (.iload 6, 2) := dc_21 (a := 6) (by decide +kernel) rfl
theorem d_Mod_show_96 : decode b_Mod_show 96 = .ok (.iconst 2, 1) := dc_5 (by decide +kernel)
theorem d_Mod_show_97 : decode b_Mod_show 97 = .ok (.iadd, 1) := dc_96 (by decide +kernel)
theorem d_Mod_show_98 : decode b_Mod_show 98 = .ok (.invokevirtual 246, 3) := dc_182 (a := 0) (b := 246) (by decide +kernel) rfl
theorem d_Mod_show_101 : decode b_Mod_show 101 = .ok (.istore 5, 2) := dc_54 (a := 5) (by decide +kernel) rfl
theorem d_Mod_show_103 : decode b_Mod_show 103 = .ok (.iinc 6 1, 3) := dc_132 (a := 6) (b := 1) (by decide +kernel) rfl
theorem d_Mod_show_106 : decode b_Mod_show 106 = .ok (.goto (-25), 3) := dc_167 (a := 255) (b := 231) (by decide +kernel) rfl
theorem d_Mod_show_109 : decode b_Mod_show 109 = .ok (.iload 5, 2) := dc_21 (a := 5) (by decide +kernel) rfl
theorem d_Mod_show_111 : decode b_Mod_show 111 = .ok (.ireturn, 1) := dc_172 (by decide +kernel)
def S_Mod_show : List (Nat × Option Nat) := [(122, none)]
abbrev q_Mod_show (h : Hp) (c : Int32) (cZ : Int) (o : Int32) (oZ : Int) (n : Int32) (nZ : Int) (a : Int32) (aZ : Int) (w : Int32) (wZ : Int) (g : Int32) (gZ : Int) : Option Value → Hp → Prop := pInt (fun r h' => Inv h' ∧ fr S_Mod_show h h')
set_option maxRecDepth 100000 in
theorem c_Mod_show (h : Hp) (hI : Inv h) (c : Int32) (cZ : Int) (cE : c.toInt = cZ) (o : Int32) (oZ : Int) (oE : o.toInt = oZ) (n : Int32) (nZ : Int) (nE : n.toInt = nZ) (a : Int32) (aZ : Int) (aE : a.toInt = aZ) (w : Int32) (wZ : Int) (wE : w.toInt = wZ) (wK : h.1 116 2 = w) (g : Int32) (gZ : Int) (gE : g.toInt = gZ) (gK : h.1 116 3 = g) : Ct y_Mod_show b_Mod_show 7 (some .int) 4 93 [.ref 116, .int c, .int o, .int n, .int a] h (q_Mod_show h c cZ o oZ n nZ a aZ w wZ g gZ) := by
  refine ct_ow R_Mod [some (.ref 116), some (.int c), some (.int o), some (.int n), some (.int a), none, none] rfl (by decide) rfl (Nat.le_of_ble_eq_true rfl) ?_
  have f0 : fr S_Mod_show h h := fr_rf
  have g1 : 2 ≤ wZ ∧ wZ ≤ 4 := inv_at hI wE wK.symm rfl
  have g2 : 2 ≤ gZ ∧ gZ ≤ 4 := inv_at hI gE gK.symm rfl
  refine V_aload_n 0 d_Mod_show_0 rfl rfl ?_
  refine V_iload_n 1 d_Mod_show_1 rfl rfl ?_
  refine N_callVI [.int c] [] cv_Mod_200 sk_116 rfl d_Mod_show_2 rfl (Nat.le_of_ble_eq_true rfl) (by decide) (by decide) (c_Mod_isCell h hI c cZ cE w wZ wE wK g gZ gE gK) (fun z3 h4 z3Z z3E p5 => ?_)
  obtain ⟨eh4, p5⟩ := p5
  subst eh4
  refine V_if_eq 49 z3E d_Mod_show_5 (by decide) (fun c6 => ?_) (fun c6 => ?_)
  ·
    refine V_iconst (-1) d_Mod_show_49 (by decide) ?_
    exact V_iret rfl d_Mod_show_50 ⟨(-1), rfl, ⟨hI, f0⟩⟩
  ·
    refine V_iload_n 2 d_Mod_show_8 rfl rfl ?_
    refine N_callSI [.int o] [] cs_Mod_205 d_Mod_show_9 rfl (Nat.le_of_ble_eq_true rfl) (by decide) (by decide) (c_Mod_isOwner h o oZ oE) (fun z7 h8 z7Z z7E p9 => ?_)
    obtain ⟨eh8, p9⟩ := p9
    subst eh8
    refine V_if_eq 49 z7E d_Mod_show_12 (by decide) (fun c10 => ?_) (fun c10 => ?_)
    ·
      refine V_iconst (-1) d_Mod_show_49 (by decide) ?_
      exact V_iret rfl d_Mod_show_50 ⟨(-1), rfl, ⟨hI, f0⟩⟩
    ·
      refine V_iload_n 3 d_Mod_show_15 rfl rfl ?_
      refine V_i2l d_Mod_show_16 (fun z11 z11e z11E => ?_)
      have z11F : z11.toInt = nZ := z11E.trans nE
      refine V_lconst 1 d_Mod_show_17 (by decide) ?_
      refine V_ldc2 d_Mod_show_18 wl_Mod_253 ?_
      refine N_callSI [.long z11, .long 1, .long 6] [] cs_Mod_95 d_Mod_show_21 rfl (Nat.le_of_ble_eq_true rfl) (by decide) (by decide) (c_Mod_in h z11 nZ z11F 1 1 tl_1 6 6 tl_6) (fun z12 h13 z12Z z12E p14 => ?_)
      obtain ⟨eh13, p14⟩ := p14
      subst eh13
      refine V_if_eq 49 z12E d_Mod_show_24 (by decide) (fun c15 => ?_) (fun c15 => ?_)
      ·
        refine V_iconst (-1) d_Mod_show_49 (by decide) ?_
        exact V_iret rfl d_Mod_show_50 ⟨(-1), rfl, ⟨hI, f0⟩⟩
      ·
        refine V_iload d_Mod_show_27 rfl ?_
        refine V_if_eq 51 aE d_Mod_show_29 (by decide) (fun c16 => ?_) (fun c16 => ?_)
        ·
          refine V_aload_n 0 d_Mod_show_51 rfl rfl ?_
          refine V_iload_n 2 d_Mod_show_52 rfl rfl ?_
          refine V_iload_n 3 d_Mod_show_53 rfl rfl ?_
          refine N_callVV [.int o, .int n] [] cv_Mod_255 sk_116 rfl d_Mod_show_54 rfl (Nat.le_of_ble_eq_true rfl) (by decide) (by decide) (c_Mod_findShown h hI o oZ oE n nZ nE w wZ wE wK g gZ gE gK (by omega)) (fun h18 p19 => ?_)
          obtain ⟨hI20, fh18⟩ := p19
          have f21 : fr S_Mod_show h h18 := fr_call f0 fh18 rfl
          refine V_iload d_Mod_show_57 rfl ?_
          refine V_if_ne 75 aE d_Mod_show_59 (by decide) (fun c22 => ?_) (fun c22 => ?_)
          ·
            refine V_iload_n 1 d_Mod_show_75 rfl rfl ?_
            refine V_istore 5 [some (.ref 116), some (.int c), some (.int o), some (.int n), some (.int a), some (.int c), none] d_Mod_show_76 (by decide) rfl rfl ?_
            refine V_iconst 0 d_Mod_show_78 (by decide) ?_
            refine V_istore 6 [some (.ref 116), some (.int c), some (.int o), some (.int n), some (.int a), some (.int c), some (.int 0)] d_Mod_show_79 (by decide) rfl rfl ?_
            have L23 : ∀ (nn : Nat) (v25 : Int32) (v25Z : Int) (v26 : Int32) (v26Z : Int), v25.toInt = v25Z → v26.toInt = v26Z → 0 ≤ v26Z ∧ v26Z ≤ aZ - 10 → -4 - v26Z ≤ v25Z ∧ v25Z ≤ 15 + v26Z → aZ - 10 - v26Z < (nn : Int) → V R_Mod b_Mod_show 7 (some .int) 4 93 (q_Mod_show h c cZ o oZ n nZ a aZ w wZ g gZ) h18 81 [some (.ref 116), some (.int c), some (.int o), some (.int n), some (.int a), some (.int v25), some (.int v26)] [] := by
              intro nn
              induction nn with
              | zero => intro v25 v25Z v26 v26Z v25E v26E q27 q28 hm29; exact absurd hm29 (by omega)
              | succ nn ihL23 =>
                intro v25 v25Z v26 v26Z v25E v26E q27 q28 hm29
                refine V_iload d_Mod_show_81 rfl ?_
                refine V_iload d_Mod_show_83 rfl ?_
                refine V_bipush 10 d_Mod_show_85 (by decide) ?_
                refine V_isub aE tc_10 (by omega) d_Mod_show_87 (fun z30 z30e z30E => ?_)
                refine V_icmp_ge 109 v26E z30E d_Mod_show_88 (by decide) (fun c31 => ?_) (fun c31 => ?_)
                ·
                  refine V_iload d_Mod_show_109 rfl ?_
                  exact V_iret rfl d_Mod_show_111 ⟨v25, rfl, ⟨hI20, f21⟩⟩
                ·
                  refine V_aload_n 0 d_Mod_show_91 rfl rfl ?_
                  refine V_iload d_Mod_show_92 rfl ?_
                  refine V_iload d_Mod_show_94 rfl ?_
                  refine V_iconst 2 d_Mod_show_96 (by decide) ?_
                  refine V_iadd v26E tc_2 (by omega) d_Mod_show_97 (fun z32 z32e z32E => ?_)
                  refine N_callVI [.int v25, .int z32] [] cv_Mod_246 sk_116 rfl d_Mod_show_98 rfl (Nat.le_of_ble_eq_true rfl) (by decide) (by decide) (c_Mod_bestBeside h18 hI20 v25 v25Z v25E z32 ((v26Z + 2)) z32E w wZ wE (kn_call fh18 wK rfl) g gZ gE (kn_call fh18 gK rfl) (by omega) (by omega)) (fun z33 h34 z33Z z33E p35 => ?_)
                  obtain ⟨eh34, p35⟩ := p35
                  subst eh34
                  refine V_istore 5 [some (.ref 116), some (.int c), some (.int o), some (.int n), some (.int a), some (.int z33), some (.int v26)] d_Mod_show_101 (by decide) rfl rfl ?_
                  obtain ⟨z36, z36E, z36e⟩ : ∃ y : Int32, y.toInt = v26Z + 1 ∧ y = v26 + Int32.ofInt 1 := ⟨_, ti_add v26E (by decide) (by omega), rfl⟩
                  refine V_iinc 6 [some (.ref 116), some (.int c), some (.int o), some (.int n), some (.int a), some (.int z33), some (.int z36)] d_Mod_show_103 rfl z36e.symm (by decide) rfl rfl ?_
                  refine V_goto 81 d_Mod_show_106 (by decide) ?_
                  exact ihL23 z33 z33Z z36 ((v26Z + 1)) z33E z36E (by omega) (by omega) (by omega)
            exact L23 (Int.toNat ((aZ - 10 - 0 : Int) + 1)) c cZ 0 0 cE tc_0 (by omega) (by omega) (by omega)
          ·
            refine V_bipush 10 d_Mod_show_62 (by decide) ?_
            refine V_aload_n 0 d_Mod_show_64 rfl rfl ?_
            refine V_getR fa_Mod_26 sk_116 rfl d_Mod_show_65 ?_
            refine V_bipush 16 d_Mod_show_68 (by decide) ?_
            refine V_iload_n 1 d_Mod_show_70 rfl rfl ?_
            refine V_iadd tc_16 cE (by omega) d_Mod_show_71 (fun z37 z37e z37E => ?_)
            refine N_iald sk_122 z37E (by omega) d_Mod_show_72 (fun z38 z38Z z38E z38e => ?_)
            refine N_iaddw d_Mod_show_73 (fun z39 z39Z z39E z39e => ?_)
            exact V_iret rfl d_Mod_show_74 ⟨z39, rfl, ⟨hI20, f21⟩⟩
        ·
          refine V_iload d_Mod_show_32 rfl ?_
          refine V_bipush 10 d_Mod_show_34 (by decide) ?_
          refine N_isubw d_Mod_show_36 (fun z40 z40Z z40E z40e => ?_)
          have g41 := subw_ti aE tc_10 z40e z40E
          refine V_i2l d_Mod_show_37 (fun z42 z42e z42E => ?_)
          have z42F : z42.toInt = z40Z := z42E.trans z40E
          refine V_lconst 0 d_Mod_show_38 (by decide) ?_
          refine V_iload_n 3 d_Mod_show_39 rfl rfl ?_
          refine V_iconst 1 d_Mod_show_40 (by decide) ?_
          refine V_isub nE tc_1 (by omega) d_Mod_show_41 (fun z43 z43e z43E => ?_)
          refine V_i2l d_Mod_show_42 (fun z44 z44e z44E => ?_)
          have z44F : z44.toInt = (nZ - 1) := z44E.trans z43E
          refine N_callSI [.long z42, .long 0, .long z44] [] cs_Mod_95 d_Mod_show_43 rfl (Nat.le_of_ble_eq_true rfl) (by decide) (by decide) (c_Mod_in h z42 z40Z z42F 0 0 tl_0 z44 ((nZ - 1)) z44F) (fun z45 h46 z45Z z45E p47 => ?_)
          obtain ⟨eh46, p47⟩ := p47
          subst eh46
          refine V_if_ne 51 z45E d_Mod_show_46 (by decide) (fun c48 => ?_) (fun c48 => ?_)
          ·
            refine V_aload_n 0 d_Mod_show_51 rfl rfl ?_
            refine V_iload_n 2 d_Mod_show_52 rfl rfl ?_
            refine V_iload_n 3 d_Mod_show_53 rfl rfl ?_
            refine N_callVV [.int o, .int n] [] cv_Mod_255 sk_116 rfl d_Mod_show_54 rfl (Nat.le_of_ble_eq_true rfl) (by decide) (by decide) (c_Mod_findShown h hI o oZ oE n nZ nE w wZ wE wK g gZ gE gK (by omega)) (fun h50 p51 => ?_)
            obtain ⟨hI52, fh50⟩ := p51
            have f53 : fr S_Mod_show h h50 := fr_call f0 fh50 rfl
            refine V_iload d_Mod_show_57 rfl ?_
            refine V_if_ne 75 aE d_Mod_show_59 (by decide) (fun c54 => ?_) (fun c54 => ?_)
            ·
              refine V_iload_n 1 d_Mod_show_75 rfl rfl ?_
              refine V_istore 5 [some (.ref 116), some (.int c), some (.int o), some (.int n), some (.int a), some (.int c), none] d_Mod_show_76 (by decide) rfl rfl ?_
              refine V_iconst 0 d_Mod_show_78 (by decide) ?_
              refine V_istore 6 [some (.ref 116), some (.int c), some (.int o), some (.int n), some (.int a), some (.int c), some (.int 0)] d_Mod_show_79 (by decide) rfl rfl ?_
              have L55 : ∀ (nn : Nat) (v57 : Int32) (v57Z : Int) (v58 : Int32) (v58Z : Int), v57.toInt = v57Z → v58.toInt = v58Z → 0 ≤ v58Z ∧ v58Z ≤ aZ - 10 → -4 - v58Z ≤ v57Z ∧ v57Z ≤ 15 + v58Z → aZ - 10 - v58Z < (nn : Int) → V R_Mod b_Mod_show 7 (some .int) 4 93 (q_Mod_show h c cZ o oZ n nZ a aZ w wZ g gZ) h50 81 [some (.ref 116), some (.int c), some (.int o), some (.int n), some (.int a), some (.int v57), some (.int v58)] [] := by
                intro nn
                induction nn with
                | zero => intro v57 v57Z v58 v58Z v57E v58E q59 q60 hm61; exact absurd hm61 (by omega)
                | succ nn ihL55 =>
                  intro v57 v57Z v58 v58Z v57E v58E q59 q60 hm61
                  refine V_iload d_Mod_show_81 rfl ?_
                  refine V_iload d_Mod_show_83 rfl ?_
                  refine V_bipush 10 d_Mod_show_85 (by decide) ?_
                  refine V_isub aE tc_10 (by omega) d_Mod_show_87 (fun z62 z62e z62E => ?_)
                  refine V_icmp_ge 109 v58E z62E d_Mod_show_88 (by decide) (fun c63 => ?_) (fun c63 => ?_)
                  ·
                    refine V_iload d_Mod_show_109 rfl ?_
                    exact V_iret rfl d_Mod_show_111 ⟨v57, rfl, ⟨hI52, f53⟩⟩
                  ·
                    refine V_aload_n 0 d_Mod_show_91 rfl rfl ?_
                    refine V_iload d_Mod_show_92 rfl ?_
                    refine V_iload d_Mod_show_94 rfl ?_
                    refine V_iconst 2 d_Mod_show_96 (by decide) ?_
                    refine V_iadd v58E tc_2 (by omega) d_Mod_show_97 (fun z64 z64e z64E => ?_)
                    refine N_callVI [.int v57, .int z64] [] cv_Mod_246 sk_116 rfl d_Mod_show_98 rfl (Nat.le_of_ble_eq_true rfl) (by decide) (by decide) (c_Mod_bestBeside h50 hI52 v57 v57Z v57E z64 ((v58Z + 2)) z64E w wZ wE (kn_call fh50 wK rfl) g gZ gE (kn_call fh50 gK rfl) (by omega) (by omega)) (fun z65 h66 z65Z z65E p67 => ?_)
                    obtain ⟨eh66, p67⟩ := p67
                    subst eh66
                    refine V_istore 5 [some (.ref 116), some (.int c), some (.int o), some (.int n), some (.int a), some (.int z65), some (.int v58)] d_Mod_show_101 (by decide) rfl rfl ?_
                    obtain ⟨z68, z68E, z68e⟩ : ∃ y : Int32, y.toInt = v58Z + 1 ∧ y = v58 + Int32.ofInt 1 := ⟨_, ti_add v58E (by decide) (by omega), rfl⟩
                    refine V_iinc 6 [some (.ref 116), some (.int c), some (.int o), some (.int n), some (.int a), some (.int z65), some (.int z68)] d_Mod_show_103 rfl z68e.symm (by decide) rfl rfl ?_
                    refine V_goto 81 d_Mod_show_106 (by decide) ?_
                    exact ihL55 z65 z65Z z68 ((v58Z + 1)) z65E z68E (by omega) (by omega) (by omega)
              exact L55 (Int.toNat ((aZ - 10 - 0 : Int) + 1)) c cZ 0 0 cE tc_0 (by omega) (by omega) (by omega)
            ·
              refine V_bipush 10 d_Mod_show_62 (by decide) ?_
              refine V_aload_n 0 d_Mod_show_64 rfl rfl ?_
              refine V_getR fa_Mod_26 sk_116 rfl d_Mod_show_65 ?_
              refine V_bipush 16 d_Mod_show_68 (by decide) ?_
              refine V_iload_n 1 d_Mod_show_70 rfl rfl ?_
              refine V_iadd tc_16 cE (by omega) d_Mod_show_71 (fun z69 z69e z69E => ?_)
              refine N_iald sk_122 z69E (by omega) d_Mod_show_72 (fun z70 z70Z z70E z70e => ?_)
              refine N_iaddw d_Mod_show_73 (fun z71 z71Z z71E z71e => ?_)
              exact V_iret rfl d_Mod_show_74 ⟨z71, rfl, ⟨hI52, f53⟩⟩
          ·
            refine V_iconst (-1) d_Mod_show_49 (by decide) ?_
            exact V_iret rfl d_Mod_show_50 ⟨(-1), rfl, ⟨hI, f0⟩⟩
theorem d_Mod_bore_0 : decode b_Mod_bore 0 = .ok (.iload_n 1, 1) := dc_27 (by decide +kernel)
theorem d_Mod_bore_1 : decode b_Mod_bore 1 = .ok (.invokestatic 205, 3) := dc_184 (a := 0) (b := 205) (by decide +kernel) rfl
theorem d_Mod_bore_4 : decode b_Mod_bore 4 = .ok (.ifCond .eq 23, 3) := dc_153 (a := 0) (b := 23) (by decide +kernel) rfl
theorem d_Mod_bore_7 : decode b_Mod_bore 7 = .ok (.aload_n 0, 1) := dc_42 (by decide +kernel)
theorem d_Mod_bore_8 : decode b_Mod_bore 8 = .ok (.iload_n 2, 1) := dc_28 (by decide +kernel)
theorem d_Mod_bore_9 : decode b_Mod_bore 9 = .ok (.invokevirtual 200, 3) := dc_182 (a := 0) (b := 200) (by decide +kernel) rfl
theorem d_Mod_bore_12 : decode b_Mod_bore 12 = .ok (.ifCond .eq 15, 3) := dc_153 (a := 0) (b := 15) (by decide +kernel) rfl
theorem d_Mod_bore_15 : decode b_Mod_bore 15 = .ok (.iload_n 3, 1) := dc_29 (by decide +kernel)
theorem d_Mod_bore_16 : decode b_Mod_bore 16 = .ok (.i2l, 1) := dc_133 (by decide +kernel)
theorem d_Mod_bore_17 : decode b_Mod_bore 17 = .ok (.lconst 1, 1) := dc_10 (by decide +kernel)
theorem d_Mod_bore_18 : decode b_Mod_bore 18 = .ok (.ldc2_w 208, 3) := dc_20 (a := 0) (b := 208) (by decide +kernel) rfl
theorem d_Mod_bore_21 : decode b_Mod_bore 21 = .ok (.invokestatic 95, 3) := dc_184 (a := 0) (b := 95) (by decide +kernel) rfl
theorem d_Mod_bore_24 : decode b_Mod_bore 24 = .ok (.ifCond .ne 5, 3) := dc_154 (a := 0) (b := 5) (by decide +kernel) rfl
theorem d_Mod_bore_27 : decode b_Mod_bore 27 = .ok (.iconst (-1), 1) := dc_2 (by decide +kernel)
theorem d_Mod_bore_28 : decode b_Mod_bore 28 = .ok (.ireturn, 1) := dc_172 (by decide +kernel)
theorem d_Mod_bore_29 : decode b_Mod_bore 29 = .ok (.iload_n 3, 1) := dc_29 (by decide +kernel)
theorem d_Mod_bore_30 : decode b_Mod_bore 30 = .ok (.aload_n 0, 1) := dc_42 (by decide +kernel)
theorem d_Mod_bore_31 : decode b_Mod_bore 31 = .ok (.getfield 7, 3) := dc_180 (a := 0) (b := 7) (by decide +kernel) rfl
theorem d_Mod_bore_34 : decode b_Mod_bore 34 = .ok (.bipush 64, 2) := dc_16 (a := 64) (by decide +kernel) rfl
theorem d_Mod_bore_36 : decode b_Mod_bore 36 = .ok (.iload_n 2, 1) := dc_28 (by decide +kernel)
theorem d_Mod_bore_37 : decode b_Mod_bore 37 = .ok (.iadd, 1) := dc_96 (by decide +kernel)
theorem d_Mod_bore_38 : decode b_Mod_bore 38 = .ok (.iaload, 1) := dc_46 (by decide +kernel)
theorem d_Mod_bore_39 : decode b_Mod_bore 39 = .ok (.if_icmp .le 17, 3) := dc_164 (a := 0) (b := 17) (by decide +kernel) rfl
theorem d_Mod_bore_42 : decode b_Mod_bore 42 = .ok (.iload_n 3, 1) := dc_29 (by decide +kernel)
theorem d_Mod_bore_43 : decode b_Mod_bore 43 = .ok (.aload_n 0, 1) := dc_42 (by decide +kernel)
theorem d_Mod_bore_44 : decode b_Mod_bore 44 = .ok (.getfield 7, 3) := dc_180 (a := 0) (b := 7) (by decide +kernel) rfl
theorem d_Mod_bore_47 : decode b_Mod_bore 47 = .ok (.bipush 64, 2) := dc_16 (a := 64) (by decide +kernel) rfl
theorem d_Mod_bore_49 : decode b_Mod_bore 49 = .ok (.iload_n 2, 1) := dc_28 (by decide +kernel)
theorem d_Mod_bore_50 : decode b_Mod_bore 50 = .ok (.iadd, 1) := dc_96 (by decide +kernel)
theorem d_Mod_bore_51 : decode b_Mod_bore 51 = .ok (.iaload, 1) := dc_46 (by decide +kernel)
theorem d_Mod_bore_52 : decode b_Mod_bore 52 = .ok (.isub, 1) := dc_100 (by decide +kernel)
theorem d_Mod_bore_53 : decode b_Mod_bore 53 = .ok (.goto 4, 3) := dc_167 (a := 0) (b := 4) (by decide +kernel) rfl
theorem d_Mod_bore_56 : decode b_Mod_bore 56 = .ok (.iconst 0, 1) := dc_3 (by decide +kernel)
theorem d_Mod_bore_57 : decode b_Mod_bore 57 = .ok (.istore 4, 2) := dc_54 (a := 4) (by decide +kernel) rfl
theorem d_Mod_bore_59 : decode b_Mod_bore 59 = .ok (.aload_n 0, 1) := dc_42 (by decide +kernel)
theorem d_Mod_bore_60 : decode b_Mod_bore 60 = .ok (.getfield 7, 3) := dc_180 (a := 0) (b := 7) (by decide +kernel) rfl
theorem d_Mod_bore_63 : decode b_Mod_bore 63 = .ok (.bipush 64, 2) := dc_16 (a := 64) (by decide +kernel) rfl
theorem d_Mod_bore_65 : decode b_Mod_bore 65 = .ok (.iload_n 2, 1) := dc_28 (by decide +kernel)
theorem d_Mod_bore_66 : decode b_Mod_bore 66 = .ok (.iadd, 1) := dc_96 (by decide +kernel)
theorem d_Mod_bore_67 : decode b_Mod_bore 67 = .ok (.iaload, 1) := dc_46 (by decide +kernel)
theorem d_Mod_bore_68 : decode b_Mod_bore 68 = .ok (.iload 4, 2) := dc_21 (a := 4) (by decide +kernel) rfl
theorem d_Mod_bore_70 : decode b_Mod_bore 70 = .ok (.iadd, 1) := dc_96 (by decide +kernel)
theorem d_Mod_bore_71 : decode b_Mod_bore 71 = .ok (.istore 5, 2) := dc_54 (a := 5) (by decide +kernel) rfl
theorem d_Mod_bore_73 : decode b_Mod_bore 73 = .ok (.aload_n 0, 1) := dc_42 (by decide +kernel)
theorem d_Mod_bore_74 : decode b_Mod_bore 74 = .ok (.getfield 7, 3) := dc_180 (a := 0) (b := 7) (by decide +kernel) rfl
theorem d_Mod_bore_77 : decode b_Mod_bore 77 = .ok (.bipush 80, 2) := dc_16 (a := 80) (by decide +kernel) rfl
theorem d_Mod_bore_79 : decode b_Mod_bore 79 = .ok (.iload_n 1, 1) := dc_27 (by decide +kernel)
theorem d_Mod_bore_80 : decode b_Mod_bore 80 = .ok (.iadd, 1) := dc_96 (by decide +kernel)
theorem d_Mod_bore_81 : decode b_Mod_bore 81 = .ok (.iaload, 1) := dc_46 (by decide +kernel)
theorem d_Mod_bore_82 : decode b_Mod_bore 82 = .ok (.aload_n 0, 1) := dc_42 (by decide +kernel)
theorem d_Mod_bore_83 : decode b_Mod_bore 83 = .ok (.getfield 87, 3) := dc_180 (a := 0) (b := 87) (by decide +kernel) rfl
theorem d_Mod_bore_86 : decode b_Mod_bore 86 = .ok (.iload 4, 2) := dc_21 (a := 4) (by decide +kernel) rfl
theorem d_Mod_bore_88 : decode b_Mod_bore 88 = .ok (.imul, 1) := dc_104 (by decide +kernel)
theorem d_Mod_bore_89 : decode b_Mod_bore 89 = .ok (.isub, 1) := dc_100 (by decide +kernel)
theorem d_Mod_bore_90 : decode b_Mod_bore 90 = .ok (.istore 6, 2) := dc_54 (a := 6) (by decide +kernel) rfl
theorem d_Mod_bore_92 : decode b_Mod_bore 92 = .ok (.aload_n 0, 1) := dc_42 (by decide +kernel)
theorem d_Mod_bore_93 : decode b_Mod_bore 93 = .ok (.iload_n 2, 1) := dc_28 (by decide +kernel)
theorem d_Mod_bore_94 : decode b_Mod_bore 94 = .ok (.invokevirtual 192, 3) := dc_182 (a := 0) (b := 192) (by decide +kernel) rfl
theorem d_Mod_bore_97 : decode b_Mod_bore 97 = .ok (.ifCond .ne 23, 3) := dc_154 (a := 0) (b := 23) (by decide +kernel) rfl
theorem d_Mod_bore_100 : decode b_Mod_bore 100 = .ok (.aload_n 0, 1) := dc_42 (by decide +kernel)
theorem d_Mod_bore_101 : decode b_Mod_bore 101 = .ok (.getfield 7, 3) := dc_180 (a := 0) (b := 7) (by decide +kernel) rfl
theorem d_Mod_bore_104 : decode b_Mod_bore 104 = .ok (.iconst 0, 1) := dc_3 (by decide +kernel)
theorem d_Mod_bore_105 : decode b_Mod_bore 105 = .ok (.iload_n 2, 1) := dc_28 (by decide +kernel)
theorem d_Mod_bore_106 : decode b_Mod_bore 106 = .ok (.iadd, 1) := dc_96 (by decide +kernel)
theorem d_Mod_bore_107 : decode b_Mod_bore 107 = .ok (.iaload, 1) := dc_46 (by decide +kernel)
theorem d_Mod_bore_108 : decode b_Mod_bore 108 = .ok (.iload 5, 2) := dc_21 (a := 5) (by decide +kernel) rfl
theorem d_Mod_bore_110 : decode b_Mod_bore 110 = .ok (.invokestatic 188, 3) := dc_184 (a := 0) (b := 188) (by decide +kernel) rfl
theorem d_Mod_bore_113 : decode b_Mod_bore 113 = .ok (.ifCond .eq 7, 3) := dc_153 (a := 0) (b := 7) (by decide +kernel) rfl
theorem d_Mod_bore_116 : decode b_Mod_bore 116 = .ok (.iconst 1, 1) := dc_4 (by decide +kernel)
theorem d_Mod_bore_117 : decode b_Mod_bore 117 = .ok (.goto 4, 3) := dc_167 (a := 0) (b := 4) (by decide +kernel) rfl
theorem d_Mod_bore_120 : decode b_Mod_bore 120 = .ok (.iconst 0, 1) := dc_3 (by decide +kernel)
theorem d_Mod_bore_121 : decode b_Mod_bore 121 = .ok (.istore 7, 2) := dc_54 (a := 7) (by decide +kernel) rfl
theorem d_Mod_bore_123 : decode b_Mod_bore 123 = .ok (.iload 7, 2) := dc_21 (a := 7) (by decide +kernel) rfl
theorem d_Mod_bore_125 : decode b_Mod_bore 125 = .ok (.ifCond .eq 13, 3) := dc_153 (a := 0) (b := 13) (by decide +kernel) rfl
theorem d_Mod_bore_128 : decode b_Mod_bore 128 = .ok (.iload 6, 2) := dc_21 (a := 6) (by decide +kernel) rfl
theorem d_Mod_bore_130 : decode b_Mod_bore 130 = .ok (.aload_n 0, 1) := dc_42 (by decide +kernel)
theorem d_Mod_bore_131 : decode b_Mod_bore 131 = .ok (.getfield 90, 3) := dc_180 (a := 0) (b := 90) (by decide +kernel) rfl
theorem d_Mod_bore_134 : decode b_Mod_bore 134 = .ok (.iadd, 1) := dc_96 (by decide +kernel)
theorem d_Mod_bore_135 : decode b_Mod_bore 135 = .ok (.goto 5, 3) := dc_167 (a := 0) (b := 5) (by decide +kernel) rfl
theorem d_Mod_bore_138 : decode b_Mod_bore 138 = .ok (.iload 6, 2) := dc_21 (a := 6) (by decide +kernel) rfl
theorem d_Mod_bore_140 : decode b_Mod_bore 140 = .ok (.istore 8, 2) := dc_54 (a := 8) (by decide +kernel) rfl
theorem d_Mod_bore_142 : decode b_Mod_bore 142 = .ok (.aload_n 0, 1) := dc_42 (by decide +kernel)
theorem d_Mod_bore_143 : decode b_Mod_bore 143 = .ok (.getfield 7, 3) := dc_180 (a := 0) (b := 7) (by decide +kernel) rfl
theorem d_Mod_bore_146 : decode b_Mod_bore 146 = .ok (.bipush 48, 2) := dc_16 (a := 48) (by decide +kernel) rfl
theorem d_Mod_bore_148 : decode b_Mod_bore 148 = .ok (.iload_n 2, 1) := dc_28 (by decide +kernel)
theorem d_Mod_bore_149 : decode b_Mod_bore 149 = .ok (.iadd, 1) := dc_96 (by decide +kernel)
theorem d_Mod_bore_150 : decode b_Mod_bore 150 = .ok (.iaload, 1) := dc_46 (by decide +kernel)
theorem d_Mod_bore_151 : decode b_Mod_bore 151 = .ok (.iload_n 1, 1) := dc_27 (by decide +kernel)
theorem d_Mod_bore_152 : decode b_Mod_bore 152 = .ok (.if_icmp .ne 16, 3) := dc_160 (a := 0) (b := 16) (by decide +kernel) rfl
theorem d_Mod_bore_155 : decode b_Mod_bore 155 = .ok (.iload 6, 2) := dc_21 (a := 6) (by decide +kernel) rfl
theorem d_Mod_bore_157 : decode b_Mod_bore 157 = .ok (.ifCond .lt 11, 3) := dc_155 (a := 0) (b := 11) (by decide +kernel) rfl
theorem d_Mod_bore_160 : decode b_Mod_bore 160 = .ok (.iload 8, 2) := dc_21 (a := 8) (by decide +kernel) rfl
theorem d_Mod_bore_162 : decode b_Mod_bore 162 = .ok (.sipush 999, 3) := dc_17 (a := 3) (b := 231) (by decide +kernel) rfl
theorem d_Mod_bore_165 : decode b_Mod_bore 165 = .ok (.if_icmp .le 6, 3) := dc_164 (a := 0) (b := 6) (by decide +kernel) rfl
theorem d_Mod_bore_168 : decode b_Mod_bore 168 = .ok (.bipush (-2), 2) := dc_16 (a := 254) (by decide +kernel) rfl
theorem d_Mod_bore_170 : decode b_Mod_bore 170 = .ok (.ireturn, 1) := dc_172 (by decide +kernel)
theorem d_Mod_bore_171 : decode b_Mod_bore 171 = .ok (.aload_n 0, 1) := dc_42 (by decide +kernel)
theorem d_Mod_bore_172 : decode b_Mod_bore 172 = .ok (.getfield 7, 3) := dc_180 (a := 0) (b := 7) (by decide +kernel) rfl
theorem d_Mod_bore_175 : decode b_Mod_bore 175 = .ok (.bipush 80, 2) := dc_16 (a := 80) (by decide +kernel) rfl
theorem d_Mod_bore_177 : decode b_Mod_bore 177 = .ok (.iload_n 1, 1) := dc_27 (by decide +kernel)
theorem d_Mod_bore_178 : decode b_Mod_bore 178 = .ok (.iadd, 1) := dc_96 (by decide +kernel)
theorem d_Mod_bore_179 : decode b_Mod_bore 179 = .ok (.iload 8, 2) := dc_21 (a := 8) (by decide +kernel) rfl
theorem d_Mod_bore_181 : decode b_Mod_bore 181 = .ok (.iastore, 1) := dc_79 (by decide +kernel)
theorem d_Mod_bore_182 : decode b_Mod_bore 182 = .ok (.aload_n 0, 1) := dc_42 (by decide +kernel)
theorem d_Mod_bore_183 : decode b_Mod_bore 183 = .ok (.getfield 7, 3) := dc_180 (a := 0) (b := 7) (by decide +kernel) rfl
theorem d_Mod_bore_186 : decode b_Mod_bore 186 = .ok (.bipush 64, 2) := dc_16 (a := 64) (by decide +kernel) rfl
theorem d_Mod_bore_188 : decode b_Mod_bore 188 = .ok (.iload_n 2, 1) := dc_28 (by decide +kernel)
theorem d_Mod_bore_189 : decode b_Mod_bore 189 = .ok (.iadd, 1) := dc_96 (by decide +kernel)
theorem d_Mod_bore_190 : decode b_Mod_bore 190 = .ok (.iload 5, 2) := dc_21 (a := 5) (by decide +kernel) rfl
theorem d_Mod_bore_192 : decode b_Mod_bore 192 = .ok (.iastore, 1) := dc_79 (by decide +kernel)
theorem d_Mod_bore_193 : decode b_Mod_bore 193 = .ok (.aload_n 0, 1) := dc_42 (by decide +kernel)
theorem d_Mod_bore_194 : decode b_Mod_bore 194 = .ok (.iload_n 2, 1) := dc_28 (by decide +kernel)
theorem d_Mod_bore_195 : decode b_Mod_bore 195 = .ok (.invokevirtual 192, 3) := dc_182 (a := 0) (b := 192) (by decide +kernel) rfl
theorem d_Mod_bore_198 : decode b_Mod_bore 198 = .ok (.invokestatic 196, 3) := dc_184 (a := 0) (b := 196) (by decide +kernel) rfl
theorem d_Mod_bore_201 : decode b_Mod_bore 201 = .ok (.ireturn, 1) := dc_172 (by decide +kernel)
theorem d_Mod_meanOf_0 : decode b_Mod_meanOf 0 = .ok (.lconst 1, 1) := dc_10 (by decide +kernel)
theorem d_Mod_meanOf_1 : decode b_Mod_meanOf 1 = .ok (.lstore_n 3, 1) := dc_66 (by decide +kernel)
theorem d_Mod_meanOf_2 : decode b_Mod_meanOf 2 = .ok (.lconst 0, 1) := dc_9 (by decide +kernel)
theorem d_Mod_meanOf_3 : decode b_Mod_meanOf 3 = .ok (.lstore 5, 2) := dc_55 (a := 5) (by decide +kernel) rfl
theorem d_Mod_meanOf_5 : decode b_Mod_meanOf 5 = .ok (.ldc2_w 259, 3) := dc_20 (a := 1) (b := 3) (by decide +kernel) rfl
theorem d_Mod_meanOf_8 : decode b_Mod_meanOf 8 = .ok (.lstore 7, 2) := dc_55 (a := 7) (by decide +kernel) rfl
theorem d_Mod_meanOf_10 : decode b_Mod_meanOf 10 = .ok (.iconst 0, 1) := dc_3 (by decide +kernel)
theorem d_Mod_meanOf_11 : decode b_Mod_meanOf 11 = .ok (.istore 9, 2) := dc_54 (a := 9) (by decide +kernel) rfl
theorem d_Mod_meanOf_13 : decode b_Mod_meanOf 13 = .ok (.iload 9, 2) := dc_21 (a := 9) (by decide +kernel) rfl
theorem d_Mod_meanOf_15 : decode b_Mod_meanOf 15 = .ok (.iload_n 1, 1) := dc_27 (by decide +kernel)
theorem d_Mod_meanOf_16 : decode b_Mod_meanOf 16 = .ok (.if_icmp .ge 74, 3) := dc_162 (a := 0) (b := 74) (by decide +kernel) rfl
theorem d_Mod_meanOf_19 : decode b_Mod_meanOf 19 = .ok (.lload 7, 2) := dc_22 (a := 7) (by decide +kernel) rfl
theorem d_Mod_meanOf_21 : decode b_Mod_meanOf 21 = .ok (.ldc2_w 213, 3) := dc_20 (a := 0) (b := 213) (by decide +kernel) rfl
theorem d_Mod_meanOf_24 : decode b_Mod_meanOf 24 = .ok (.ldiv, 1) := dc_109 (by decide +kernel)
theorem d_Mod_meanOf_25 : decode b_Mod_meanOf 25 = .ok (.lstore 7, 2) := dc_55 (a := 7) (by decide +kernel) rfl
theorem d_Mod_meanOf_27 : decode b_Mod_meanOf 27 = .ok (.aload_n 0, 1) := dc_42 (by decide +kernel)
theorem d_Mod_meanOf_28 : decode b_Mod_meanOf 28 = .ok (.getfield 7, 3) := dc_180 (a := 0) (b := 7) (by decide +kernel) rfl
theorem d_Mod_meanOf_31 : decode b_Mod_meanOf 31 = .ok (.bipush 32, 2) := dc_16 (a := 32) (by decide +kernel) rfl
theorem d_Mod_meanOf_33 : decode b_Mod_meanOf 33 = .ok (.aload_n 0, 1) := dc_42 (by decide +kernel)
theorem d_Mod_meanOf_34 : decode b_Mod_meanOf 34 = .ok (.getfield 29, 3) := dc_180 (a := 0) (b := 29) (by decide +kernel) rfl
theorem d_Mod_meanOf_37 : decode b_Mod_meanOf 37 = .ok (.iload 9, 2) := dc_21 (a := 9) (by decide +kernel) rfl
theorem d_Mod_meanOf_39 : decode b_Mod_meanOf 39 = .ok (.iaload, 1) := dc_46 (by decide +kernel)
theorem d_Mod_meanOf_40 : decode b_Mod_meanOf 40 = .ok (.iadd, 1) := dc_96 (by decide +kernel)
theorem d_Mod_meanOf_41 : decode b_Mod_meanOf 41 = .ok (.iaload, 1) := dc_46 (by decide +kernel)
theorem d_Mod_meanOf_42 : decode b_Mod_meanOf 42 = .ok (.i2l, 1) := dc_133 (by decide +kernel)
theorem d_Mod_meanOf_43 : decode b_Mod_meanOf 43 = .ok (.lstore 10, 2) := dc_55 (a := 10) (by decide +kernel) rfl
theorem d_Mod_meanOf_45 : decode b_Mod_meanOf 45 = .ok (.lload 5, 2) := dc_22 (a := 5) (by decide +kernel) rfl
theorem d_Mod_meanOf_47 : decode b_Mod_meanOf 47 = .ok (.lload_n 3, 1) := dc_33 (by decide +kernel)
theorem d_Mod_meanOf_48 : decode b_Mod_meanOf 48 = .ok (.lload 10, 2) := dc_22 (a := 10) (by decide +kernel) rfl
theorem d_Mod_meanOf_50 : decode b_Mod_meanOf 50 = .ok (.lmul, 1) := dc_105 (by decide +kernel)
theorem d_Mod_meanOf_51 : decode b_Mod_meanOf 51 = .ok (.lload 7, 2) := dc_22 (a := 7) (by decide +kernel) rfl
theorem d_Mod_meanOf_53 : decode b_Mod_meanOf 53 = .ok (.lmul, 1) := dc_105 (by decide +kernel)
theorem d_Mod_meanOf_54 : decode b_Mod_meanOf 54 = .ok (.aload_n 0, 1) := dc_42 (by decide +kernel)
theorem d_Mod_meanOf_55 : decode b_Mod_meanOf 55 = .ok (.getfield 90, 3) := dc_180 (a := 0) (b := 90) (by decide +kernel) rfl
theorem d_Mod_meanOf_58 : decode b_Mod_meanOf 58 = .ok (.aload_n 0, 1) := dc_42 (by decide +kernel)
theorem d_Mod_meanOf_59 : decode b_Mod_meanOf 59 = .ok (.getfield 87, 3) := dc_180 (a := 0) (b := 87) (by decide +kernel) rfl
theorem d_Mod_meanOf_62 : decode b_Mod_meanOf 62 = .ok (.iload_n 2, 1) := dc_28 (by decide +kernel)
theorem d_Mod_meanOf_63 : decode b_Mod_meanOf 63 = .ok (.imul, 1) := dc_104 (by decide +kernel)
theorem d_Mod_meanOf_64 : decode b_Mod_meanOf 64 = .ok (.iload 9, 2) := dc_21 (a := 9) (by decide +kernel) rfl
theorem d_Mod_meanOf_66 : decode b_Mod_meanOf 66 = .ok (.iconst 1, 1) := dc_4 (by decide +kernel)
theorem d_Mod_meanOf_67 : decode b_Mod_meanOf 67 = .ok (.iadd, 1) := dc_96 (by decide +kernel)
theorem d_Mod_meanOf_68 : decode b_Mod_meanOf 68 = .ok (.imul, 1) := dc_104 (by decide +kernel)
theorem d_Mod_meanOf_69 : decode b_Mod_meanOf 69 = .ok (.isub, 1) := dc_100 (by decide +kernel)
theorem d_Mod_meanOf_70 : decode b_Mod_meanOf 70 = .ok (.i2l, 1) := dc_133 (by decide +kernel)
theorem d_Mod_meanOf_71 : decode b_Mod_meanOf 71 = .ok (.lmul, 1) := dc_105 (by decide +kernel)
theorem d_Mod_meanOf_72 : decode b_Mod_meanOf 72 = .ok (.ladd, 1) := dc_97 (by decide +kernel)
theorem d_Mod_meanOf_73 : decode b_Mod_meanOf 73 = .ok (.lstore 5, 2) := dc_55 (a := 5) (by decide +kernel) rfl
theorem d_Mod_meanOf_75 : decode b_Mod_meanOf 75 = .ok (.lload_n 3, 1) := dc_33 (by decide +kernel)
theorem d_Mod_meanOf_76 : decode b_Mod_meanOf 76 = .ok (.ldc2_w 213, 3) := dc_20 (a := 0) (b := 213) (by decide +kernel) rfl
theorem d_Mod_meanOf_79 : decode b_Mod_meanOf 79 = .ok (.lload 10, 2) := dc_22 (a := 10) (by decide +kernel) rfl
theorem d_Mod_meanOf_81 : decode b_Mod_meanOf 81 = .ok (.lsub, 1) := dc_101 (by decide +kernel)
theorem d_Mod_meanOf_82 : decode b_Mod_meanOf 82 = .ok (.lmul, 1) := dc_105 (by decide +kernel)
theorem d_Mod_meanOf_83 : decode b_Mod_meanOf 83 = .ok (.lstore_n 3, 1) := dc_66 (by decide +kernel)
theorem d_Mod_meanOf_84 : decode b_Mod_meanOf 84 = .ok (.iinc 9 1, 3) := dc_132 (a := 9) (b := 1) (by decide +kernel) rfl
theorem d_Mod_meanOf_87 : decode b_Mod_meanOf 87 = .ok (.goto (-74), 3) := dc_167 (a := 255) (b := 182) (by decide +kernel) rfl
theorem d_Mod_meanOf_90 : decode b_Mod_meanOf 90 = .ok (.lload 5, 2) := dc_22 (a := 5) (by decide +kernel) rfl
theorem d_Mod_meanOf_92 : decode b_Mod_meanOf 92 = .ok (.lload_n 3, 1) := dc_33 (by decide +kernel)
theorem d_Mod_meanOf_93 : decode b_Mod_meanOf 93 = .ok (.lload 7, 2) := dc_22 (a := 7) (by decide +kernel) rfl
theorem d_Mod_meanOf_95 : decode b_Mod_meanOf 95 = .ok (.lmul, 1) := dc_105 (by decide +kernel)
theorem d_Mod_meanOf_96 : decode b_Mod_meanOf 96 = .ok (.aload_n 0, 1) := dc_42 (by decide +kernel)
theorem d_Mod_meanOf_97 : decode b_Mod_meanOf 97 = .ok (.getfield 87, 3) := dc_180 (a := 0) (b := 87) (by decide +kernel) rfl
theorem d_Mod_meanOf_100 : decode b_Mod_meanOf 100 = .ok (.i2l, 1) := dc_133 (by decide +kernel)
theorem d_Mod_meanOf_101 : decode b_Mod_meanOf 101 = .ok (.lmul, 1) := dc_105 (by decide +kernel)
theorem d_Mod_meanOf_102 : decode b_Mod_meanOf 102 = .ok (.iload_n 2, 1) := dc_28 (by decide +kernel)
theorem d_Mod_meanOf_103 : decode b_Mod_meanOf 103 = .ok (.i2l, 1) := dc_133 (by decide +kernel)
theorem d_Mod_meanOf_104 : decode b_Mod_meanOf 104 = .ok (.lmul, 1) := dc_105 (by decide +kernel)
theorem d_Mod_meanOf_105 : decode b_Mod_meanOf 105 = .ok (.iload_n 1, 1) := dc_27 (by decide +kernel)
theorem d_Mod_meanOf_106 : decode b_Mod_meanOf 106 = .ok (.i2l, 1) := dc_133 (by decide +kernel)
theorem d_Mod_meanOf_107 : decode b_Mod_meanOf 107 = .ok (.lmul, 1) := dc_105 (by decide +kernel)
theorem d_Mod_meanOf_108 : decode b_Mod_meanOf 108 = .ok (.lsub, 1) := dc_101 (by decide +kernel)
theorem d_Mod_meanOf_109 : decode b_Mod_meanOf 109 = .ok (.lreturn, 1) := dc_173 (by decide +kernel)
abbrev q_Mod_meanOf (h : Hp) (n : Int32) (nZ : Int) (d : Int32) (dZ : Int) : Option Value → Hp → Prop := pLng (fun r h' => h = h')
set_option maxRecDepth 100000 in
theorem c_Mod_meanOf (h : Hp) (hI : Inv h) (n : Int32) (nZ : Int) (nE : n.toInt = nZ) (d : Int32) (dZ : Int) (dE : d.toInt = dZ) (hy0 : 0 ≤ nZ ∧ nZ ≤ 4) : Ct y_Mod_meanOf b_Mod_meanOf 12 (some .long) 0 0 [.ref 116, .int n, .int d] h (q_Mod_meanOf h n nZ d dZ) := by
  refine ct_ow R_Mod [some (.ref 116), some (.int n), some (.int d), none, none, none, none, none, none, none, none, none] rfl (by decide) rfl (Nat.le_of_ble_eq_true rfl) ?_
  have f0 : fr [] h h := fr_rf
  refine V_lconst 1 d_Mod_meanOf_0 (by decide) ?_
  refine V_lstore_n 3 [some (.ref 116), some (.int n), some (.int d), some (.long 1), none, none, none, none, none, none, none, none] d_Mod_meanOf_1 rfl (by decide) rfl rfl ?_
  refine V_lconst 0 d_Mod_meanOf_2 (by decide) ?_
  refine V_lstore 5 [some (.ref 116), some (.int n), some (.int d), some (.long 1), none, some (.long 0), none, none, none, none, none, none] d_Mod_meanOf_3 (by decide) rfl rfl ?_
  refine V_ldc2 d_Mod_meanOf_5 wl_Mod_259 ?_
  refine V_lstore 7 [some (.ref 116), some (.int n), some (.int d), some (.long 1), none, some (.long 0), none, some (.long 10000), none, none, none, none] d_Mod_meanOf_8 (by decide) rfl rfl ?_
  refine V_iconst 0 d_Mod_meanOf_10 (by decide) ?_
  refine V_istore 9 [some (.ref 116), some (.int n), some (.int d), some (.long 1), none, some (.long 0), none, some (.long 10000), none, some (.int 0), none, none] d_Mod_meanOf_11 (by decide) rfl rfl ?_
  have L1 : ∀ (nn : Nat) (v3 : Int64) (v3Z : Int) (v4 : Int64) (v4Z : Int) (v5 : Int64) (v5Z : Int) (v6 : Int32) (v6Z : Int), v3.toInt = v3Z → v4.toInt = v4Z → v5.toInt = v5Z → v6.toInt = v6Z → 0 ≤ v6Z ∧ v6Z ≤ nZ → nZ - v6Z < (nn : Int) → V R_Mod b_Mod_meanOf 12 (some .long) 0 0 (q_Mod_meanOf h n nZ d dZ) h 13 [some (.ref 116), some (.int n), some (.int d), some (.long v3), none, some (.long v4), none, some (.long v5), none, some (.int v6), none, none] [] := by
    intro nn
    induction nn with
    | zero => intro v3 v3Z v4 v4Z v5 v5Z v6 v6Z v3E v4E v5E v6E q7 hm8; exact absurd hm8 (by omega)
    | succ nn ihL1 =>
      intro v3 v3Z v4 v4Z v5 v5Z v6 v6Z v3E v4E v5E v6E q7 hm8
      refine V_iload d_Mod_meanOf_13 rfl ?_
      refine V_iload_n 1 d_Mod_meanOf_15 rfl rfl ?_
      refine V_icmp_ge 90 v6E nE d_Mod_meanOf_16 (by decide) (fun c9 => ?_) (fun c9 => ?_)
      ·
        refine V_lload d_Mod_meanOf_90 rfl ?_
        refine V_lload_n 3 d_Mod_meanOf_92 rfl rfl ?_
        refine V_lload d_Mod_meanOf_93 rfl ?_
        refine N_lmul d_Mod_meanOf_95 (fun z10 z10Z z10E z10e => ?_)
        refine V_aload_n 0 d_Mod_meanOf_96 rfl rfl ?_
        refine N_getI fa_Mod_87 sk_116 rfl d_Mod_meanOf_97 (fun z11 z11Z z11E z11e => ?_)
        refine V_i2l d_Mod_meanOf_100 (fun z12 z12e z12E => ?_)
        have z12F : z12.toInt = z11Z := z12E.trans z11E
        refine N_lmul d_Mod_meanOf_101 (fun z13 z13Z z13E z13e => ?_)
        refine V_iload_n 2 d_Mod_meanOf_102 rfl rfl ?_
        refine V_i2l d_Mod_meanOf_103 (fun z14 z14e z14E => ?_)
        have z14F : z14.toInt = dZ := z14E.trans dE
        refine N_lmul d_Mod_meanOf_104 (fun z15 z15Z z15E z15e => ?_)
        refine V_iload_n 1 d_Mod_meanOf_105 rfl rfl ?_
        refine V_i2l d_Mod_meanOf_106 (fun z16 z16e z16E => ?_)
        have z16F : z16.toInt = nZ := z16E.trans nE
        refine N_lmul d_Mod_meanOf_107 (fun z17 z17Z z17E z17e => ?_)
        refine N_lsub d_Mod_meanOf_108 (fun z18 z18Z z18E z18e => ?_)
        exact V_lret rfl d_Mod_meanOf_109 ⟨z18, rfl, rfl⟩
      ·
        refine V_lload d_Mod_meanOf_19 rfl ?_
        refine V_ldc2 d_Mod_meanOf_21 wl_Mod_213 ?_
        refine N_ldiv (by decide) d_Mod_meanOf_24 (fun z19 z19Z z19E z19e => ?_)
        refine V_lstore 7 [some (.ref 116), some (.int n), some (.int d), some (.long v3), none, some (.long v4), none, some (.long z19), none, some (.int v6), none, none] d_Mod_meanOf_25 (by decide) rfl rfl ?_
        refine V_aload_n 0 d_Mod_meanOf_27 rfl rfl ?_
        refine V_getR fa_Mod_7 sk_116 rfl d_Mod_meanOf_28 ?_
        refine V_bipush 32 d_Mod_meanOf_31 (by decide) ?_
        refine V_aload_n 0 d_Mod_meanOf_33 rfl rfl ?_
        refine V_getR fa_Mod_29 sk_116 rfl d_Mod_meanOf_34 ?_
        refine V_iload d_Mod_meanOf_37 rfl ?_
        refine N_iald sk_123 v6E (by omega) d_Mod_meanOf_39 (fun z20 z20Z z20E z20e => ?_)
        have g21 : -1 ≤ z20Z ∧ z20Z ≤ 16 := inv_at hI z20E z20e rfl
        refine V_iadd tc_32 z20E (by omega) d_Mod_meanOf_40 (fun z22 z22e z22E => ?_)
        refine N_iald sk_117 z22E (by omega) d_Mod_meanOf_41 (fun z23 z23Z z23E z23e => ?_)
        refine V_i2l d_Mod_meanOf_42 (fun z24 z24e z24E => ?_)
        have z24F : z24.toInt = z23Z := z24E.trans z23E
        refine V_lstore 10 [some (.ref 116), some (.int n), some (.int d), some (.long v3), none, some (.long v4), none, some (.long z19), none, some (.int v6), some (.long z24), none] d_Mod_meanOf_43 (by decide) rfl rfl ?_
        refine V_lload d_Mod_meanOf_45 rfl ?_
        refine V_lload_n 3 d_Mod_meanOf_47 rfl rfl ?_
        refine V_lload d_Mod_meanOf_48 rfl ?_
        refine N_lmul d_Mod_meanOf_50 (fun z25 z25Z z25E z25e => ?_)
        refine V_lload d_Mod_meanOf_51 rfl ?_
        refine N_lmul d_Mod_meanOf_53 (fun z26 z26Z z26E z26e => ?_)
        refine V_aload_n 0 d_Mod_meanOf_54 rfl rfl ?_
        refine N_getI fa_Mod_90 sk_116 rfl d_Mod_meanOf_55 (fun z27 z27Z z27E z27e => ?_)
        refine V_aload_n 0 d_Mod_meanOf_58 rfl rfl ?_
        refine N_getI fa_Mod_87 sk_116 rfl d_Mod_meanOf_59 (fun z28 z28Z z28E z28e => ?_)
        refine V_iload_n 2 d_Mod_meanOf_62 rfl rfl ?_
        refine N_imulw d_Mod_meanOf_63 (fun z29 z29Z z29E z29e => ?_)
        refine V_iload d_Mod_meanOf_64 rfl ?_
        refine V_iconst 1 d_Mod_meanOf_66 (by decide) ?_
        refine V_iadd v6E tc_1 (by omega) d_Mod_meanOf_67 (fun z30 z30e z30E => ?_)
        refine N_imulw d_Mod_meanOf_68 (fun z31 z31Z z31E z31e => ?_)
        refine N_isubw d_Mod_meanOf_69 (fun z32 z32Z z32E z32e => ?_)
        refine V_i2l d_Mod_meanOf_70 (fun z33 z33e z33E => ?_)
        have z33F : z33.toInt = z32Z := z33E.trans z32E
        refine N_lmul d_Mod_meanOf_71 (fun z34 z34Z z34E z34e => ?_)
        refine N_ladd d_Mod_meanOf_72 (fun z35 z35Z z35E z35e => ?_)
        refine V_lstore 5 [some (.ref 116), some (.int n), some (.int d), some (.long v3), none, some (.long z35), none, some (.long z19), none, some (.int v6), some (.long z24), none] d_Mod_meanOf_73 (by decide) rfl rfl ?_
        refine V_lload_n 3 d_Mod_meanOf_75 rfl rfl ?_
        refine V_ldc2 d_Mod_meanOf_76 wl_Mod_213 ?_
        refine V_lload d_Mod_meanOf_79 rfl ?_
        refine N_lsub d_Mod_meanOf_81 (fun z36 z36Z z36E z36e => ?_)
        refine N_lmul d_Mod_meanOf_82 (fun z37 z37Z z37E z37e => ?_)
        refine V_lstore_n 3 [some (.ref 116), some (.int n), some (.int d), some (.long z37), none, some (.long z35), none, some (.long z19), none, some (.int v6), some (.long z24), none] d_Mod_meanOf_83 rfl (by decide) rfl rfl ?_
        obtain ⟨z38, z38E, z38e⟩ : ∃ y : Int32, y.toInt = v6Z + 1 ∧ y = v6 + Int32.ofInt 1 := ⟨_, ti_add v6E (by decide) (by omega), rfl⟩
        refine V_iinc 9 [some (.ref 116), some (.int n), some (.int d), some (.long z37), none, some (.long z35), none, some (.long z19), none, some (.int z38), some (.long z24), none] d_Mod_meanOf_84 rfl z38e.symm (by decide) rfl rfl ?_
        refine V_goto 13 d_Mod_meanOf_87 (by decide) ?_
        refine V_drop 10 [some (.ref 116), some (.int n), some (.int d), some (.long z37), none, some (.long z35), none, some (.long z19), none, some (.int z38), none, none] rfl ?_
        exact ihL1 z37 z37Z z35 z35Z z19 z19Z z38 ((v6Z + 1)) z37E z35E z19E z38E (by omega) (by omega)
  exact L1 (Int.toNat ((nZ - 0 : Int) + 1)) 1 1 0 0 10000 10000 0 0 tl_1 tl_0 tl_10000 tc_0 (by omega) (by omega)
theorem d_Mod_isFree_0 : decode b_Mod_isFree 0 = .ok (.aload_n 0, 1) := dc_42 (by decide +kernel)
theorem d_Mod_isFree_1 : decode b_Mod_isFree 1 = .ok (.getfield 7, 3) := dc_180 (a := 0) (b := 7) (by decide +kernel) rfl
theorem d_Mod_isFree_4 : decode b_Mod_isFree 4 = .ok (.bipush 48, 2) := dc_16 (a := 48) (by decide +kernel) rfl
theorem d_Mod_isFree_6 : decode b_Mod_isFree 6 = .ok (.iload_n 2, 1) := dc_28 (by decide +kernel)
theorem d_Mod_isFree_7 : decode b_Mod_isFree 7 = .ok (.iadd, 1) := dc_96 (by decide +kernel)
theorem d_Mod_isFree_8 : decode b_Mod_isFree 8 = .ok (.iaload, 1) := dc_46 (by decide +kernel)
theorem d_Mod_isFree_9 : decode b_Mod_isFree 9 = .ok (.iload_n 1, 1) := dc_27 (by decide +kernel)
theorem d_Mod_isFree_10 : decode b_Mod_isFree 10 = .ok (.if_icmp .ne 19, 3) := dc_160 (a := 0) (b := 19) (by decide +kernel) rfl
theorem d_Mod_isFree_13 : decode b_Mod_isFree 13 = .ok (.aload_n 0, 1) := dc_42 (by decide +kernel)
theorem d_Mod_isFree_14 : decode b_Mod_isFree 14 = .ok (.getfield 7, 3) := dc_180 (a := 0) (b := 7) (by decide +kernel) rfl
theorem d_Mod_isFree_17 : decode b_Mod_isFree 17 = .ok (.bipush 64, 2) := dc_16 (a := 64) (by decide +kernel) rfl
theorem d_Mod_isFree_19 : decode b_Mod_isFree 19 = .ok (.iload_n 2, 1) := dc_28 (by decide +kernel)
theorem d_Mod_isFree_20 : decode b_Mod_isFree 20 = .ok (.iadd, 1) := dc_96 (by decide +kernel)
theorem d_Mod_isFree_21 : decode b_Mod_isFree 21 = .ok (.iaload, 1) := dc_46 (by decide +kernel)
theorem d_Mod_isFree_22 : decode b_Mod_isFree 22 = .ok (.ifCond .ne 7, 3) := dc_154 (a := 0) (b := 7) (by decide +kernel) rfl
theorem d_Mod_isFree_25 : decode b_Mod_isFree 25 = .ok (.iconst 1, 1) := dc_4 (by decide +kernel)
theorem d_Mod_isFree_26 : decode b_Mod_isFree 26 = .ok (.goto 4, 3) := dc_167 (a := 0) (b := 4) (by decide +kernel) rfl
theorem d_Mod_isFree_29 : decode b_Mod_isFree 29 = .ok (.iconst 0, 1) := dc_3 (by decide +kernel)
theorem d_Mod_isFree_30 : decode b_Mod_isFree 30 = .ok (.istore 4, 2) := dc_54 (a := 4) (by decide +kernel) rfl
theorem d_Mod_isFree_32 : decode b_Mod_isFree 32 = .ok (.iconst 0, 1) := dc_3 (by decide +kernel)
theorem d_Mod_isFree_33 : decode b_Mod_isFree 33 = .ok (.istore 5, 2) := dc_54 (a := 5) (by decide +kernel) rfl
theorem d_Mod_isFree_35 : decode b_Mod_isFree 35 = .ok (.iload 5, 2) := dc_21 (a := 5) (by decide +kernel) rfl
theorem d_Mod_isFree_37 : decode b_Mod_isFree 37 = .ok (.iload_n 3, 1) := dc_29 (by decide +kernel)
theorem d_Mod_isFree_38 : decode b_Mod_isFree 38 = .ok (.if_icmp .ge 32, 3) := dc_162 (a := 0) (b := 32) (by decide +kernel) rfl
theorem d_Mod_isFree_41 : decode b_Mod_isFree 41 = .ok (.iload 4, 2) := dc_21 (a := 4) (by decide +kernel) rfl
theorem d_Mod_isFree_43 : decode b_Mod_isFree 43 = .ok (.ifCond .eq 18, 3) := dc_153 (a := 0) (b := 18) (by decide +kernel) rfl
theorem d_Mod_isFree_46 : decode b_Mod_isFree 46 = .ok (.aload_n 0, 1) := dc_42 (by decide +kernel)
theorem d_Mod_isFree_47 : decode b_Mod_isFree 47 = .ok (.getfield 29, 3) := dc_180 (a := 0) (b := 29) (by decide +kernel) rfl
theorem d_Mod_isFree_50 : decode b_Mod_isFree 50 = .ok (.iload 5, 2) := dc_21 (a := 5) (by decide +kernel) rfl
theorem d_Mod_isFree_52 : decode b_Mod_isFree 52 = .ok (.iaload, 1) := dc_46 (by decide +kernel)
theorem d_Mod_isFree_53 : decode b_Mod_isFree 53 = .ok (.iload_n 2, 1) := dc_28 (by decide +kernel)
theorem d_Mod_isFree_54 : decode b_Mod_isFree 54 = .ok (.if_icmp .eq 7, 3) := dc_159 (a := 0) (b := 7) (by decide +kernel) rfl
theorem d_Mod_isFree_57 : decode b_Mod_isFree 57 = .ok (.iconst 1, 1) := dc_4 (by decide +kernel)
theorem d_Mod_isFree_58 : decode b_Mod_isFree 58 = .ok (.goto 4, 3) := dc_167 (a := 0) (b := 4) (by decide +kernel) rfl
theorem d_Mod_isFree_61 : decode b_Mod_isFree 61 = .ok (.iconst 0, 1) := dc_3 (by decide +kernel)
theorem d_Mod_isFree_62 : decode b_Mod_isFree 62 = .ok (.istore 4, 2) := dc_54 (a := 4) (by decide +kernel) rfl
theorem d_Mod_isFree_64 : decode b_Mod_isFree 64 = .ok (.iinc 5 1, 3) := dc_132 (a := 5) (b := 1) (by decide +kernel) rfl
theorem d_Mod_isFree_67 : decode b_Mod_isFree 67 = .ok (.goto (-32), 3) := dc_167 (a := 255) (b := 224) (by decide +kernel) rfl
theorem d_Mod_isFree_70 : decode b_Mod_isFree 70 = .ok (.iload 4, 2) := dc_21 (a := 4) (by decide +kernel) rfl
theorem d_Mod_isFree_72 : decode b_Mod_isFree 72 = .ok (.ireturn, 1) := dc_172 (by decide +kernel)
abbrev q_Mod_isFree (h : Hp) (o : Int32) (oZ : Int) (c : Int32) (cZ : Int) (n : Int32) (nZ : Int) : Option Value → Hp → Prop := pInt (fun r h' => h = h' ∧ (r.toInt = 0 ∨ r.toInt = 1))
set_option maxRecDepth 100000 in
theorem c_Mod_isFree (h : Hp) (hI : Inv h) (o : Int32) (oZ : Int) (oE : o.toInt = oZ) (c : Int32) (cZ : Int) (cE : c.toInt = cZ) (n : Int32) (nZ : Int) (nE : n.toInt = nZ) (hy0 : 0 ≤ cZ ∧ cZ ≤ 15) (hy1 : 0 ≤ nZ ∧ nZ ≤ 3) : Ct y_Mod_isFree b_Mod_isFree 6 (some .boolean) 0 0 [.ref 116, .int o, .int c, .int n] h (q_Mod_isFree h o oZ c cZ n nZ) := by
  refine ct_ow R_Mod [some (.ref 116), some (.int o), some (.int c), some (.int n), none, none] rfl (by decide) rfl (Nat.le_of_ble_eq_true rfl) ?_
  have f0 : fr [] h h := fr_rf
  have J1 : ∀ (v3 : Int32) (v3Z : Int), v3.toInt = v3Z → 0 ≤ v3Z ∧ v3Z ≤ 1 → V R_Mod b_Mod_isFree 6 (some .boolean) 0 0 (q_Mod_isFree h o oZ c cZ n nZ) h 32 [some (.ref 116), some (.int o), some (.int c), some (.int n), some (.int v3), none] [] := by
    intro v3 v3Z v3E q4
    refine V_iconst 0 d_Mod_isFree_32 (by decide) ?_
    refine V_istore 5 [some (.ref 116), some (.int o), some (.int c), some (.int n), some (.int v3), some (.int 0)] d_Mod_isFree_33 (by decide) rfl rfl ?_
    have L5 : ∀ (nn : Nat) (v7 : Int32) (v7Z : Int) (v8 : Int32) (v8Z : Int), v7.toInt = v7Z → v8.toInt = v8Z → 0 ≤ v7Z ∧ v7Z ≤ 1 → 0 ≤ v8Z ∧ v8Z ≤ nZ → nZ - v8Z < (nn : Int) → V R_Mod b_Mod_isFree 6 (some .boolean) 0 0 (q_Mod_isFree h o oZ c cZ n nZ) h 35 [some (.ref 116), some (.int o), some (.int c), some (.int n), some (.int v7), some (.int v8)] [] := by
      intro nn
      induction nn with
      | zero => intro v7 v7Z v8 v8Z v7E v8E q9 q10 hm11; exact absurd hm11 (by omega)
      | succ nn ihL5 =>
        intro v7 v7Z v8 v8Z v7E v8E q9 q10 hm11
        refine V_iload d_Mod_isFree_35 rfl ?_
        refine V_iload_n 3 d_Mod_isFree_37 rfl rfl ?_
        refine V_icmp_ge 70 v8E nE d_Mod_isFree_38 (by decide) (fun c12 => ?_) (fun c12 => ?_)
        ·
          refine V_iload d_Mod_isFree_70 rfl ?_
          exact V_zret rfl (by rw [v7E]; omega) d_Mod_isFree_72 ⟨v7, rfl, ⟨rfl, (by (try rw [v7E]); omega)⟩⟩
        ·
          refine V_iload d_Mod_isFree_41 rfl ?_
          refine V_if_eq 61 v7E d_Mod_isFree_43 (by decide) (fun c13 => ?_) (fun c13 => ?_)
          ·
            refine V_iconst 0 d_Mod_isFree_61 (by decide) ?_
            refine V_istore 4 [some (.ref 116), some (.int o), some (.int c), some (.int n), some (.int 0), some (.int v8)] d_Mod_isFree_62 (by decide) rfl rfl ?_
            obtain ⟨z14, z14E, z14e⟩ : ∃ y : Int32, y.toInt = v8Z + 1 ∧ y = v8 + Int32.ofInt 1 := ⟨_, ti_add v8E (by decide) (by omega), rfl⟩
            refine V_iinc 5 [some (.ref 116), some (.int o), some (.int c), some (.int n), some (.int 0), some (.int z14)] d_Mod_isFree_64 rfl z14e.symm (by decide) rfl rfl ?_
            refine V_goto 35 d_Mod_isFree_67 (by decide) ?_
            exact ihL5 0 0 z14 ((v8Z + 1)) tc_0 z14E (by omega) (by omega) (by omega)
          ·
            refine V_aload_n 0 d_Mod_isFree_46 rfl rfl ?_
            refine V_getR fa_Mod_29 sk_116 rfl d_Mod_isFree_47 ?_
            refine V_iload d_Mod_isFree_50 rfl ?_
            refine N_iald sk_123 v8E (by omega) d_Mod_isFree_52 (fun z15 z15Z z15E z15e => ?_)
            have g16 : -1 ≤ z15Z ∧ z15Z ≤ 16 := inv_at hI z15E z15e rfl
            refine V_iload_n 2 d_Mod_isFree_53 rfl rfl ?_
            refine V_icmp_eq 61 z15E cE d_Mod_isFree_54 (by decide) (fun c17 => ?_) (fun c17 => ?_)
            ·
              refine V_iconst 0 d_Mod_isFree_61 (by decide) ?_
              refine V_istore 4 [some (.ref 116), some (.int o), some (.int c), some (.int n), some (.int 0), some (.int v8)] d_Mod_isFree_62 (by decide) rfl rfl ?_
              obtain ⟨z18, z18E, z18e⟩ : ∃ y : Int32, y.toInt = v8Z + 1 ∧ y = v8 + Int32.ofInt 1 := ⟨_, ti_add v8E (by decide) (by omega), rfl⟩
              refine V_iinc 5 [some (.ref 116), some (.int o), some (.int c), some (.int n), some (.int 0), some (.int z18)] d_Mod_isFree_64 rfl z18e.symm (by decide) rfl rfl ?_
              refine V_goto 35 d_Mod_isFree_67 (by decide) ?_
              exact ihL5 0 0 z18 ((v8Z + 1)) tc_0 z18E (by omega) (by omega) (by omega)
            ·
              refine V_iconst 1 d_Mod_isFree_57 (by decide) ?_
              refine V_goto 62 d_Mod_isFree_58 (by decide) ?_
              refine V_istore 4 [some (.ref 116), some (.int o), some (.int c), some (.int n), some (.int 1), some (.int v8)] d_Mod_isFree_62 (by decide) rfl rfl ?_
              obtain ⟨z19, z19E, z19e⟩ : ∃ y : Int32, y.toInt = v8Z + 1 ∧ y = v8 + Int32.ofInt 1 := ⟨_, ti_add v8E (by decide) (by omega), rfl⟩
              refine V_iinc 5 [some (.ref 116), some (.int o), some (.int c), some (.int n), some (.int 1), some (.int z19)] d_Mod_isFree_64 rfl z19e.symm (by decide) rfl rfl ?_
              refine V_goto 35 d_Mod_isFree_67 (by decide) ?_
              exact ihL5 1 1 z19 ((v8Z + 1)) tc_1 z19E (by omega) (by omega) (by omega)
    exact L5 (Int.toNat ((nZ - 0 : Int) + 1)) v3 v3Z 0 0 v3E tc_0 (by omega) (by omega) (by omega)
  refine V_aload_n 0 d_Mod_isFree_0 rfl rfl ?_
  refine V_getR fa_Mod_7 sk_116 rfl d_Mod_isFree_1 ?_
  refine V_bipush 48 d_Mod_isFree_4 (by decide) ?_
  refine V_iload_n 2 d_Mod_isFree_6 rfl rfl ?_
  refine V_iadd tc_48 cE (by omega) d_Mod_isFree_7 (fun z20 z20e z20E => ?_)
  refine N_iald sk_117 z20E (by omega) d_Mod_isFree_8 (fun z21 z21Z z21E z21e => ?_)
  refine V_iload_n 1 d_Mod_isFree_9 rfl rfl ?_
  refine V_icmp_ne 29 z21E oE d_Mod_isFree_10 (by decide) (fun c22 => ?_) (fun c22 => ?_)
  ·
    refine V_iconst 0 d_Mod_isFree_29 (by decide) ?_
    refine V_istore 4 [some (.ref 116), some (.int o), some (.int c), some (.int n), some (.int 0), none] d_Mod_isFree_30 (by decide) rfl rfl ?_
    exact J1 0 0 tc_0 (by omega)
  ·
    refine V_aload_n 0 d_Mod_isFree_13 rfl rfl ?_
    refine V_getR fa_Mod_7 sk_116 rfl d_Mod_isFree_14 ?_
    refine V_bipush 64 d_Mod_isFree_17 (by decide) ?_
    refine V_iload_n 2 d_Mod_isFree_19 rfl rfl ?_
    refine V_iadd tc_64 cE (by omega) d_Mod_isFree_20 (fun z23 z23e z23E => ?_)
    refine N_iald sk_117 z23E (by omega) d_Mod_isFree_21 (fun z24 z24Z z24E z24e => ?_)
    refine V_if_ne 29 z24E d_Mod_isFree_22 (by decide) (fun c25 => ?_) (fun c25 => ?_)
    ·
      refine V_iconst 0 d_Mod_isFree_29 (by decide) ?_
      refine V_istore 4 [some (.ref 116), some (.int o), some (.int c), some (.int n), some (.int 0), none] d_Mod_isFree_30 (by decide) rfl rfl ?_
      exact J1 0 0 tc_0 (by omega)
    ·
      refine V_iconst 1 d_Mod_isFree_25 (by decide) ?_
      refine V_goto 30 d_Mod_isFree_26 (by decide) ?_
      refine V_istore 4 [some (.ref 116), some (.int o), some (.int c), some (.int n), some (.int 1), none] d_Mod_isFree_30 (by decide) rfl rfl ?_
      exact J1 1 1 tc_1 (by omega)
theorem d_Mod_common_0 : decode b_Mod_common 0 = .ok (.lload_n 0, 1) := dc_30 (by decide +kernel)
theorem d_Mod_common_1 : decode b_Mod_common 1 = .ok (.lstore 4, 2) := dc_55 (a := 4) (by decide +kernel) rfl
theorem d_Mod_common_3 : decode b_Mod_common 3 = .ok (.lload_n 2, 1) := dc_32 (by decide +kernel)
theorem d_Mod_common_4 : decode b_Mod_common 4 = .ok (.lstore 6, 2) := dc_55 (a := 6) (by decide +kernel) rfl
theorem d_Mod_common_6 : decode b_Mod_common 6 = .ok (.lload 6, 2) := dc_22 (a := 6) (by decide +kernel) rfl
theorem d_Mod_common_8 : decode b_Mod_common 8 = .ok (.lconst 0, 1) := dc_9 (by decide +kernel)
theorem d_Mod_common_9 : decode b_Mod_common 9 = .ok (.lcmp, 1) := dc_148 (by decide +kernel)
theorem d_Mod_common_10 : decode b_Mod_common 10 = .ok (.ifCond .eq 21, 3) := dc_153 (a := 0) (b := 21) (by decide +kernel) rfl
theorem d_Mod_common_13 : decode b_Mod_common 13 = .ok (.lload 4, 2) := dc_22 (a := 4) (by decide +kernel) rfl
theorem d_Mod_common_15 : decode b_Mod_common 15 = .ok (.lload 6, 2) := dc_22 (a := 6) (by decide +kernel) rfl
theorem d_Mod_common_17 : decode b_Mod_common 17 = .ok (.lrem, 1) := dc_113 (by decide +kernel)
theorem d_Mod_common_18 : decode b_Mod_common 18 = .ok (.lstore 8, 2) := dc_55 (a := 8) (by decide +kernel) rfl
theorem d_Mod_common_20 : decode b_Mod_common 20 = .ok (.lload 6, 2) := dc_22 (a := 6) (by decide +kernel) rfl
theorem d_Mod_common_22 : decode b_Mod_common 22 = .ok (.lstore 4, 2) := dc_55 (a := 4) (by decide +kernel) rfl
theorem d_Mod_common_24 : decode b_Mod_common 24 = .ok (.lload 8, 2) := dc_22 (a := 8) (by decide +kernel) rfl
theorem d_Mod_common_26 : decode b_Mod_common 26 = .ok (.lstore 6, 2) := dc_55 (a := 6) (by decide +kernel) rfl
theorem d_Mod_common_28 : decode b_Mod_common 28 = .ok (.goto (-22), 3) := dc_167 (a := 255) (b := 234) (by decide +kernel) rfl
theorem d_Mod_common_31 : decode b_Mod_common 31 = .ok (.lload 4, 2) := dc_22 (a := 4) (by decide +kernel) rfl
theorem d_Mod_common_33 : decode b_Mod_common 33 = .ok (.lreturn, 1) := dc_173 (by decide +kernel)
abbrev q_Mod_common (h : Hp) (a : Int64) (aZ : Int) (b : Int64) (bZ : Int) : Option Value → Hp → Prop := pLng (fun r h' => h = h' ∧ (1 ≤ r.toInt))
set_option maxRecDepth 100000 in
theorem c_Mod_common (h : Hp) (a : Int64) (aZ : Int) (aE : a.toInt = aZ) (b : Int64) (bZ : Int) (bE : b.toInt = bZ) (hy0 : 1 ≤ aZ ∧ 0 ≤ bZ) : Ct y_Mod_common b_Mod_common 10 (some .long) 0 0 [.long a, .long b] h (q_Mod_common h a aZ b bZ) := by
  refine ct_ow R_Mod [some (.long a), none, some (.long b), none, none, none, none, none, none, none] rfl (by decide) rfl (Nat.le_of_ble_eq_true rfl) ?_
  have f0 : fr [] h h := fr_rf
  refine V_lload_n 0 d_Mod_common_0 rfl rfl ?_
  refine V_lstore 4 [some (.long a), none, some (.long b), none, some (.long a), none, none, none, none, none] d_Mod_common_1 (by decide) rfl rfl ?_
  refine V_lload_n 2 d_Mod_common_3 rfl rfl ?_
  refine V_lstore 6 [some (.long a), none, some (.long b), none, some (.long a), none, some (.long b), none, none, none] d_Mod_common_4 (by decide) rfl rfl ?_
  have L1 : ∀ (nn : Nat) (v3 : Int64) (v3Z : Int) (v4 : Int64) (v4Z : Int), v3.toInt = v3Z → v4.toInt = v4Z → 1 ≤ v3Z ∧ 0 ≤ v4Z → v4Z < (nn : Int) → V R_Mod b_Mod_common 10 (some .long) 0 0 (q_Mod_common h a aZ b bZ) h 6 [some (.long a), none, some (.long b), none, some (.long v3), none, some (.long v4), none, none, none] [] := by
    intro nn
    induction nn with
    | zero => intro v3 v3Z v4 v4Z v3E v4E q5 hm6; exact absurd hm6 (by omega)
    | succ nn ihL1 =>
      intro v3 v3Z v4 v4Z v3E v4E q5 hm6
      refine V_lload d_Mod_common_6 rfl ?_
      refine V_lconst 0 d_Mod_common_8 (by decide) ?_
      refine N_lcmp d_Mod_common_9 (fun z7 z7Z z7E z7e => ?_)
      have g8 := lcmp_ti v4E tl_0 z7e z7E
      refine V_if_eq 31 z7E d_Mod_common_10 (by decide) (fun c9 => ?_) (fun c9 => ?_)
      ·
        refine V_lload d_Mod_common_31 rfl ?_
        exact V_lret rfl d_Mod_common_33 ⟨v3, rfl, ⟨rfl, (by (try rw [v3E]); omega)⟩⟩
      ·
        refine V_lload d_Mod_common_13 rfl ?_
        refine V_lload d_Mod_common_15 rfl ?_
        refine N_lrem (fun q => by have := (t64_eq v4E tl_0).mp q; omega) d_Mod_common_17 (fun z10 z10Z z10E z10e => ?_)
        have g11 : 0 ≤ z10Z ∧ z10Z < v4Z := by rw [← z10E, z10e, t64_rem v3E v4E (by omega) (by omega)]; exact ⟨Int.emod_nonneg _ (by omega), Int.emod_lt_of_pos _ (by omega)⟩
        refine V_lstore 8 [some (.long a), none, some (.long b), none, some (.long v3), none, some (.long v4), none, some (.long z10), none] d_Mod_common_18 (by decide) rfl rfl ?_
        refine V_lload d_Mod_common_20 rfl ?_
        refine V_lstore 4 [some (.long a), none, some (.long b), none, some (.long v4), none, some (.long v4), none, some (.long z10), none] d_Mod_common_22 (by decide) rfl rfl ?_
        refine V_lload d_Mod_common_24 rfl ?_
        refine V_lstore 6 [some (.long a), none, some (.long b), none, some (.long v4), none, some (.long z10), none, some (.long z10), none] d_Mod_common_26 (by decide) rfl rfl ?_
        refine V_goto 6 d_Mod_common_28 (by decide) ?_
        refine V_drop 8 [some (.long a), none, some (.long b), none, some (.long v4), none, some (.long z10), none, none, none] rfl ?_
        exact ihL1 v4 v4Z z10 z10Z v4E z10E (by omega) (by omega)
  exact L1 (Int.toNat ((bZ : Int) + 1)) a aZ b bZ aE bE (by omega) (by omega)
end
