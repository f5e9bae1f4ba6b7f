section
-- ===== PART A: goes FIRST, ahead of the names: the tables' words, and 'selects' of the private methods out of them =====
/-- a private method of a class that the tables say can be made, by its rows of tables_1 -/
def lw_okq (q : MethodName × Nat) : Prop := (q.1.cls ≠ "java/lang/invoke/MethodHandle" ∧ q.1.cls ≠ "java/lang/invoke/VarHandle") ∧ Cond.instantiable q.1.cls q.2 ∈ tables_1 ∧ Cond.privateMethod q.1 ∈ tables_1 ∧ Cond.instanceMethod q.1 ∈ tables_1
theorem lw_p0 : lw_okq (⟨"RodOwes$Tape", "passLetters", "()V"⟩, 6) := ⟨⟨by decide +kernel, by decide +kernel⟩, List.mem_append_left _ (List.mem_of_getElem? (i := 205) (by decide +kernel)), List.mem_append_right _ (List.mem_append_left _ (List.mem_of_getElem? (i := 177) (by decide +kernel))), List.mem_append_right _ (List.mem_append_left _ (List.mem_of_getElem? (i := 178) (by decide +kernel)))⟩
theorem lw_p1 : lw_okq (⟨"RodOwes$Tape", "passFigures", "()V"⟩, 6) := ⟨⟨by decide +kernel, by decide +kernel⟩, List.mem_append_left _ (List.mem_of_getElem? (i := 205) (by decide +kernel)), List.mem_append_right _ (List.mem_append_left _ (List.mem_of_getElem? (i := 184) (by decide +kernel))), List.mem_append_right _ (List.mem_append_left _ (List.mem_of_getElem? (i := 185) (by decide +kernel)))⟩
theorem lw_p2 : lw_okq (⟨"RodOwes$Reader", "readLine", "()Z"⟩, 7) := ⟨⟨by decide +kernel, by decide +kernel⟩, List.mem_append_left _ (List.mem_of_getElem? (i := 199) (by decide +kernel)), List.mem_append_right _ (List.mem_append_left _ (List.mem_of_getElem? (i := 188) (by decide +kernel))), List.mem_append_right _ (List.mem_append_left _ (List.mem_of_getElem? (i := 189) (by decide +kernel)))⟩
theorem lw_p3 : lw_okq (⟨"RodOwes$Reader", "isKind", "(I)Z"⟩, 7) := ⟨⟨by decide +kernel, by decide +kernel⟩, List.mem_append_left _ (List.mem_of_getElem? (i := 199) (by decide +kernel)), List.mem_append_right _ (List.mem_append_left _ (List.mem_of_getElem? (i := 192) (by decide +kernel))), List.mem_append_right _ (List.mem_append_left _ (List.mem_of_getElem? (i := 193) (by decide +kernel)))⟩
theorem lw_p4 : lw_okq (⟨"RodOwes$Reader", "isRefused", "(II)Z"⟩, 7) := ⟨⟨by decide +kernel, by decide +kernel⟩, List.mem_append_left _ (List.mem_of_getElem? (i := 199) (by decide +kernel)), List.mem_append_right _ (List.mem_append_left _ (List.mem_of_getElem? (i := 196) (by decide +kernel))), List.mem_append_right _ (List.mem_append_left _ (List.mem_of_getElem? (i := 197) (by decide +kernel)))⟩
theorem lw_p5 : lw_okq (⟨"RodOwes$Reader", "lineBegun", "()I"⟩, 7) := ⟨⟨by decide +kernel, by decide +kernel⟩, List.mem_append_left _ (List.mem_of_getElem? (i := 199) (by decide +kernel)), List.mem_append_right _ (List.mem_append_left _ (List.mem_of_getElem? (i := 200) (by decide +kernel))), List.mem_append_right _ (List.mem_append_left _ (List.mem_of_getElem? (i := 201) (by decide +kernel)))⟩
theorem lw_p6 : lw_okq (⟨"RodOwes$Reader", "readNature", "()Z"⟩, 7) := ⟨⟨by decide +kernel, by decide +kernel⟩, List.mem_append_left _ (List.mem_of_getElem? (i := 199) (by decide +kernel)), List.mem_append_right _ (List.mem_append_right _ (List.mem_append_left _ (List.mem_of_getElem? (i := 32) (by decide +kernel)))), List.mem_append_right _ (List.mem_append_right _ (List.mem_append_left _ (List.mem_of_getElem? (i := 33) (by decide +kernel))))⟩
theorem lw_p7 : lw_okq (⟨"RodOwes$Reader", "natureNamed", "()I"⟩, 7) := ⟨⟨by decide +kernel, by decide +kernel⟩, List.mem_append_left _ (List.mem_of_getElem? (i := 199) (by decide +kernel)), List.mem_append_right _ (List.mem_append_right _ (List.mem_append_left _ (List.mem_of_getElem? (i := 36) (by decide +kernel)))), List.mem_append_right _ (List.mem_append_right _ (List.mem_append_left _ (List.mem_of_getElem? (i := 37) (by decide +kernel))))⟩
theorem lw_p8 : lw_okq (⟨"RodOwes$Reader", "readNumber", "(II)Z"⟩, 7) := ⟨⟨by decide +kernel, by decide +kernel⟩, List.mem_append_left _ (List.mem_of_getElem? (i := 199) (by decide +kernel)), List.mem_append_right _ (List.mem_append_right _ (List.mem_append_left _ (List.mem_of_getElem? (i := 49) (by decide +kernel)))), List.mem_append_right _ (List.mem_append_right _ (List.mem_append_left _ (List.mem_of_getElem? (i := 50) (by decide +kernel))))⟩
theorem lw_p9 : lw_okq (⟨"RodOwes$Reader", "tellLine", "(I)V"⟩, 7) := ⟨⟨by decide +kernel, by decide +kernel⟩, List.mem_append_left _ (List.mem_of_getElem? (i := 199) (by decide +kernel)), List.mem_append_right _ (List.mem_append_right _ (List.mem_append_left _ (List.mem_of_getElem? (i := 60) (by decide +kernel)))), List.mem_append_right _ (List.mem_append_right _ (List.mem_append_left _ (List.mem_of_getElem? (i := 61) (by decide +kernel))))⟩
theorem lw_p10 : lw_okq (⟨"RodOwes$Reader", "tellsBeyondCounty", "()Z"⟩, 7) := ⟨⟨by decide +kernel, by decide +kernel⟩, List.mem_append_left _ (List.mem_of_getElem? (i := 199) (by decide +kernel)), List.mem_append_right _ (List.mem_append_right _ (List.mem_append_left _ (List.mem_of_getElem? (i := 68) (by decide +kernel)))), List.mem_append_right _ (List.mem_append_right _ (List.mem_append_left _ (List.mem_of_getElem? (i := 69) (by decide +kernel))))⟩
theorem lw_p11 : lw_okq (⟨"RodOwes", "isSight", "(III)Z"⟩, 11) := ⟨⟨by decide +kernel, by decide +kernel⟩, List.mem_append_left _ (List.mem_of_getElem? (i := 22) (by decide +kernel)), List.mem_append_right _ (List.mem_append_right _ (List.mem_append_left _ (List.mem_of_getElem? (i := 197) (by decide +kernel)))), List.mem_append_right _ (List.mem_append_right _ (List.mem_append_left _ (List.mem_of_getElem? (i := 198) (by decide +kernel))))⟩
theorem lw_p12 : lw_okq (⟨"RodOwes$Walks", "bestBeside", "(LRodOwes$Land;II)I"⟩, 2) := ⟨⟨by decide +kernel, by decide +kernel⟩, List.mem_append_right _ (List.mem_append_left _ (List.mem_of_getElem? (i := 25) (by decide +kernel))), List.mem_append_right _ (List.mem_append_right _ (List.mem_append_right _ (List.mem_append_left _ (List.mem_of_getElem? (i := 27) (by decide +kernel))))), List.mem_append_right _ (List.mem_append_right _ (List.mem_append_right _ (List.mem_append_left _ (List.mem_of_getElem? (i := 28) (by decide +kernel)))))⟩
theorem lw_p13 : lw_okq (⟨"RodOwes$Plans", "commonDivisor", "()I"⟩, 3) := ⟨⟨by decide +kernel, by decide +kernel⟩, List.mem_append_right _ (List.mem_append_left _ (List.mem_of_getElem? (i := 41) (by decide +kernel))), List.mem_append_right _ (List.mem_append_right _ (List.mem_append_right _ (List.mem_append_left _ (List.mem_of_getElem? (i := 78) (by decide +kernel))))), List.mem_append_right _ (List.mem_append_right _ (List.mem_append_right _ (List.mem_append_left _ (List.mem_of_getElem? (i := 79) (by decide +kernel)))))⟩
theorem lw_p14 : lw_okq (⟨"RodOwes$Beds", "listRows", "(LRodOwes$Land;)V"⟩, 8) := ⟨⟨by decide +kernel, by decide +kernel⟩, List.mem_append_right _ (List.mem_append_left _ (List.mem_of_getElem? (i := 59) (by decide +kernel))), List.mem_append_right _ (List.mem_append_right _ (List.mem_append_right _ (List.mem_append_left _ (List.mem_of_getElem? (i := 96) (by decide +kernel))))), List.mem_append_right _ (List.mem_append_right _ (List.mem_append_right _ (List.mem_append_left _ (List.mem_of_getElem? (i := 97) (by decide +kernel)))))⟩
theorem lw_p15 : lw_okq (⟨"RodOwes$Beds", "listRowsAlong", "(III)V"⟩, 8) := ⟨⟨by decide +kernel, by decide +kernel⟩, List.mem_append_right _ (List.mem_append_left _ (List.mem_of_getElem? (i := 59) (by decide +kernel))), List.mem_append_right _ (List.mem_append_right _ (List.mem_append_right _ (List.mem_append_left _ (List.mem_of_getElem? (i := 100) (by decide +kernel))))), List.mem_append_right _ (List.mem_append_right _ (List.mem_append_right _ (List.mem_append_left _ (List.mem_of_getElem? (i := 101) (by decide +kernel)))))⟩
def lw_privs_1 : List (MethodName × Nat) := [(⟨"RodOwes$Tape", "passLetters", "()V"⟩, 6), (⟨"RodOwes$Tape", "passFigures", "()V"⟩, 6), (⟨"RodOwes$Reader", "readLine", "()Z"⟩, 7), (⟨"RodOwes$Reader", "isKind", "(I)Z"⟩, 7), (⟨"RodOwes$Reader", "isRefused", "(II)Z"⟩, 7), (⟨"RodOwes$Reader", "lineBegun", "()I"⟩, 7), (⟨"RodOwes$Reader", "readNature", "()Z"⟩, 7), (⟨"RodOwes$Reader", "natureNamed", "()I"⟩, 7), (⟨"RodOwes$Reader", "readNumber", "(II)Z"⟩, 7), (⟨"RodOwes$Reader", "tellLine", "(I)V"⟩, 7), (⟨"RodOwes$Reader", "tellsBeyondCounty", "()Z"⟩, 7), (⟨"RodOwes", "isSight", "(III)Z"⟩, 11), (⟨"RodOwes$Walks", "bestBeside", "(LRodOwes$Land;II)I"⟩, 2), (⟨"RodOwes$Plans", "commonDivisor", "()I"⟩, 3), (⟨"RodOwes$Beds", "listRows", "(LRodOwes$Land;)V"⟩, 8), (⟨"RodOwes$Beds", "listRowsAlong", "(III)V"⟩, 8)]
theorem lw_r1 : ∀ q ∈ lw_privs_1, lw_okq q := List.forall_mem_cons.mpr ⟨lw_p0, List.forall_mem_cons.mpr ⟨lw_p1, List.forall_mem_cons.mpr ⟨lw_p2, List.forall_mem_cons.mpr ⟨lw_p3, List.forall_mem_cons.mpr ⟨lw_p4, List.forall_mem_cons.mpr ⟨lw_p5, List.forall_mem_cons.mpr ⟨lw_p6, List.forall_mem_cons.mpr ⟨lw_p7, List.forall_mem_cons.mpr ⟨lw_p8, List.forall_mem_cons.mpr ⟨lw_p9, List.forall_mem_cons.mpr ⟨lw_p10, List.forall_mem_cons.mpr ⟨lw_p11, List.forall_mem_cons.mpr ⟨lw_p12, List.forall_mem_cons.mpr ⟨lw_p13, List.forall_mem_cons.mpr ⟨lw_p14, List.forall_mem_cons.mpr ⟨lw_p15, fun _ h => absurd h List.not_mem_nil⟩⟩⟩⟩⟩⟩⟩⟩⟩⟩⟩⟩⟩⟩⟩⟩
theorem lw_p16 : lw_okq (⟨"RodOwes$Beds", "isFitting", "(II)Z"⟩, 8) := ⟨⟨by decide +kernel, by decide +kernel⟩, List.mem_append_right _ (List.mem_append_left _ (List.mem_of_getElem? (i := 59) (by decide +kernel))), List.mem_append_right _ (List.mem_append_right _ (List.mem_append_right _ (List.mem_append_left _ (List.mem_of_getElem? (i := 110) (by decide +kernel))))), List.mem_append_right _ (List.mem_append_right _ (List.mem_append_right _ (List.mem_append_left _ (List.mem_of_getElem? (i := 111) (by decide +kernel)))))⟩
theorem lw_p17 : lw_okq (⟨"RodOwesModel", "firstDraft", "()V"⟩, 37) := ⟨⟨by decide +kernel, by decide +kernel⟩, List.mem_append_right _ (List.mem_append_right _ (List.mem_append_right _ (List.mem_append_left _ (List.mem_of_getElem? (i := 210) (by decide +kernel))))), List.mem_append_right _ (List.mem_append_right _ (List.mem_append_right _ (List.mem_append_left _ (List.mem_of_getElem? (i := 216) (by decide +kernel))))), List.mem_append_right _ (List.mem_append_right _ (List.mem_append_right _ (List.mem_append_left _ (List.mem_of_getElem? (i := 217) (by decide +kernel)))))⟩
theorem lw_p18 : lw_okq (⟨"RodOwesModel", "keepDraft", "()V"⟩, 37) := ⟨⟨by decide +kernel, by decide +kernel⟩, List.mem_append_right _ (List.mem_append_right _ (List.mem_append_right _ (List.mem_append_left _ (List.mem_of_getElem? (i := 210) (by decide +kernel))))), List.mem_append_right _ (List.mem_append_right _ (List.mem_append_right _ (List.mem_append_left _ (List.mem_of_getElem? (i := 220) (by decide +kernel))))), List.mem_append_right _ (List.mem_append_right _ (List.mem_append_right _ (List.mem_append_left _ (List.mem_of_getElem? (i := 221) (by decide +kernel)))))⟩
theorem lw_p19 : lw_okq (⟨"RodOwesModel", "next", "()V"⟩, 37) := ⟨⟨by decide +kernel, by decide +kernel⟩, List.mem_append_right _ (List.mem_append_right _ (List.mem_append_right _ (List.mem_append_left _ (List.mem_of_getElem? (i := 210) (by decide +kernel))))), List.mem_append_right _ (List.mem_append_right _ (List.mem_append_right _ (List.mem_append_right _ (List.mem_append_left _ (List.mem_of_getElem? (i := 112) (by decide +kernel)))))), List.mem_append_right _ (List.mem_append_right _ (List.mem_append_right _ (List.mem_append_right _ (List.mem_append_left _ (List.mem_of_getElem? (i := 113) (by decide +kernel))))))⟩
theorem lw_p20 : lw_okq (⟨"RodOwesModel", "look", "(I)I"⟩, 37) := ⟨⟨by decide +kernel, by decide +kernel⟩, List.mem_append_right _ (List.mem_append_right _ (List.mem_append_right _ (List.mem_append_left _ (List.mem_of_getElem? (i := 210) (by decide +kernel))))), List.mem_append_right _ (List.mem_append_right _ (List.mem_append_right _ (List.mem_append_right _ (List.mem_append_left _ (List.mem_of_getElem? (i := 116) (by decide +kernel)))))), List.mem_append_right _ (List.mem_append_right _ (List.mem_append_right _ (List.mem_append_right _ (List.mem_append_left _ (List.mem_of_getElem? (i := 117) (by decide +kernel))))))⟩
theorem lw_p21 : lw_okq (⟨"RodOwesModel", "needs", "(ZI)V"⟩, 37) := ⟨⟨by decide +kernel, by decide +kernel⟩, List.mem_append_right _ (List.mem_append_right _ (List.mem_append_right _ (List.mem_append_left _ (List.mem_of_getElem? (i := 210) (by decide +kernel))))), List.mem_append_right _ (List.mem_append_right _ (List.mem_append_right _ (List.mem_append_right _ (List.mem_append_left _ (List.mem_of_getElem? (i := 124) (by decide +kernel)))))), List.mem_append_right _ (List.mem_append_right _ (List.mem_append_right _ (List.mem_append_right _ (List.mem_append_left _ (List.mem_of_getElem? (i := 125) (by decide +kernel))))))⟩
theorem lw_p22 : lw_okq (⟨"RodOwesModel", "readLine", "()V"⟩, 37) := ⟨⟨by decide +kernel, by decide +kernel⟩, List.mem_append_right _ (List.mem_append_right _ (List.mem_append_right _ (List.mem_append_left _ (List.mem_of_getElem? (i := 210) (by decide +kernel))))), List.mem_append_right _ (List.mem_append_right _ (List.mem_append_right _ (List.mem_append_right _ (List.mem_append_left _ (List.mem_of_getElem? (i := 128) (by decide +kernel)))))), List.mem_append_right _ (List.mem_append_right _ (List.mem_append_right _ (List.mem_append_right _ (List.mem_append_left _ (List.mem_of_getElem? (i := 129) (by decide +kernel))))))⟩
theorem lw_p23 : lw_okq (⟨"RodOwesModel", "lineNow", "()I"⟩, 37) := ⟨⟨by decide +kernel, by decide +kernel⟩, List.mem_append_right _ (List.mem_append_right _ (List.mem_append_right _ (List.mem_append_left _ (List.mem_of_getElem? (i := 210) (by decide +kernel))))), List.mem_append_right _ (List.mem_append_right _ (List.mem_append_right _ (List.mem_append_right _ (List.mem_append_left _ (List.mem_of_getElem? (i := 132) (by decide +kernel)))))), List.mem_append_right _ (List.mem_append_right _ (List.mem_append_right _ (List.mem_append_right _ (List.mem_append_left _ (List.mem_of_getElem? (i := 133) (by decide +kernel))))))⟩
theorem lw_p24 : lw_okq (⟨"RodOwesModel", "is", "(IIII)Z"⟩, 37) := ⟨⟨by decide +kernel, by decide +kernel⟩, List.mem_append_right _ (List.mem_append_right _ (List.mem_append_right _ (List.mem_append_left _ (List.mem_of_getElem? (i := 210) (by decide +kernel))))), List.mem_append_right _ (List.mem_append_right _ (List.mem_append_right _ (List.mem_append_right _ (List.mem_append_left _ (List.mem_of_getElem? (i := 136) (by decide +kernel)))))), List.mem_append_right _ (List.mem_append_right _ (List.mem_append_right _ (List.mem_append_right _ (List.mem_append_left _ (List.mem_of_getElem? (i := 137) (by decide +kernel))))))⟩
theorem lw_p25 : lw_okq (⟨"RodOwesModel", "ends", "(III)Z"⟩, 37) := ⟨⟨by decide +kernel, by decide +kernel⟩, List.mem_append_right _ (List.mem_append_right _ (List.mem_append_right _ (List.mem_append_left _ (List.mem_of_getElem? (i := 210) (by decide +kernel))))), List.mem_append_right _ (List.mem_append_right _ (List.mem_append_right _ (List.mem_append_right _ (List.mem_append_left _ (List.mem_of_getElem? (i := 140) (by decide +kernel)))))), List.mem_append_right _ (List.mem_append_right _ (List.mem_append_right _ (List.mem_append_right _ (List.mem_append_left _ (List.mem_of_getElem? (i := 141) (by decide +kernel))))))⟩
theorem lw_p26 : lw_okq (⟨"RodOwesModel", "ruleLine", "()I"⟩, 37) := ⟨⟨by decide +kernel, by decide +kernel⟩, List.mem_append_right _ (List.mem_append_right _ (List.mem_append_right _ (List.mem_append_left _ (List.mem_of_getElem? (i := 210) (by decide +kernel))))), List.mem_append_right _ (List.mem_append_right _ (List.mem_append_right _ (List.mem_append_right _ (List.mem_append_left _ (List.mem_of_getElem? (i := 144) (by decide +kernel)))))), List.mem_append_right _ (List.mem_append_right _ (List.mem_append_right _ (List.mem_append_right _ (List.mem_append_left _ (List.mem_of_getElem? (i := 145) (by decide +kernel))))))⟩
theorem lw_p27 : lw_okq (⟨"RodOwesModel", "readLineOf", "(I)V"⟩, 37) := ⟨⟨by decide +kernel, by decide +kernel⟩, List.mem_append_right _ (List.mem_append_right _ (List.mem_append_right _ (List.mem_append_left _ (List.mem_of_getElem? (i := 210) (by decide +kernel))))), List.mem_append_right _ (List.mem_append_right _ (List.mem_append_right _ (List.mem_append_right _ (List.mem_append_left _ (List.mem_of_getElem? (i := 148) (by decide +kernel)))))), List.mem_append_right _ (List.mem_append_right _ (List.mem_append_right _ (List.mem_append_right _ (List.mem_append_left _ (List.mem_of_getElem? (i := 149) (by decide +kernel))))))⟩
theorem lw_p28 : lw_okq (⟨"RodOwesModel", "readNumber", "(II)I"⟩, 37) := ⟨⟨by decide +kernel, by decide +kernel⟩, List.mem_append_right _ (List.mem_append_right _ (List.mem_append_right _ (List.mem_append_left _ (List.mem_of_getElem? (i := 210) (by decide +kernel))))), List.mem_append_right _ (List.mem_append_right _ (List.mem_append_right _ (List.mem_append_right _ (List.mem_append_left _ (List.mem_of_getElem? (i := 152) (by decide +kernel)))))), List.mem_append_right _ (List.mem_append_right _ (List.mem_append_right _ (List.mem_append_right _ (List.mem_append_left _ (List.mem_of_getElem? (i := 153) (by decide +kernel))))))⟩
theorem lw_p29 : lw_okq (⟨"RodOwesModel", "looked", "(II)I"⟩, 37) := ⟨⟨by decide +kernel, by decide +kernel⟩, List.mem_append_right _ (List.mem_append_right _ (List.mem_append_right _ (List.mem_append_left _ (List.mem_of_getElem? (i := 210) (by decide +kernel))))), List.mem_append_right _ (List.mem_append_right _ (List.mem_append_right _ (List.mem_append_right _ (List.mem_append_left _ (List.mem_of_getElem? (i := 156) (by decide +kernel)))))), List.mem_append_right _ (List.mem_append_right _ (List.mem_append_right _ (List.mem_append_right _ (List.mem_append_left _ (List.mem_of_getElem? (i := 157) (by decide +kernel))))))⟩
theorem lw_p30 : lw_okq (⟨"RodOwesModel", "readRod", "()V"⟩, 37) := ⟨⟨by decide +kernel, by decide +kernel⟩, List.mem_append_right _ (List.mem_append_right _ (List.mem_append_right _ (List.mem_append_left _ (List.mem_of_getElem? (i := 210) (by decide +kernel))))), List.mem_append_right _ (List.mem_append_right _ (List.mem_append_right _ (List.mem_append_right _ (List.mem_append_left _ (List.mem_of_getElem? (i := 160) (by decide +kernel)))))), List.mem_append_right _ (List.mem_append_right _ (List.mem_append_right _ (List.mem_append_right _ (List.mem_append_left _ (List.mem_of_getElem? (i := 161) (by decide +kernel))))))⟩
theorem lw_p31 : lw_okq (⟨"RodOwesModel", "natureNow", "()I"⟩, 37) := ⟨⟨by decide +kernel, by decide +kernel⟩, List.mem_append_right _ (List.mem_append_right _ (List.mem_append_right _ (List.mem_append_left _ (List.mem_of_getElem? (i := 210) (by decide +kernel))))), List.mem_append_right _ (List.mem_append_right _ (List.mem_append_right _ (List.mem_append_right _ (List.mem_append_left _ (List.mem_of_getElem? (i := 164) (by decide +kernel)))))), List.mem_append_right _ (List.mem_append_right _ (List.mem_append_right _ (List.mem_append_right _ (List.mem_append_left _ (List.mem_of_getElem? (i := 165) (by decide +kernel))))))⟩
def lw_privs_2 : List (MethodName × Nat) := [(⟨"RodOwes$Beds", "isFitting", "(II)Z"⟩, 8), (⟨"RodOwesModel", "firstDraft", "()V"⟩, 37), (⟨"RodOwesModel", "keepDraft", "()V"⟩, 37), (⟨"RodOwesModel", "next", "()V"⟩, 37), (⟨"RodOwesModel", "look", "(I)I"⟩, 37), (⟨"RodOwesModel", "needs", "(ZI)V"⟩, 37), (⟨"RodOwesModel", "readLine", "()V"⟩, 37), (⟨"RodOwesModel", "lineNow", "()I"⟩, 37), (⟨"RodOwesModel", "is", "(IIII)Z"⟩, 37), (⟨"RodOwesModel", "ends", "(III)Z"⟩, 37), (⟨"RodOwesModel", "ruleLine", "()I"⟩, 37), (⟨"RodOwesModel", "readLineOf", "(I)V"⟩, 37), (⟨"RodOwesModel", "readNumber", "(II)I"⟩, 37), (⟨"RodOwesModel", "looked", "(II)I"⟩, 37), (⟨"RodOwesModel", "readRod", "()V"⟩, 37), (⟨"RodOwesModel", "natureNow", "()I"⟩, 37)]
theorem lw_r2 : ∀ q ∈ lw_privs_2, lw_okq q := List.forall_mem_cons.mpr ⟨lw_p16, List.forall_mem_cons.mpr ⟨lw_p17, List.forall_mem_cons.mpr ⟨lw_p18, List.forall_mem_cons.mpr ⟨lw_p19, List.forall_mem_cons.mpr ⟨lw_p20, List.forall_mem_cons.mpr ⟨lw_p21, List.forall_mem_cons.mpr ⟨lw_p22, List.forall_mem_cons.mpr ⟨lw_p23, List.forall_mem_cons.mpr ⟨lw_p24, List.forall_mem_cons.mpr ⟨lw_p25, List.forall_mem_cons.mpr ⟨lw_p26, List.forall_mem_cons.mpr ⟨lw_p27, List.forall_mem_cons.mpr ⟨lw_p28, List.forall_mem_cons.mpr ⟨lw_p29, List.forall_mem_cons.mpr ⟨lw_p30, List.forall_mem_cons.mpr ⟨lw_p31, fun _ h => absurd h List.not_mem_nil⟩⟩⟩⟩⟩⟩⟩⟩⟩⟩⟩⟩⟩⟩⟩⟩
theorem lw_p32 : lw_okq (⟨"RodOwesModel", "readFresh", "(II)I"⟩, 37) := ⟨⟨by decide +kernel, by decide +kernel⟩, List.mem_append_right _ (List.mem_append_right _ (List.mem_append_right _ (List.mem_append_left _ (List.mem_of_getElem? (i := 210) (by decide +kernel))))), List.mem_append_right _ (List.mem_append_right _ (List.mem_append_right _ (List.mem_append_right _ (List.mem_append_left _ (List.mem_of_getElem? (i := 168) (by decide +kernel)))))), List.mem_append_right _ (List.mem_append_right _ (List.mem_append_right _ (List.mem_append_right _ (List.mem_append_left _ (List.mem_of_getElem? (i := 169) (by decide +kernel))))))⟩
theorem lw_p33 : lw_okq (⟨"RodOwesModel", "readDebt", "()V"⟩, 37) := ⟨⟨by decide +kernel, by decide +kernel⟩, List.mem_append_right _ (List.mem_append_right _ (List.mem_append_right _ (List.mem_append_left _ (List.mem_of_getElem? (i := 210) (by decide +kernel))))), List.mem_append_right _ (List.mem_append_right _ (List.mem_append_right _ (List.mem_append_right _ (List.mem_append_left _ (List.mem_of_getElem? (i := 172) (by decide +kernel)))))), List.mem_append_right _ (List.mem_append_right _ (List.mem_append_right _ (List.mem_append_right _ (List.mem_append_left _ (List.mem_of_getElem? (i := 173) (by decide +kernel))))))⟩
theorem lw_p34 : lw_okq (⟨"RodOwesModel", "readCellOf", "(I)V"⟩, 37) := ⟨⟨by decide +kernel, by decide +kernel⟩, List.mem_append_right _ (List.mem_append_right _ (List.mem_append_right _ (List.mem_append_left _ (List.mem_of_getElem? (i := 210) (by decide +kernel))))), List.mem_append_right _ (List.mem_append_right _ (List.mem_append_right _ (List.mem_append_right _ (List.mem_append_left _ (List.mem_of_getElem? (i := 176) (by decide +kernel)))))), List.mem_append_right _ (List.mem_append_right _ (List.mem_append_right _ (List.mem_append_right _ (List.mem_append_left _ (List.mem_of_getElem? (i := 177) (by decide +kernel))))))⟩
theorem lw_p35 : lw_okq (⟨"RodOwesModel", "isCell", "(I)Z"⟩, 37) := ⟨⟨by decide +kernel, by decide +kernel⟩, List.mem_append_right _ (List.mem_append_right _ (List.mem_append_right _ (List.mem_append_left _ (List.mem_of_getElem? (i := 210) (by decide +kernel))))), List.mem_append_right _ (List.mem_append_right _ (List.mem_append_right _ (List.mem_append_right _ (List.mem_append_left _ (List.mem_of_getElem? (i := 192) (by decide +kernel)))))), List.mem_append_right _ (List.mem_append_right _ (List.mem_append_right _ (List.mem_append_right _ (List.mem_append_left _ (List.mem_of_getElem? (i := 193) (by decide +kernel))))))⟩
theorem lw_p36 : lw_okq (⟨"RodOwesModel", "cellMany", "()I"⟩, 37) := ⟨⟨by decide +kernel, by decide +kernel⟩, List.mem_append_right _ (List.mem_append_right _ (List.mem_append_right _ (List.mem_append_left _ (List.mem_of_getElem? (i := 210) (by decide +kernel))))), List.mem_append_right _ (List.mem_append_right _ (List.mem_append_right _ (List.mem_append_right _ (List.mem_append_left _ (List.mem_of_getElem? (i := 196) (by decide +kernel)))))), List.mem_append_right _ (List.mem_append_right _ (List.mem_append_right _ (List.mem_append_right _ (List.mem_append_left _ (List.mem_of_getElem? (i := 197) (by decide +kernel))))))⟩
theorem lw_p37 : lw_okq (⟨"RodOwesModel", "isWell", "(I)Z"⟩, 37) := ⟨⟨by decide +kernel, by decide +kernel⟩, List.mem_append_right _ (List.mem_append_right _ (List.mem_append_right _ (List.mem_append_left _ (List.mem_of_getElem? (i := 210) (by decide +kernel))))), List.mem_append_right _ (List.mem_append_right _ (List.mem_append_right _ (List.mem_append_right _ (List.mem_append_left _ (List.mem_of_getElem? (i := 201) (by decide +kernel)))))), List.mem_append_right _ (List.mem_append_right _ (List.mem_append_right _ (List.mem_append_right _ (List.mem_append_left _ (List.mem_of_getElem? (i := 202) (by decide +kernel))))))⟩
theorem lw_p38 : lw_okq (⟨"RodOwesModel", "becomes", "(II)I"⟩, 37) := ⟨⟨by decide +kernel, by decide +kernel⟩, List.mem_append_right _ (List.mem_append_right _ (List.mem_append_right _ (List.mem_append_left _ (List.mem_of_getElem? (i := 210) (by decide +kernel))))), List.mem_append_right _ (List.mem_append_right _ (List.mem_append_right _ (List.mem_append_right _ (List.mem_append_left _ (List.mem_of_getElem? (i := 224) (by decide +kernel)))))), List.mem_append_right _ (List.mem_append_right _ (List.mem_append_right _ (List.mem_append_right _ (List.mem_append_left _ (List.mem_of_getElem? (i := 225) (by decide +kernel))))))⟩
theorem lw_p39 : lw_okq (⟨"RodOwesModel", "wells", "()I"⟩, 37) := ⟨⟨by decide +kernel, by decide +kernel⟩, List.mem_append_right _ (List.mem_append_right _ (List.mem_append_right _ (List.mem_append_left _ (List.mem_of_getElem? (i := 210) (by decide +kernel))))), List.mem_append_right _ (List.mem_append_right _ (List.mem_append_right _ (List.mem_append_right _ (List.mem_append_right _ (List.mem_of_getElem? (i := 25) (by decide +kernel)))))), List.mem_append_right _ (List.mem_append_right _ (List.mem_append_right _ (List.mem_append_right _ (List.mem_append_right _ (List.mem_of_getElem? (i := 26) (by decide +kernel))))))⟩
theorem lw_p40 : lw_okq (⟨"RodOwesModel", "isSeen", "(III)Z"⟩, 37) := ⟨⟨by decide +kernel, by decide +kernel⟩, List.mem_append_right _ (List.mem_append_right _ (List.mem_append_right _ (List.mem_append_left _ (List.mem_of_getElem? (i := 210) (by decide +kernel))))), List.mem_append_right _ (List.mem_append_right _ (List.mem_append_right _ (List.mem_append_right _ (List.mem_append_right _ (List.mem_of_getElem? (i := 33) (by decide +kernel)))))), List.mem_append_right _ (List.mem_append_right _ (List.mem_append_right _ (List.mem_append_right _ (List.mem_append_right _ (List.mem_of_getElem? (i := 34) (by decide +kernel))))))⟩
theorem lw_p41 : lw_okq (⟨"RodOwesModel", "doesTwitch", "(IIIII)Z"⟩, 37) := ⟨⟨by decide +kernel, by decide +kernel⟩, List.mem_append_right _ (List.mem_append_right _ (List.mem_append_right _ (List.mem_append_left _ (List.mem_of_getElem? (i := 210) (by decide +kernel))))), List.mem_append_right _ (List.mem_append_right _ (List.mem_append_right _ (List.mem_append_right _ (List.mem_append_right _ (List.mem_of_getElem? (i := 37) (by decide +kernel)))))), List.mem_append_right _ (List.mem_append_right _ (List.mem_append_right _ (List.mem_append_right _ (List.mem_append_right _ (List.mem_of_getElem? (i := 38) (by decide +kernel))))))⟩
theorem lw_p42 : lw_okq (⟨"RodOwesModel", "doesFit", "(II)Z"⟩, 37) := ⟨⟨by decide +kernel, by decide +kernel⟩, List.mem_append_right _ (List.mem_append_right _ (List.mem_append_right _ (List.mem_append_left _ (List.mem_of_getElem? (i := 210) (by decide +kernel))))), List.mem_append_right _ (List.mem_append_right _ (List.mem_append_right _ (List.mem_append_right _ (List.mem_append_right _ (List.mem_of_getElem? (i := 56) (by decide +kernel)))))), List.mem_append_right _ (List.mem_append_right _ (List.mem_append_right _ (List.mem_append_right _ (List.mem_append_right _ (List.mem_of_getElem? (i := 57) (by decide +kernel))))))⟩
theorem lw_p43 : lw_okq (⟨"RodOwesModel", "rodsBy", "(IIIZ)I"⟩, 37) := ⟨⟨by decide +kernel, by decide +kernel⟩, List.mem_append_right _ (List.mem_append_right _ (List.mem_append_right _ (List.mem_append_left _ (List.mem_of_getElem? (i := 210) (by decide +kernel))))), List.mem_append_right _ (List.mem_append_right _ (List.mem_append_right _ (List.mem_append_right _ (List.mem_append_right _ (List.mem_of_getElem? (i := 68) (by decide +kernel)))))), List.mem_append_right _ (List.mem_append_right _ (List.mem_append_right _ (List.mem_append_right _ (List.mem_append_right _ (List.mem_of_getElem? (i := 69) (by decide +kernel))))))⟩
theorem lw_p44 : lw_okq (⟨"RodOwesModel", "findShown", "(II)V"⟩, 37) := ⟨⟨by decide +kernel, by decide +kernel⟩, List.mem_append_right _ (List.mem_append_right _ (List.mem_append_right _ (List.mem_append_left _ (List.mem_of_getElem? (i := 210) (by decide +kernel))))), List.mem_append_right _ (List.mem_append_right _ (List.mem_append_right _ (List.mem_append_right _ (List.mem_append_right _ (List.mem_of_getElem? (i := 77) (by decide +kernel)))))), List.mem_append_right _ (List.mem_append_right _ (List.mem_append_right _ (List.mem_append_right _ (List.mem_append_right _ (List.mem_of_getElem? (i := 78) (by decide +kernel))))))⟩
theorem lw_p45 : lw_okq (⟨"RodOwesModel", "bestBeside", "(II)I"⟩, 37) := ⟨⟨by decide +kernel, by decide +kernel⟩, List.mem_append_right _ (List.mem_append_right _ (List.mem_append_right _ (List.mem_append_left _ (List.mem_of_getElem? (i := 210) (by decide +kernel))))), List.mem_append_right _ (List.mem_append_right _ (List.mem_append_right _ (List.mem_append_right _ (List.mem_append_right _ (List.mem_of_getElem? (i := 81) (by decide +kernel)))))), List.mem_append_right _ (List.mem_append_right _ (List.mem_append_right _ (List.mem_append_right _ (List.mem_append_right _ (List.mem_of_getElem? (i := 82) (by decide +kernel))))))⟩
theorem lw_p46 : lw_okq (⟨"RodOwesModel", "beside", "(II)I"⟩, 37) := ⟨⟨by decide +kernel, by decide +kernel⟩, List.mem_append_right _ (List.mem_append_right _ (List.mem_append_right _ (List.mem_append_left _ (List.mem_of_getElem? (i := 210) (by decide +kernel))))), List.mem_append_right _ (List.mem_append_right _ (List.mem_append_right _ (List.mem_append_right _ (List.mem_append_right _ (List.mem_of_getElem? (i := 85) (by decide +kernel)))))), List.mem_append_right _ (List.mem_append_right _ (List.mem_append_right _ (List.mem_append_right _ (List.mem_append_right _ (List.mem_of_getElem? (i := 86) (by decide +kernel))))))⟩
theorem lw_p47 : lw_okq (⟨"RodOwesModel", "showsIn", "(III)I"⟩, 37) := ⟨⟨by decide +kernel, by decide +kernel⟩, List.mem_append_right _ (List.mem_append_right _ (List.mem_append_right _ (List.mem_append_left _ (List.mem_of_getElem? (i := 210) (by decide +kernel))))), List.mem_append_right _ (List.mem_append_right _ (List.mem_append_right _ (List.mem_append_right _ (List.mem_append_right _ (List.mem_of_getElem? (i := 89) (by decide +kernel)))))), List.mem_append_right _ (List.mem_append_right _ (List.mem_append_right _ (List.mem_append_right _ (List.mem_append_right _ (List.mem_of_getElem? (i := 90) (by decide +kernel))))))⟩
def lw_privs_3 : List (MethodName × Nat) := [(⟨"RodOwesModel", "readFresh", "(II)I"⟩, 37), (⟨"RodOwesModel", "readDebt", "()V"⟩, 37), (⟨"RodOwesModel", "readCellOf", "(I)V"⟩, 37), (⟨"RodOwesModel", "isCell", "(I)Z"⟩, 37), (⟨"RodOwesModel", "cellMany", "()I"⟩, 37), (⟨"RodOwesModel", "isWell", "(I)Z"⟩, 37), (⟨"RodOwesModel", "becomes", "(II)I"⟩, 37), (⟨"RodOwesModel", "wells", "()I"⟩, 37), (⟨"RodOwesModel", "isSeen", "(III)Z"⟩, 37), (⟨"RodOwesModel", "doesTwitch", "(IIIII)Z"⟩, 37), (⟨"RodOwesModel", "doesFit", "(II)Z"⟩, 37), (⟨"RodOwesModel", "rodsBy", "(IIIZ)I"⟩, 37), (⟨"RodOwesModel", "findShown", "(II)V"⟩, 37), (⟨"RodOwesModel", "bestBeside", "(II)I"⟩, 37), (⟨"RodOwesModel", "beside", "(II)I"⟩, 37), (⟨"RodOwesModel", "showsIn", "(III)I"⟩, 37)]
theorem lw_r3 : ∀ q ∈ lw_privs_3, lw_okq q := List.forall_mem_cons.mpr ⟨lw_p32, List.forall_mem_cons.mpr ⟨lw_p33, List.forall_mem_cons.mpr ⟨lw_p34, List.forall_mem_cons.mpr ⟨lw_p35, List.forall_mem_cons.mpr ⟨lw_p36, List.forall_mem_cons.mpr ⟨lw_p37, List.forall_mem_cons.mpr ⟨lw_p38, List.forall_mem_cons.mpr ⟨lw_p39, List.forall_mem_cons.mpr ⟨lw_p40, List.forall_mem_cons.mpr ⟨lw_p41, List.forall_mem_cons.mpr ⟨lw_p42, List.forall_mem_cons.mpr ⟨lw_p43, List.forall_mem_cons.mpr ⟨lw_p44, List.forall_mem_cons.mpr ⟨lw_p45, List.forall_mem_cons.mpr ⟨lw_p46, List.forall_mem_cons.mpr ⟨lw_p47, fun _ h => absurd h List.not_mem_nil⟩⟩⟩⟩⟩⟩⟩⟩⟩⟩⟩⟩⟩⟩⟩⟩
theorem lw_p48 : lw_okq (⟨"RodOwesModel", "plansOf", "(III)V"⟩, 37) := ⟨⟨by decide +kernel, by decide +kernel⟩, List.mem_append_right _ (List.mem_append_right _ (List.mem_append_right _ (List.mem_append_left _ (List.mem_of_getElem? (i := 210) (by decide +kernel))))), List.mem_append_right _ (List.mem_append_right _ (List.mem_append_right _ (List.mem_append_right _ (List.mem_append_right _ (List.mem_of_getElem? (i := 103) (by decide +kernel)))))), List.mem_append_right _ (List.mem_append_right _ (List.mem_append_right _ (List.mem_append_right _ (List.mem_append_right _ (List.mem_of_getElem? (i := 104) (by decide +kernel))))))⟩
theorem lw_p49 : lw_okq (⟨"RodOwesModel", "isFree", "(III)Z"⟩, 37) := ⟨⟨by decide +kernel, by decide +kernel⟩, List.mem_append_right _ (List.mem_append_right _ (List.mem_append_right _ (List.mem_append_left _ (List.mem_of_getElem? (i := 210) (by decide +kernel))))), List.mem_append_right _ (List.mem_append_right _ (List.mem_append_right _ (List.mem_append_right _ (List.mem_append_right _ (List.mem_of_getElem? (i := 107) (by decide +kernel)))))), List.mem_append_right _ (List.mem_append_right _ (List.mem_append_right _ (List.mem_append_right _ (List.mem_append_right _ (List.mem_of_getElem? (i := 108) (by decide +kernel))))))⟩
theorem lw_p50 : lw_okq (⟨"RodOwesModel", "meanOf", "(II)J"⟩, 37) := ⟨⟨by decide +kernel, by decide +kernel⟩, List.mem_append_right _ (List.mem_append_right _ (List.mem_append_right _ (List.mem_append_left _ (List.mem_of_getElem? (i := 210) (by decide +kernel))))), List.mem_append_right _ (List.mem_append_right _ (List.mem_append_right _ (List.mem_append_right _ (List.mem_append_right _ (List.mem_of_getElem? (i := 111) (by decide +kernel)))))), List.mem_append_right _ (List.mem_append_right _ (List.mem_append_right _ (List.mem_append_right _ (List.mem_append_right _ (List.mem_of_getElem? (i := 112) (by decide +kernel))))))⟩
theorem lw_p51 : lw_okq (⟨"RodOwesModel", "findBeds", "()V"⟩, 37) := ⟨⟨by decide +kernel, by decide +kernel⟩, List.mem_append_right _ (List.mem_append_right _ (List.mem_append_right _ (List.mem_append_left _ (List.mem_of_getElem? (i := 210) (by decide +kernel))))), List.mem_append_right _ (List.mem_append_right _ (List.mem_append_right _ (List.mem_append_right _ (List.mem_append_right _ (List.mem_of_getElem? (i := 124) (by decide +kernel)))))), List.mem_append_right _ (List.mem_append_right _ (List.mem_append_right _ (List.mem_append_right _ (List.mem_append_right _ (List.mem_of_getElem? (i := 125) (by decide +kernel))))))⟩
theorem lw_p52 : lw_okq (⟨"RodOwesModel", "addBed", "(III)V"⟩, 37) := ⟨⟨by decide +kernel, by decide +kernel⟩, List.mem_append_right _ (List.mem_append_right _ (List.mem_append_right _ (List.mem_append_left _ (List.mem_of_getElem? (i := 210) (by decide +kernel))))), List.mem_append_right _ (List.mem_append_right _ (List.mem_append_right _ (List.mem_append_right _ (List.mem_append_right _ (List.mem_of_getElem? (i := 128) (by decide +kernel)))))), List.mem_append_right _ (List.mem_append_right _ (List.mem_append_right _ (List.mem_append_right _ (List.mem_append_right _ (List.mem_of_getElem? (i := 129) (by decide +kernel))))))⟩
theorem lw_p53 : lw_okq (⟨"RodOwesModel", "doesBedFit", "(II)Z"⟩, 37) := ⟨⟨by decide +kernel, by decide +kernel⟩, List.mem_append_right _ (List.mem_append_right _ (List.mem_append_right _ (List.mem_append_left _ (List.mem_of_getElem? (i := 210) (by decide +kernel))))), List.mem_append_right _ (List.mem_append_right _ (List.mem_append_right _ (List.mem_append_right _ (List.mem_append_right _ (List.mem_of_getElem? (i := 132) (by decide +kernel)))))), List.mem_append_right _ (List.mem_append_right _ (List.mem_append_right _ (List.mem_append_right _ (List.mem_append_right _ (List.mem_of_getElem? (i := 133) (by decide +kernel))))))⟩
theorem lw_p54 : lw_okq (⟨"RodOwesModel", "bedsBy", "(IIZ)I"⟩, 37) := ⟨⟨by decide +kernel, by decide +kernel⟩, List.mem_append_right _ (List.mem_append_right _ (List.mem_append_right _ (List.mem_append_left _ (List.mem_of_getElem? (i := 210) (by decide +kernel))))), List.mem_append_right _ (List.mem_append_right _ (List.mem_append_right _ (List.mem_append_right _ (List.mem_append_right _ (List.mem_of_getElem? (i := 140) (by decide +kernel)))))), List.mem_append_right _ (List.mem_append_right _ (List.mem_append_right _ (List.mem_append_right _ (List.mem_append_right _ (List.mem_of_getElem? (i := 141) (by decide +kernel))))))⟩
theorem lw_p55 : lw_okq (⟨"RodOwesModel", "findCrash", "(II)I"⟩, 37) := ⟨⟨by decide +kernel, by decide +kernel⟩, List.mem_append_right _ (List.mem_append_right _ (List.mem_append_right _ (List.mem_append_left _ (List.mem_of_getElem? (i := 210) (by decide +kernel))))), List.mem_append_right _ (List.mem_append_right _ (List.mem_append_right _ (List.mem_append_right _ (List.mem_append_right _ (List.mem_of_getElem? (i := 148) (by decide +kernel)))))), List.mem_append_right _ (List.mem_append_right _ (List.mem_append_right _ (List.mem_append_right _ (List.mem_append_right _ (List.mem_of_getElem? (i := 149) (by decide +kernel))))))⟩
theorem lw_p56 : lw_okq (⟨"RodOwesModel", "fails", "(II)Z"⟩, 37) := ⟨⟨by decide +kernel, by decide +kernel⟩, List.mem_append_right _ (List.mem_append_right _ (List.mem_append_right _ (List.mem_append_left _ (List.mem_of_getElem? (i := 210) (by decide +kernel))))), List.mem_append_right _ (List.mem_append_right _ (List.mem_append_right _ (List.mem_append_right _ (List.mem_append_right _ (List.mem_of_getElem? (i := 152) (by decide +kernel)))))), List.mem_append_right _ (List.mem_append_right _ (List.mem_append_right _ (List.mem_append_right _ (List.mem_append_right _ (List.mem_of_getElem? (i := 153) (by decide +kernel))))))⟩
theorem lw_p57 : lw_okq (⟨"RodOwesModel", "copies", "(II)V"⟩, 37) := ⟨⟨by decide +kernel, by decide +kernel⟩, List.mem_append_right _ (List.mem_append_right _ (List.mem_append_right _ (List.mem_append_left _ (List.mem_of_getElem? (i := 210) (by decide +kernel))))), List.mem_append_right _ (List.mem_append_right _ (List.mem_append_right _ (List.mem_append_right _ (List.mem_append_right _ (List.mem_of_getElem? (i := 170) (by decide +kernel)))))), List.mem_append_right _ (List.mem_append_right _ (List.mem_append_right _ (List.mem_append_right _ (List.mem_append_right _ (List.mem_of_getElem? (i := 171) (by decide +kernel))))))⟩
def lw_privs_4 : List (MethodName × Nat) := [(⟨"RodOwesModel", "plansOf", "(III)V"⟩, 37), (⟨"RodOwesModel", "isFree", "(III)Z"⟩, 37), (⟨"RodOwesModel", "meanOf", "(II)J"⟩, 37), (⟨"RodOwesModel", "findBeds", "()V"⟩, 37), (⟨"RodOwesModel", "addBed", "(III)V"⟩, 37), (⟨"RodOwesModel", "doesBedFit", "(II)Z"⟩, 37), (⟨"RodOwesModel", "bedsBy", "(IIZ)I"⟩, 37), (⟨"RodOwesModel", "findCrash", "(II)I"⟩, 37), (⟨"RodOwesModel", "fails", "(II)Z"⟩, 37), (⟨"RodOwesModel", "copies", "(II)V"⟩, 37)]
theorem lw_r4 : ∀ q ∈ lw_privs_4, lw_okq q := List.forall_mem_cons.mpr ⟨lw_p48, List.forall_mem_cons.mpr ⟨lw_p49, List.forall_mem_cons.mpr ⟨lw_p50, List.forall_mem_cons.mpr ⟨lw_p51, List.forall_mem_cons.mpr ⟨lw_p52, List.forall_mem_cons.mpr ⟨lw_p53, List.forall_mem_cons.mpr ⟨lw_p54, List.forall_mem_cons.mpr ⟨lw_p55, List.forall_mem_cons.mpr ⟨lw_p56, List.forall_mem_cons.mpr ⟨lw_p57, fun _ h => absurd h List.not_mem_nil⟩⟩⟩⟩⟩⟩⟩⟩⟩⟩
def lw_privs : List (MethodName × Nat) := lw_privs_1 ++ (lw_privs_2 ++ (lw_privs_3 ++ (lw_privs_4)))
def lw_tbl : List Cond := k2_sels lw_privs ++ tables_1
theorem lw_privs_ok : ∀ q ∈ lw_privs, lw_okq q := by
  show ∀ q ∈ lw_privs_1 ++ (lw_privs_2 ++ (lw_privs_3 ++ (lw_privs_4))), lw_okq q
  exact List.forall_mem_append.mpr ⟨lw_r1, List.forall_mem_append.mpr ⟨lw_r2, List.forall_mem_append.mpr ⟨lw_r3, lw_r4⟩⟩⟩
end
section
def R_Beds : String := "RodOwes$Beds"
def T_Beds : u_T := fun k => match k with
  | 0 => ("RodOwes$Beds", "rows", "[I", true)
  | 1 => ("RodOwes$Beds", "size", "I", false)
  | 2 => ("RodOwes$Beds", "reached", "[I", true)
  | 3 => ("RodOwes$Beds", "wells", "I", false)
  | 4 => ("RodOwes$Beds", "fitting", "I", false)
  | 5 => ("RodOwes$Beds", "wetByAll", "I", false)
  | 6 => ("RodOwes$Beds", "wetByOne", "I", false)
  | _ => ("RodOwes$Beds", "deepest", "I", false)
def t_Beds : Nat → FieldType := fun k => match k with
  | 0 => .array .int
  | 1 => .int
  | 2 => .array .int
  | 3 => .int
  | 4 => .int
  | 5 => .int
  | 6 => .int
  | _ => .int
theorem n_Beds : ∀ a, a < 8 → ∀ b, b < 8 → a ≠ b → (T_Beds a).2.1 ≠ (T_Beds b).2.1 := by decide +kernel
theorem t_Beds_ok : ∀ k, k < 8 → parseFieldDescriptor (T_Beds k).2.2.1 = some (t_Beds k) := by decide +kernel
def R_County : String := "RodOwes$County"
def T_County : u_T := fun k => match k with
  | 0 => ("RodOwes$County", "land", "LRodOwes$Land;", true)
  | 1 => ("RodOwes$County", "ledger", "LRodOwes$Ledger;", true)
  | 2 => ("RodOwes$County", "sights", "LRodOwes$Sights;", true)
  | 3 => ("RodOwes$County", "nature", "I", false)
  | _ => ("RodOwes$County", "reach", "I", false)
def t_County : Nat → FieldType := fun k => match k with
  | 0 => .object "RodOwes$Land"
  | 1 => .object "RodOwes$Ledger"
  | 2 => .object "RodOwes$Sights"
  | 3 => .int
  | _ => .int
theorem n_County : ∀ a, a < 5 → ∀ b, b < 5 → a ≠ b → (T_County a).2.1 ≠ (T_County b).2.1 := by decide +kernel
theorem t_County_ok : ∀ k, k < 5 → parseFieldDescriptor (T_County k).2.2.1 = some (t_County k) := by decide +kernel
def R_Land : String := "RodOwes$Land"
def T_Land : u_T := fun k => match k with
  | 0 => ("RodOwes$Land", "wide", "I", false)
  | 1 => ("RodOwes$Land", "high", "I", false)
  | 2 => ("RodOwes$Land", "cost", "I", false)
  | 3 => ("RodOwes$Land", "price", "I", false)
  | 4 => ("RodOwes$Land", "water", "[I", true)
  | 5 => ("RodOwes$Land", "iron", "[I", true)
  | 6 => ("RodOwes$Land", "odds", "[I", true)
  | 7 => ("RodOwes$Land", "claims", "[I", true)
  | _ => ("RodOwes$Land", "bored", "[I", true)
def t_Land : Nat → FieldType := fun k => match k with
  | 0 => .int
  | 1 => .int
  | 2 => .int
  | 3 => .int
  | 4 => .array .int
  | 5 => .array .int
  | 6 => .array .int
  | 7 => .array .int
  | _ => .array .int
theorem n_Land : ∀ a, a < 9 → ∀ b, b < 9 → a ≠ b → (T_Land a).2.1 ≠ (T_Land b).2.1 := by decide +kernel
theorem t_Land_ok : ∀ k, k < 9 → parseFieldDescriptor (T_Land k).2.2.1 = some (t_Land k) := by decide +kernel
def R_Ledger : String := "RodOwes$Ledger"
def T_Ledger : u_T := fun k => match k with
  | 0 => ("RodOwes$Ledger", "purses", "[I", true)
  | 1 => ("RodOwes$Ledger", "debtors", "[I", true)
  | 2 => ("RodOwes$Ledger", "creditors", "[I", true)
  | 3 => ("RodOwes$Ledger", "sums", "[I", true)
  | _ => ("RodOwes$Ledger", "debts", "I", false)
def t_Ledger : Nat → FieldType := fun k => match k with
  | 0 => .array .int
  | 1 => .array .int
  | 2 => .array .int
  | 3 => .array .int
  | _ => .int
theorem n_Ledger : ∀ a, a < 5 → ∀ b, b < 5 → a ≠ b → (T_Ledger a).2.1 ≠ (T_Ledger b).2.1 := by decide +kernel
theorem t_Ledger_ok : ∀ k, k < 5 → parseFieldDescriptor (T_Ledger k).2.2.1 = some (t_Ledger k) := by decide +kernel
def R_Plans : String := "RodOwes$Plans"
def T_Plans : u_T := fun k => match k with
  | 0 => ("RodOwes$Plans", "chosen", "[I", true)
  | 1 => ("RodOwes$Plans", "size", "I", false)
  | _ => ("RodOwes$Plans", "mean", "I", false)
def t_Plans : Nat → FieldType := fun k => match k with
  | 0 => .array .int
  | 1 => .int
  | _ => .int
theorem n_Plans : ∀ a, a < 3 → ∀ b, b < 3 → a ≠ b → (T_Plans a).2.1 ≠ (T_Plans b).2.1 := by decide +kernel
theorem t_Plans_ok : ∀ k, k < 3 → parseFieldDescriptor (T_Plans k).2.2.1 = some (t_Plans k) := by decide +kernel
def R_Reader : String := "RodOwes$Reader"
def T_Reader : u_T := fun k => match k with
  | 0 => ("RodOwes$Reader", "tape", "LRodOwes$Tape;", true)
  | 1 => ("RodOwes$Reader", "draft", "LRodOwes$County;", true)
  | 2 => ("RodOwes$Reader", "numbers", "[I", true)
  | 3 => ("RodOwes$Reader", "told", "[I", true)
  | 4 => ("RodOwes$Reader", "toldNature", "I", false)
  | 5 => ("RodOwes$Reader", "place", "I", false)
  | _ => ("RodOwes$Reader", "fault", "I", false)
def t_Reader : Nat → FieldType := fun k => match k with
  | 0 => .object "RodOwes$Tape"
  | 1 => .object "RodOwes$County"
  | 2 => .array .int
  | 3 => .array .int
  | 4 => .int
  | 5 => .int
  | _ => .int
theorem n_Reader : ∀ a, a < 7 → ∀ b, b < 7 → a ≠ b → (T_Reader a).2.1 ≠ (T_Reader b).2.1 := by decide +kernel
theorem t_Reader_ok : ∀ k, k < 7 → parseFieldDescriptor (T_Reader k).2.2.1 = some (t_Reader k) := by decide +kernel
def R_Sheet : String := "RodOwes$Sheet"
def T_Sheet : u_T := fun k => match k with
  | 0 => ("RodOwes$Sheet", "row", "[I", true)
  | 1 => ("RodOwes$Sheet", "lane", "I", false)
  | _ => ("RodOwes$Sheet", "size", "I", false)
def t_Sheet : Nat → FieldType := fun k => match k with
  | 0 => .array .int
  | 1 => .int
  | _ => .int
theorem n_Sheet : ∀ a, a < 3 → ∀ b, b < 3 → a ≠ b → (T_Sheet a).2.1 ≠ (T_Sheet b).2.1 := by decide +kernel
theorem t_Sheet_ok : ∀ k, k < 3 → parseFieldDescriptor (T_Sheet k).2.2.1 = some (t_Sheet k) := by decide +kernel
def R_Sights : String := "RodOwes$Sights"
def T_Sights : u_T := fun k => match k with
  | 0 => ("RodOwes$Sights", "cells", "[I", true)
  | 1 => ("RodOwes$Sights", "walkers", "[I", true)
  | 2 => ("RodOwes$Sights", "steps", "[I", true)
  | 3 => ("RodOwes$Sights", "twitched", "[I", true)
  | _ => ("RodOwes$Sights", "size", "I", false)
def t_Sights : Nat → FieldType := fun k => match k with
  | 0 => .array .int
  | 1 => .array .int
  | 2 => .array .int
  | 3 => .array .int
  | _ => .int
theorem n_Sights : ∀ a, a < 5 → ∀ b, b < 5 → a ≠ b → (T_Sights a).2.1 ≠ (T_Sights b).2.1 := by decide +kernel
theorem t_Sights_ok : ∀ k, k < 5 → parseFieldDescriptor (T_Sights k).2.2.1 = some (t_Sights k) := by decide +kernel
def R_Tape : String := "RodOwes$Tape"
def T_Tape : u_T := fun k => match k with
  | 0 => ("RodOwes$Tape", "bytes", "[B", true)
  | 1 => ("RodOwes$Tape", "size", "I", false)
  | 2 => ("RodOwes$Tape", "kind", "I", false)
  | 3 => ("RodOwes$Tape", "from", "I", false)
  | 4 => ("RodOwes$Tape", "to", "I", false)
  | _ => ("RodOwes$Tape", "value", "I", false)
def t_Tape : Nat → FieldType := fun k => match k with
  | 0 => .array .byte
  | 1 => .int
  | 2 => .int
  | 3 => .int
  | 4 => .int
  | _ => .int
theorem n_Tape : ∀ a, a < 6 → ∀ b, b < 6 → a ≠ b → (T_Tape a).2.1 ≠ (T_Tape b).2.1 := by decide +kernel
theorem t_Tape_ok : ∀ k, k < 6 → parseFieldDescriptor (T_Tape k).2.2.1 = some (t_Tape k) := by decide +kernel
def R_Walks : String := "RodOwes$Walks"
def T_Walks : u_T := fun k => match k with
  | 0 => ("RodOwes$Walks", "best", "[[I", true)
  | _ => ("RodOwes$Walks", "path", "[I", true)
def t_Walks : Nat → FieldType := fun k => match k with
  | 0 => .array (.array .int)
  | _ => .array .int
theorem n_Walks : ∀ a, a < 2 → ∀ b, b < 2 → a ≠ b → (T_Walks a).2.1 ≠ (T_Walks b).2.1 := by decide +kernel
theorem t_Walks_ok : ∀ k, k < 2 → parseFieldDescriptor (T_Walks k).2.2.1 = some (t_Walks k) := by decide +kernel
def R_Rod : String := "RodOwes"
def T_Rod : u_T := fun k => match k with
  | 0 => ("RodOwes", "county", "LRodOwes$County;", true)
  | 1 => ("RodOwes", "spare", "LRodOwes$County;", true)
  | 2 => ("RodOwes", "images", "[LRodOwes$County;", true)
  | 3 => ("RodOwes", "kept", "[Z", true)
  | 4 => ("RodOwes", "reader", "LRodOwes$Reader;", true)
  | 5 => ("RodOwes", "tape", "LRodOwes$Tape;", true)
  | 6 => ("RodOwes", "walks", "LRodOwes$Walks;", true)
  | 7 => ("RodOwes", "plans", "LRodOwes$Plans;", true)
  | 8 => ("RodOwes", "allBeds", "LRodOwes$Beds;", true)
  | 9 => ("RodOwes", "sheets", "[LRodOwes$Sheet;", true)
  | _ => ("RodOwes", "tornFault", "I", false)
def t_Rod : Nat → FieldType := fun k => match k with
  | 0 => .object "RodOwes$County"
  | 1 => .object "RodOwes$County"
  | 2 => .array (.object "RodOwes$County")
  | 3 => .array .boolean
  | 4 => .object "RodOwes$Reader"
  | 5 => .object "RodOwes$Tape"
  | 6 => .object "RodOwes$Walks"
  | 7 => .object "RodOwes$Plans"
  | 8 => .object "RodOwes$Beds"
  | 9 => .array (.object "RodOwes$Sheet")
  | _ => .int
theorem n_Rod : ∀ a, a < 11 → ∀ b, b < 11 → a ≠ b → (T_Rod a).2.1 ≠ (T_Rod b).2.1 := by decide +kernel
theorem t_Rod_ok : ∀ k, k < 11 → parseFieldDescriptor (T_Rod k).2.2.1 = some (t_Rod k) := by decide +kernel
def R_Mod : String := "RodOwesModel"
def T_Mod : u_T := fun k => match k with
  | 0 => ("RodOwesModel", "st", "[I", true)
  | 1 => ("RodOwesModel", "isKept", "[Z", true)
  | 2 => ("RodOwesModel", "wide", "I", false)
  | 3 => ("RodOwesModel", "high", "I", false)
  | 4 => ("RodOwesModel", "cost", "I", false)
  | 5 => ("RodOwesModel", "price", "I", false)
  | 6 => ("RodOwesModel", "draft", "[I", true)
  | 7 => ("RodOwesModel", "dWide", "I", false)
  | 8 => ("RodOwesModel", "dHigh", "I", false)
  | 9 => ("RodOwesModel", "dCost", "I", false)
  | 10 => ("RodOwesModel", "dPrice", "I", false)
  | 11 => ("RodOwesModel", "toldLines", "I", false)
  | 12 => ("RodOwesModel", "had", "[I", true)
  | 13 => ("RodOwesModel", "highest", "I", false)
  | 14 => ("RodOwesModel", "tape", "[I", true)
  | 15 => ("RodOwesModel", "taped", "I", false)
  | 16 => ("RodOwesModel", "pos", "I", false)
  | 17 => ("RodOwesModel", "from", "I", false)
  | 18 => ("RodOwesModel", "sort", "I", false)
  | 19 => ("RodOwesModel", "value", "I", false)
  | 20 => ("RodOwesModel", "fault", "I", false)
  | 21 => ("RodOwesModel", "wrongAt", "I", false)
  | 22 => ("RodOwesModel", "shown", "[I", true)
  | 23 => ("RodOwesModel", "row", "[I", true)
  | 24 => ("RodOwesModel", "bestPlan", "[I", true)
  | 25 => ("RodOwesModel", "bestLength", "I", false)
  | 26 => ("RodOwesModel", "bestMean", "J", false)
  | 27 => ("RodOwesModel", "bedRows", "[I", true)
  | 28 => ("RodOwesModel", "bedMany", "I", false)
  | 29 => ("RodOwesModel", "failed", "[I", true)
  | 30 => ("RodOwesModel", "rounds", "I", false)
  | 31 => ("RodOwesModel", "bored", "[I", true)
  | 32 => ("RodOwesModel", "lanes", "[I", true)
  | 33 => ("RodOwesModel", "sizes", "[I", true)
  | 34 => ("RodOwesModel", "cells", "[I", true)
  | 35 => ("RodOwesModel", "torn", "I", false)
  | _ => ("RodOwesModel", "ahead", "[I", true)
def t_Mod : Nat → FieldType := fun k => match k with
  | 0 => .array .int
  | 1 => .array .boolean
  | 2 => .int
  | 3 => .int
  | 4 => .int
  | 5 => .int
  | 6 => .array .int
  | 7 => .int
  | 8 => .int
  | 9 => .int
  | 10 => .int
  | 11 => .int
  | 12 => .array .int
  | 13 => .int
  | 14 => .array .int
  | 15 => .int
  | 16 => .int
  | 17 => .int
  | 18 => .int
  | 19 => .int
  | 20 => .int
  | 21 => .int
  | 22 => .array .int
  | 23 => .array .int
  | 24 => .array .int
  | 25 => .int
  | 26 => .long
  | 27 => .array .int
  | 28 => .int
  | 29 => .array .int
  | 30 => .int
  | 31 => .array .int
  | 32 => .array .int
  | 33 => .array .int
  | 34 => .array .int
  | 35 => .int
  | _ => .array .int
theorem n_Mod : ∀ a, a < 37 → ∀ b, b < 37 → a ≠ b → (T_Mod a).2.1 ≠ (T_Mod b).2.1 := by decide +kernel
theorem t_Mod_ok : ∀ k, k < 37 → parseFieldDescriptor (T_Mod k).2.2.1 = some (t_Mod k) := by decide +kernel
abbrev classes : List vw_C := [(R_Beds, T_Beds, 8), (R_County, T_County, 5), (R_Land, T_Land, 9), (R_Ledger, T_Ledger, 5), (R_Plans, T_Plans, 3), (R_Reader, T_Reader, 7), (R_Sheet, T_Sheet, 3), (R_Sights, T_Sights, 5), (R_Tape, T_Tape, 6), (R_Walks, T_Walks, 2), (R_Rod, T_Rod, 11), (R_Mod, T_Mod, 37)]
abbrev b_Beds_init : ByteArray := prog_2_method_1_code
def y_Beds_init : MethodName := ⟨R_Beds, "<init>", "()V"⟩
abbrev b_Beds_find : ByteArray := prog_2_method_2_code
def y_Beds_find : MethodName := ⟨R_Beds, "find", "(LRodOwes$Land;)V"⟩
abbrev b_Beds_fittingWithWell : ByteArray := prog_2_method_3_code
def y_Beds_fittingWithWell : MethodName := ⟨R_Beds, "fittingWithWell", "(II)I"⟩
abbrev b_Beds_isFitting : ByteArray := prog_2_method_4_code
def y_Beds_isFitting : MethodName := ⟨R_Beds, "isFitting", "(II)Z"⟩
abbrev b_Beds_listRows : ByteArray := prog_2_method_5_code
def y_Beds_listRows : MethodName := ⟨R_Beds, "listRows", "(LRodOwes$Land;)V"⟩
abbrev b_Beds_listRowsAlong : ByteArray := prog_2_method_6_code
def y_Beds_listRowsAlong : MethodName := ⟨R_Beds, "listRowsAlong", "(III)V"⟩
abbrev b_County_init : ByteArray := prog_3_method_1_code
def y_County_init : MethodName := ⟨R_County, "<init>", "()V"⟩
abbrev b_County_reset : ByteArray := prog_3_method_2_code
def y_County_reset : MethodName := ⟨R_County, "reset", "()V"⟩
abbrev b_County_copyFrom : ByteArray := prog_3_method_3_code
def y_County_copyFrom : MethodName := ⟨R_County, "copyFrom", "(LRodOwes$County;)V"⟩
abbrev b_County_twitches : ByteArray := prog_3_method_4_code
def y_County_twitches : MethodName := ⟨R_County, "twitches", "(III)Z"⟩
abbrev b_County_fittingRods : ByteArray := prog_3_method_5_code
def y_County_fittingRods : MethodName := ⟨R_County, "fittingRods", "()I"⟩
abbrev b_County_boreBy : ByteArray := prog_3_method_6_code
def y_County_boreBy : MethodName := ⟨R_County, "boreBy", "(III)I"⟩
abbrev b_Land_init : ByteArray := prog_4_method_1_code
def y_Land_init : MethodName := ⟨R_Land, "<init>", "()V"⟩
abbrev b_Land_reset : ByteArray := prog_4_method_2_code
def y_Land_reset : MethodName := ⟨R_Land, "reset", "()V"⟩
abbrev b_Land_copyFrom : ByteArray := prog_4_method_3_code
def y_Land_copyFrom : MethodName := ⟨R_Land, "copyFrom", "(LRodOwes$Land;)V"⟩
abbrev b_Land_cells : ByteArray := prog_4_method_4_code
def y_Land_cells : MethodName := ⟨R_Land, "cells", "()I"⟩
abbrev b_Land_has : ByteArray := prog_4_method_5_code
def y_Land_has : MethodName := ⟨R_Land, "has", "(I)Z"⟩
abbrev b_Land_allBits : ByteArray := prog_4_method_6_code
def y_Land_allBits : MethodName := ⟨R_Land, "allBits", "()I"⟩
abbrev b_Land_isWell : ByteArray := prog_4_method_7_code
def y_Land_isWell : MethodName := ⟨R_Land, "isWell", "(I)Z"⟩
abbrev b_Land_wellBits : ByteArray := prog_4_method_8_code
def y_Land_wellBits : MethodName := ⟨R_Land, "wellBits", "()I"⟩
abbrev b_Land_wells : ByteArray := prog_4_method_9_code
def y_Land_wells : MethodName := ⟨R_Land, "wells", "()I"⟩
abbrev b_Land_boredBits : ByteArray := prog_4_method_10_code
def y_Land_boredBits : MethodName := ⟨R_Land, "boredBits", "(I)I"⟩
abbrev b_Land_raiseWater : ByteArray := prog_4_method_11_code
def y_Land_raiseWater : MethodName := ⟨R_Land, "raiseWater", "(I)V"⟩
abbrev b_Land_beside : ByteArray := prog_4_method_12_code
def y_Land_beside : MethodName := ⟨R_Land, "beside", "(II)I"⟩
abbrev b_Land_twitches : ByteArray := prog_4_method_13_code
def y_Land_twitches : MethodName := ⟨R_Land, "twitches", "(IIIII)Z"⟩
abbrev b_Land_twitchingRods : ByteArray := prog_4_method_14_code
def y_Land_twitchingRods : MethodName := ⟨R_Land, "twitchingRods", "(III)I"⟩
abbrev b_Ledger_init : ByteArray := prog_5_method_1_code
def y_Ledger_init : MethodName := ⟨R_Ledger, "<init>", "()V"⟩
abbrev b_Ledger_reset : ByteArray := prog_5_method_2_code
def y_Ledger_reset : MethodName := ⟨R_Ledger, "reset", "()V"⟩
abbrev b_Ledger_copyFrom : ByteArray := prog_5_method_3_code
def y_Ledger_copyFrom : MethodName := ⟨R_Ledger, "copyFrom", "(LRodOwes$Ledger;)V"⟩
abbrev b_Ledger_addDebt : ByteArray := prog_5_method_4_code
def y_Ledger_addDebt : MethodName := ⟨R_Ledger, "addDebt", "(III)V"⟩
abbrev b_Ledger_allPurses : ByteArray := prog_5_method_5_code
def y_Ledger_allPurses : MethodName := ⟨R_Ledger, "allPurses", "()I"⟩
abbrev b_Ledger_lacking : ByteArray := prog_5_method_6_code
def y_Ledger_lacking : MethodName := ⟨R_Ledger, "lacking", "(II)I"⟩
abbrev b_Ledger_failingAfter : ByteArray := prog_5_method_7_code
def y_Ledger_failingAfter : MethodName := ⟨R_Ledger, "failingAfter", "(I)I"⟩
abbrev b_Plans_init : ByteArray := prog_6_method_1_code
def y_Plans_init : MethodName := ⟨R_Plans, "<init>", "()V"⟩
abbrev b_Plans_find : ByteArray := prog_6_method_2_code
def y_Plans_find : MethodName := ⟨R_Plans, "find", "(LRodOwes$Land;III)V"⟩
abbrev b_Plans_meanAbove : ByteArray := prog_6_method_3_code
def y_Plans_meanAbove : MethodName := ⟨R_Plans, "meanAbove", "()I"⟩
abbrev b_Plans_meanBelow : ByteArray := prog_6_method_4_code
def y_Plans_meanBelow : MethodName := ⟨R_Plans, "meanBelow", "()I"⟩
abbrev b_Plans_likeliest : ByteArray := prog_6_method_5_code
def y_Plans_likeliest : MethodName := ⟨R_Plans, "likeliest", "(LRodOwes$Land;II)I"⟩
abbrev b_Plans_commonDivisor : ByteArray := prog_6_method_6_code
def y_Plans_commonDivisor : MethodName := ⟨R_Plans, "commonDivisor", "()I"⟩
abbrev b_Reader_init : ByteArray := prog_7_method_1_code
def y_Reader_init : MethodName := ⟨R_Reader, "<init>", "()V"⟩
abbrev b_Reader_readAll : ByteArray := prog_7_method_2_code
def y_Reader_readAll : MethodName := ⟨R_Reader, "readAll", "()I"⟩
abbrev b_Reader_tellsBeyondCounty : ByteArray := prog_7_method_3_code
def y_Reader_tellsBeyondCounty : MethodName := ⟨R_Reader, "tellsBeyondCounty", "()Z"⟩
abbrev b_Reader_isRefused : ByteArray := prog_7_method_4_code
def y_Reader_isRefused : MethodName := ⟨R_Reader, "isRefused", "(II)Z"⟩
abbrev b_Reader_isKind : ByteArray := prog_7_method_5_code
def y_Reader_isKind : MethodName := ⟨R_Reader, "isKind", "(I)Z"⟩
abbrev b_Reader_readLine : ByteArray := prog_7_method_6_code
def y_Reader_readLine : MethodName := ⟨R_Reader, "readLine", "()Z"⟩
abbrev b_Reader_readNature : ByteArray := prog_7_method_7_code
def y_Reader_readNature : MethodName := ⟨R_Reader, "readNature", "()Z"⟩
abbrev b_Reader_readNumber : ByteArray := prog_7_method_8_code
def y_Reader_readNumber : MethodName := ⟨R_Reader, "readNumber", "(II)Z"⟩
abbrev b_Reader_isOnceOnly : ByteArray := prog_7_method_9_code
def y_Reader_isOnceOnly : MethodName := ⟨R_Reader, "isOnceOnly", "(I)Z"⟩
abbrev b_Reader_isOfOne : ByteArray := prog_7_method_10_code
def y_Reader_isOfOne : MethodName := ⟨R_Reader, "isOfOne", "(I)Z"⟩
abbrev b_Reader_tellLine : ByteArray := prog_7_method_11_code
def y_Reader_tellLine : MethodName := ⟨R_Reader, "tellLine", "(I)V"⟩
abbrev b_Reader_lineBegun : ByteArray := prog_7_method_12_code
def y_Reader_lineBegun : MethodName := ⟨R_Reader, "lineBegun", "()I"⟩
abbrev b_Reader_natureNamed : ByteArray := prog_7_method_13_code
def y_Reader_natureNamed : MethodName := ⟨R_Reader, "natureNamed", "()I"⟩
abbrev b_Reader_lineName : ByteArray := prog_7_method_14_code
def y_Reader_lineName : MethodName := ⟨R_Reader, "lineName", "(I)Ljava/lang/String;"⟩
abbrev b_Reader_natureName : ByteArray := prog_7_method_15_code
def y_Reader_natureName : MethodName := ⟨R_Reader, "natureName", "(I)Ljava/lang/String;"⟩
abbrev b_Sheet_init : ByteArray := prog_8_method_1_code
def y_Sheet_init : MethodName := ⟨R_Sheet, "<init>", "()V"⟩
abbrev b_Sheet_makeNew : ByteArray := prog_8_method_2_code
def y_Sheet_makeNew : MethodName := ⟨R_Sheet, "makeNew", "(II)V"⟩
abbrev b_Sheet_put : ByteArray := prog_8_method_3_code
def y_Sheet_put : MethodName := ⟨R_Sheet, "put", "(II)V"⟩
abbrev b_Sheet_wholeBores : ByteArray := prog_8_method_4_code
def y_Sheet_wholeBores : MethodName := ⟨R_Sheet, "wholeBores", "(III)I"⟩
abbrev b_Sheet_readFault : ByteArray := prog_8_method_5_code
def y_Sheet_readFault : MethodName := ⟨R_Sheet, "readFault", "(III)I"⟩
abbrev b_Sights_init : ByteArray := prog_9_method_1_code
def y_Sights_init : MethodName := ⟨R_Sights, "<init>", "()V"⟩
abbrev b_Sights_copyFrom : ByteArray := prog_9_method_2_code
def y_Sights_copyFrom : MethodName := ⟨R_Sights, "copyFrom", "(LRodOwes$Sights;)V"⟩
abbrev b_Sights_add : ByteArray := prog_9_method_3_code
def y_Sights_add : MethodName := ⟨R_Sights, "add", "(IIII)V"⟩
abbrev b_Tape_init : ByteArray := prog_10_method_1_code
def y_Tape_init : MethodName := ⟨R_Tape, "<init>", "()V"⟩
abbrev b_Tape_rewind : ByteArray := prog_10_method_2_code
def y_Tape_rewind : MethodName := ⟨R_Tape, "rewind", "()V"⟩
abbrev b_Tape_advance : ByteArray := prog_10_method_3_code
def y_Tape_advance : MethodName := ⟨R_Tape, "advance", "()V"⟩
abbrev b_Tape_isName : ByteArray := prog_10_method_4_code
def y_Tape_isName : MethodName := ⟨R_Tape, "isName", "(Ljava/lang/String;)Z"⟩
abbrev b_Tape_passLetters : ByteArray := prog_10_method_5_code
def y_Tape_passLetters : MethodName := ⟨R_Tape, "passLetters", "()V"⟩
abbrev b_Tape_passFigures : ByteArray := prog_10_method_6_code
def y_Tape_passFigures : MethodName := ⟨R_Tape, "passFigures", "()V"⟩
abbrev b_Tape_isLetter : ByteArray := prog_10_method_7_code
def y_Tape_isLetter : MethodName := ⟨R_Tape, "isLetter", "(I)Z"⟩
abbrev b_Tape_isFigure : ByteArray := prog_10_method_8_code
def y_Tape_isFigure : MethodName := ⟨R_Tape, "isFigure", "(I)Z"⟩
abbrev b_Walks_init : ByteArray := prog_11_method_1_code
def y_Walks_init : MethodName := ⟨R_Walks, "<init>", "()V"⟩
abbrev b_Walks_find : ByteArray := prog_11_method_2_code
def y_Walks_find : MethodName := ⟨R_Walks, "find", "(LRodOwes$County;III)V"⟩
abbrev b_Walks_most : ByteArray := prog_11_method_3_code
def y_Walks_most : MethodName := ⟨R_Walks, "most", "(I)I"⟩
abbrev b_Walks_shownIn : ByteArray := prog_11_method_4_code
def y_Walks_shownIn : MethodName := ⟨R_Walks, "shownIn", "(LRodOwes$County;III)I"⟩
abbrev b_Walks_bestBeside : ByteArray := prog_11_method_5_code
def y_Walks_bestBeside : MethodName := ⟨R_Walks, "bestBeside", "(LRodOwes$Land;II)I"⟩
abbrev b_Rod_init : ByteArray := prog_1_method_1_code
def y_Rod_init : MethodName := ⟨R_Rod, "<init>", "()V"⟩
abbrev b_Rod_feed : ByteArray := prog_1_method_2_code
def y_Rod_feed : MethodName := ⟨R_Rod, "feed", "(I)I"⟩
abbrev b_Rod_end : ByteArray := prog_1_method_3_code
def y_Rod_end : MethodName := ⟨R_Rod, "end", "(I)I"⟩
abbrev b_Rod_text : ByteArray := prog_1_method_4_code
def y_Rod_text : MethodName := ⟨R_Rod, "text", "()I"⟩
abbrev b_Rod_fault : ByteArray := prog_1_method_5_code
def y_Rod_fault : MethodName := ⟨R_Rod, "fault", "()I"⟩
abbrev b_Rod_rule : ByteArray := prog_1_method_6_code
def y_Rod_rule : MethodName := ⟨R_Rod, "rule", "(I)I"⟩
abbrev b_Rod_cell : ByteArray := prog_1_method_7_code
def y_Rod_cell : MethodName := ⟨R_Rod, "cell", "(II)I"⟩
abbrev b_Rod_purse : ByteArray := prog_1_method_8_code
def y_Rod_purse : MethodName := ⟨R_Rod, "purse", "(I)I"⟩
abbrev b_Rod_wet : ByteArray := prog_1_method_9_code
def y_Rod_wet : MethodName := ⟨R_Rod, "wet", "(II)I"⟩
abbrev b_Rod_iron : ByteArray := prog_1_method_10_code
def y_Rod_iron : MethodName := ⟨R_Rod, "iron", "(IZ)I"⟩
abbrev b_Rod_odd : ByteArray := prog_1_method_11_code
def y_Rod_odd : MethodName := ⟨R_Rod, "odd", "(II)I"⟩
abbrev b_Rod_claim : ByteArray := prog_1_method_12_code
def y_Rod_claim : MethodName := ⟨R_Rod, "claim", "(II)I"⟩
abbrev b_Rod_fund : ByteArray := prog_1_method_13_code
def y_Rod_fund : MethodName := ⟨R_Rod, "fund", "(II)I"⟩
abbrev b_Rod_cut : ByteArray := prog_1_method_14_code
def y_Rod_cut : MethodName := ⟨R_Rod, "cut", "(II)I"⟩
abbrev b_Rod_owe : ByteArray := prog_1_method_15_code
def y_Rod_owe : MethodName := ⟨R_Rod, "owe", "(III)I"⟩
abbrev b_Rod_pay : ByteArray := prog_1_method_16_code
def y_Rod_pay : MethodName := ⟨R_Rod, "pay", "(I)I"⟩
abbrev b_Rod_rain : ByteArray := prog_1_method_17_code
def y_Rod_rain : MethodName := ⟨R_Rod, "rain", "(I)I"⟩
abbrev b_Rod_twitch : ByteArray := prog_1_method_18_code
def y_Rod_twitch : MethodName := ⟨R_Rod, "twitch", "(III)I"⟩
abbrev b_Rod_see : ByteArray := prog_1_method_19_code
def y_Rod_see : MethodName := ⟨R_Rod, "see", "(IIIZ)I"⟩
abbrev b_Rod_forget : ByteArray := prog_1_method_20_code
def y_Rod_forget : MethodName := ⟨R_Rod, "forget", "(I)I"⟩
abbrev b_Rod_natures : ByteArray := prog_1_method_21_code
def y_Rod_natures : MethodName := ⟨R_Rod, "natures", "()I"⟩
abbrev b_Rod_reaches : ByteArray := prog_1_method_22_code
def y_Rod_reaches : MethodName := ⟨R_Rod, "reaches", "(I)I"⟩
abbrev b_Rod_test : ByteArray := prog_1_method_23_code
def y_Rod_test : MethodName := ⟨R_Rod, "test", "(II)I"⟩
abbrev b_Rod_show : ByteArray := prog_1_method_24_code
def y_Rod_show : MethodName := ⟨R_Rod, "show", "(IIII)I"⟩
abbrev b_Rod_bore : ByteArray := prog_1_method_25_code
def y_Rod_bore : MethodName := ⟨R_Rod, "bore", "(III)I"⟩
abbrev b_Rod_plan : ByteArray := prog_1_method_26_code
def y_Rod_plan : MethodName := ⟨R_Rod, "plan", "(IIII)J"⟩
abbrev b_Rod_beds : ByteArray := prog_1_method_27_code
def y_Rod_beds : MethodName := ⟨R_Rod, "beds", "(I)I"⟩
abbrev b_Rod_next : ByteArray := prog_1_method_28_code
def y_Rod_next : MethodName := ⟨R_Rod, "next", "(II)I"⟩
abbrev b_Rod_crash : ByteArray := prog_1_method_29_code
def y_Rod_crash : MethodName := ⟨R_Rod, "crash", "(I)I"⟩
abbrev b_Rod_save : ByteArray := prog_1_method_30_code
def y_Rod_save : MethodName := ⟨R_Rod, "save", "(I)I"⟩
abbrev b_Rod_luck : ByteArray := prog_1_method_31_code
def y_Rod_luck : MethodName := ⟨R_Rod, "luck", "(II)I"⟩
abbrev b_Rod_keep : ByteArray := prog_1_method_32_code
def y_Rod_keep : MethodName := ⟨R_Rod, "keep", "(I)I"⟩
abbrev b_Rod_back : ByteArray := prog_1_method_33_code
def y_Rod_back : MethodName := ⟨R_Rod, "back", "(I)I"⟩
abbrev b_Rod_sheet : ByteArray := prog_1_method_34_code
def y_Rod_sheet : MethodName := ⟨R_Rod, "sheet", "(III)I"⟩
abbrev b_Rod_lay : ByteArray := prog_1_method_35_code
def y_Rod_lay : MethodName := ⟨R_Rod, "lay", "(III)I"⟩
abbrev b_Rod_read : ByteArray := prog_1_method_36_code
def y_Rod_read : MethodName := ⟨R_Rod, "read", "(IIII)I"⟩
abbrev b_Rod_torn : ByteArray := prog_1_method_37_code
def y_Rod_torn : MethodName := ⟨R_Rod, "torn", "()I"⟩
abbrev b_Rod_count : ByteArray := prog_1_method_38_code
def y_Rod_count : MethodName := ⟨R_Rod, "count", "(I)I"⟩
abbrev b_Rod_oneIf : ByteArray := prog_1_method_39_code
def y_Rod_oneIf : MethodName := ⟨R_Rod, "oneIf", "(Z)I"⟩
abbrev b_Rod_isOwner : ByteArray := prog_1_method_40_code
def y_Rod_isOwner : MethodName := ⟨R_Rod, "isOwner", "(I)Z"⟩
abbrev b_Rod_isDepth : ByteArray := prog_1_method_41_code
def y_Rod_isDepth : MethodName := ⟨R_Rod, "isDepth", "(I)Z"⟩
abbrev b_Rod_isNature : ByteArray := prog_1_method_42_code
def y_Rod_isNature : MethodName := ⟨R_Rod, "isNature", "(I)Z"⟩
abbrev b_Rod_isSheet : ByteArray := prog_1_method_43_code
def y_Rod_isSheet : MethodName := ⟨R_Rod, "isSheet", "(I)Z"⟩
abbrev b_Rod_isLane : ByteArray := prog_1_method_44_code
def y_Rod_isLane : MethodName := ⟨R_Rod, "isLane", "(I)Z"⟩
abbrev b_Rod_isSight : ByteArray := prog_1_method_45_code
def y_Rod_isSight : MethodName := ⟨R_Rod, "isSight", "(III)Z"⟩
abbrev b_Rod_natureOf : ByteArray := prog_1_method_46_code
def y_Rod_natureOf : MethodName := ⟨R_Rod, "natureOf", "(I)I"⟩
abbrev b_Rod_reachOf : ByteArray := prog_1_method_47_code
def y_Rod_reachOf : MethodName := ⟨R_Rod, "reachOf", "(I)I"⟩
abbrev b_Rod_reachBits : ByteArray := prog_1_method_48_code
def y_Rod_reachBits : MethodName := ⟨R_Rod, "reachBits", "(I)I"⟩
abbrev b_Rod_stirred : ByteArray := prog_1_method_49_code
def y_Rod_stirred : MethodName := ⟨R_Rod, "stirred", "(I)I"⟩
abbrev b_Rod_drawnBits : ByteArray := prog_1_method_50_code
def y_Rod_drawnBits : MethodName := ⟨R_Rod, "drawnBits", "(I)I"⟩
abbrev b_Mod_init : ByteArray := prog_13_method_1_code
def y_Mod_init : MethodName := ⟨R_Mod, "<init>", "()V"⟩
abbrev b_Mod_in : ByteArray := prog_13_method_3_code
def y_Mod_in : MethodName := ⟨R_Mod, "in", "(JJJ)Z"⟩
abbrev b_Mod_flag : ByteArray := prog_13_method_4_code
def y_Mod_flag : MethodName := ⟨R_Mod, "flag", "(Z)I"⟩
abbrev b_Mod_firstDraft : ByteArray := prog_13_method_5_code
def y_Mod_firstDraft : MethodName := ⟨R_Mod, "firstDraft", "()V"⟩
abbrev b_Mod_keepDraft : ByteArray := prog_13_method_6_code
def y_Mod_keepDraft : MethodName := ⟨R_Mod, "keepDraft", "()V"⟩
abbrev b_Mod_feed : ByteArray := prog_13_method_7_code
def y_Mod_feed : MethodName := ⟨R_Mod, "feed", "(I)I"⟩
abbrev b_Mod_end : ByteArray := prog_13_method_8_code
def y_Mod_end : MethodName := ⟨R_Mod, "end", "(I)I"⟩
abbrev b_Mod_needs : ByteArray := prog_13_method_9_code
def y_Mod_needs : MethodName := ⟨R_Mod, "needs", "(ZI)V"⟩
abbrev b_Mod_look : ByteArray := prog_13_method_10_code
def y_Mod_look : MethodName := ⟨R_Mod, "look", "(I)I"⟩
abbrev b_Mod_is : ByteArray := prog_13_method_11_code
def y_Mod_is : MethodName := ⟨R_Mod, "is", "(IIII)Z"⟩
abbrev b_Mod_ends : ByteArray := prog_13_method_12_code
def y_Mod_ends : MethodName := ⟨R_Mod, "ends", "(III)Z"⟩
abbrev b_Mod_ruleLine : ByteArray := prog_13_method_13_code
def y_Mod_ruleLine : MethodName := ⟨R_Mod, "ruleLine", "()I"⟩
abbrev b_Mod_lineNow : ByteArray := prog_13_method_14_code
def y_Mod_lineNow : MethodName := ⟨R_Mod, "lineNow", "()I"⟩
abbrev b_Mod_natureNow : ByteArray := prog_13_method_15_code
def y_Mod_natureNow : MethodName := ⟨R_Mod, "natureNow", "()I"⟩
abbrev b_Mod_next : ByteArray := prog_13_method_16_code
def y_Mod_next : MethodName := ⟨R_Mod, "next", "()V"⟩
abbrev b_Mod_looked : ByteArray := prog_13_method_17_code
def y_Mod_looked : MethodName := ⟨R_Mod, "looked", "(II)I"⟩
abbrev b_Mod_readNumber : ByteArray := prog_13_method_18_code
def y_Mod_readNumber : MethodName := ⟨R_Mod, "readNumber", "(II)I"⟩
abbrev b_Mod_readFresh : ByteArray := prog_13_method_19_code
def y_Mod_readFresh : MethodName := ⟨R_Mod, "readFresh", "(II)I"⟩
abbrev b_Mod_readRod : ByteArray := prog_13_method_20_code
def y_Mod_readRod : MethodName := ⟨R_Mod, "readRod", "()V"⟩
abbrev b_Mod_readDebt : ByteArray := prog_13_method_21_code
def y_Mod_readDebt : MethodName := ⟨R_Mod, "readDebt", "()V"⟩
abbrev b_Mod_readCellOf : ByteArray := prog_13_method_22_code
def y_Mod_readCellOf : MethodName := ⟨R_Mod, "readCellOf", "(I)V"⟩
abbrev b_Mod_readLineOf : ByteArray := prog_13_method_23_code
def y_Mod_readLineOf : MethodName := ⟨R_Mod, "readLineOf", "(I)V"⟩
abbrev b_Mod_readLine : ByteArray := prog_13_method_24_code
def y_Mod_readLine : MethodName := ⟨R_Mod, "readLine", "()V"⟩
abbrev b_Mod_text : ByteArray := prog_13_method_25_code
def y_Mod_text : MethodName := ⟨R_Mod, "text", "()I"⟩
abbrev b_Mod_fault : ByteArray := prog_13_method_26_code
def y_Mod_fault : MethodName := ⟨R_Mod, "fault", "()I"⟩
abbrev b_Mod_cellMany : ByteArray := prog_13_method_27_code
def y_Mod_cellMany : MethodName := ⟨R_Mod, "cellMany", "()I"⟩
abbrev b_Mod_isCell : ByteArray := prog_13_method_28_code
def y_Mod_isCell : MethodName := ⟨R_Mod, "isCell", "(I)Z"⟩
abbrev b_Mod_isOwner : ByteArray := prog_13_method_29_code
def y_Mod_isOwner : MethodName := ⟨R_Mod, "isOwner", "(I)Z"⟩
abbrev b_Mod_isWellBy : ByteArray := prog_13_method_30_code
def y_Mod_isWellBy : MethodName := ⟨R_Mod, "isWellBy", "(II)Z"⟩
abbrev b_Mod_isWell : ByteArray := prog_13_method_31_code
def y_Mod_isWell : MethodName := ⟨R_Mod, "isWell", "(I)Z"⟩
abbrev b_Mod_wells : ByteArray := prog_13_method_32_code
def y_Mod_wells : MethodName := ⟨R_Mod, "wells", "()I"⟩
abbrev b_Mod_rule : ByteArray := prog_13_method_33_code
def y_Mod_rule : MethodName := ⟨R_Mod, "rule", "(I)I"⟩
abbrev b_Mod_cell : ByteArray := prog_13_method_34_code
def y_Mod_cell : MethodName := ⟨R_Mod, "cell", "(II)I"⟩
abbrev b_Mod_purse : ByteArray := prog_13_method_35_code
def y_Mod_purse : MethodName := ⟨R_Mod, "purse", "(I)I"⟩
abbrev b_Mod_becomes : ByteArray := prog_13_method_36_code
def y_Mod_becomes : MethodName := ⟨R_Mod, "becomes", "(II)I"⟩
abbrev b_Mod_wet : ByteArray := prog_13_method_37_code
def y_Mod_wet : MethodName := ⟨R_Mod, "wet", "(II)I"⟩
abbrev b_Mod_iron : ByteArray := prog_13_method_38_code
def y_Mod_iron : MethodName := ⟨R_Mod, "iron", "(IZ)I"⟩
abbrev b_Mod_odd : ByteArray := prog_13_method_39_code
def y_Mod_odd : MethodName := ⟨R_Mod, "odd", "(II)I"⟩
abbrev b_Mod_claim : ByteArray := prog_13_method_40_code
def y_Mod_claim : MethodName := ⟨R_Mod, "claim", "(II)I"⟩
abbrev b_Mod_fund : ByteArray := prog_13_method_41_code
def y_Mod_fund : MethodName := ⟨R_Mod, "fund", "(II)I"⟩
abbrev b_Mod_cut : ByteArray := prog_13_method_42_code
def y_Mod_cut : MethodName := ⟨R_Mod, "cut", "(II)I"⟩
abbrev b_Mod_owe : ByteArray := prog_13_method_43_code
def y_Mod_owe : MethodName := ⟨R_Mod, "owe", "(III)I"⟩
abbrev b_Mod_pay : ByteArray := prog_13_method_44_code
def y_Mod_pay : MethodName := ⟨R_Mod, "pay", "(I)I"⟩
abbrev b_Mod_rain : ByteArray := prog_13_method_45_code
def y_Mod_rain : MethodName := ⟨R_Mod, "rain", "(I)I"⟩
abbrev b_Mod_doesTwitch : ByteArray := prog_13_method_46_code
def y_Mod_doesTwitch : MethodName := ⟨R_Mod, "doesTwitch", "(IIIII)Z"⟩
abbrev b_Mod_isSeen : ByteArray := prog_13_method_47_code
def y_Mod_isSeen : MethodName := ⟨R_Mod, "isSeen", "(III)Z"⟩
abbrev b_Mod_twitch : ByteArray := prog_13_method_48_code
def y_Mod_twitch : MethodName := ⟨R_Mod, "twitch", "(III)I"⟩
abbrev b_Mod_see : ByteArray := prog_13_method_49_code
def y_Mod_see : MethodName := ⟨R_Mod, "see", "(IIIZ)I"⟩
abbrev b_Mod_forget : ByteArray := prog_13_method_50_code
def y_Mod_forget : MethodName := ⟨R_Mod, "forget", "(I)I"⟩
abbrev b_Mod_doesFit : ByteArray := prog_13_method_51_code
def y_Mod_doesFit : MethodName := ⟨R_Mod, "doesFit", "(II)Z"⟩
abbrev b_Mod_reachesOf : ByteArray := prog_13_method_52_code
def y_Mod_reachesOf : MethodName := ⟨R_Mod, "reachesOf", "(I)I"⟩
abbrev b_Mod_natures : ByteArray := prog_13_method_53_code
def y_Mod_natures : MethodName := ⟨R_Mod, "natures", "()I"⟩
abbrev b_Mod_reaches : ByteArray := prog_13_method_54_code
def y_Mod_reaches : MethodName := ⟨R_Mod, "reaches", "(I)I"⟩
abbrev b_Mod_rodsBy : ByteArray := prog_13_method_55_code
def y_Mod_rodsBy : MethodName := ⟨R_Mod, "rodsBy", "(IIIZ)I"⟩
abbrev b_Mod_test : ByteArray := prog_13_method_56_code
def y_Mod_test : MethodName := ⟨R_Mod, "test", "(II)I"⟩
abbrev b_Mod_beside : ByteArray := prog_13_method_57_code
def y_Mod_beside : MethodName := ⟨R_Mod, "beside", "(II)I"⟩
abbrev b_Mod_showsIn : ByteArray := prog_13_method_58_code
def y_Mod_showsIn : MethodName := ⟨R_Mod, "showsIn", "(III)I"⟩
abbrev b_Mod_bestBeside : ByteArray := prog_13_method_59_code
def y_Mod_bestBeside : MethodName := ⟨R_Mod, "bestBeside", "(II)I"⟩
abbrev b_Mod_findShown : ByteArray := prog_13_method_60_code
def y_Mod_findShown : MethodName := ⟨R_Mod, "findShown", "(II)V"⟩
abbrev b_Mod_show : ByteArray := prog_13_method_61_code
def y_Mod_show : MethodName := ⟨R_Mod, "show", "(IIII)I"⟩
abbrev b_Mod_bore : ByteArray := prog_13_method_62_code
def y_Mod_bore : MethodName := ⟨R_Mod, "bore", "(III)I"⟩
abbrev b_Mod_meanOf : ByteArray := prog_13_method_63_code
def y_Mod_meanOf : MethodName := ⟨R_Mod, "meanOf", "(II)J"⟩
abbrev b_Mod_isFree : ByteArray := prog_13_method_64_code
def y_Mod_isFree : MethodName := ⟨R_Mod, "isFree", "(III)Z"⟩
abbrev b_Mod_plansOf : ByteArray := prog_13_method_65_code
def y_Mod_plansOf : MethodName := ⟨R_Mod, "plansOf", "(III)V"⟩
abbrev b_Mod_common : ByteArray := prog_13_method_66_code
def y_Mod_common : MethodName := ⟨R_Mod, "common", "(JJ)J"⟩
abbrev b_Mod_plan : ByteArray := prog_13_method_67_code
def y_Mod_plan : MethodName := ⟨R_Mod, "plan", "(IIII)J"⟩
abbrev b_Mod_addBed : ByteArray := prog_13_method_68_code
def y_Mod_addBed : MethodName := ⟨R_Mod, "addBed", "(III)V"⟩
abbrev b_Mod_findBeds : ByteArray := prog_13_method_69_code
def y_Mod_findBeds : MethodName := ⟨R_Mod, "findBeds", "()V"⟩
abbrev b_Mod_doesBedFit : ByteArray := prog_13_method_70_code
def y_Mod_doesBedFit : MethodName := ⟨R_Mod, "doesBedFit", "(II)Z"⟩
abbrev b_Mod_beds : ByteArray := prog_13_method_71_code
def y_Mod_beds : MethodName := ⟨R_Mod, "beds", "(I)I"⟩
abbrev b_Mod_bedsBy : ByteArray := prog_13_method_72_code
def y_Mod_bedsBy : MethodName := ⟨R_Mod, "bedsBy", "(IIZ)I"⟩
abbrev b_Mod_next_ : ByteArray := prog_13_method_73_code
def y_Mod_next_ : MethodName := ⟨R_Mod, "next", "(II)I"⟩
abbrev b_Mod_fails : ByteArray := prog_13_method_74_code
def y_Mod_fails : MethodName := ⟨R_Mod, "fails", "(II)Z"⟩
abbrev b_Mod_findCrash : ByteArray := prog_13_method_75_code
def y_Mod_findCrash : MethodName := ⟨R_Mod, "findCrash", "(II)I"⟩
abbrev b_Mod_crash : ByteArray := prog_13_method_76_code
def y_Mod_crash : MethodName := ⟨R_Mod, "crash", "(I)I"⟩
abbrev b_Mod_save : ByteArray := prog_13_method_77_code
def y_Mod_save : MethodName := ⟨R_Mod, "save", "(I)I"⟩
abbrev b_Mod_luck : ByteArray := prog_13_method_78_code
def y_Mod_luck : MethodName := ⟨R_Mod, "luck", "(II)I"⟩
abbrev b_Mod_copies : ByteArray := prog_13_method_79_code
def y_Mod_copies : MethodName := ⟨R_Mod, "copies", "(II)V"⟩
abbrev b_Mod_keep : ByteArray := prog_13_method_80_code
def y_Mod_keep : MethodName := ⟨R_Mod, "keep", "(I)I"⟩
abbrev b_Mod_back : ByteArray := prog_13_method_81_code
def y_Mod_back : MethodName := ⟨R_Mod, "back", "(I)I"⟩
abbrev b_Mod_isSheet : ByteArray := prog_13_method_82_code
def y_Mod_isSheet : MethodName := ⟨R_Mod, "isSheet", "(II)Z"⟩
abbrev b_Mod_sheet : ByteArray := prog_13_method_83_code
def y_Mod_sheet : MethodName := ⟨R_Mod, "sheet", "(III)I"⟩
abbrev b_Mod_lay : ByteArray := prog_13_method_84_code
def y_Mod_lay : MethodName := ⟨R_Mod, "lay", "(III)I"⟩
abbrev b_Mod_read : ByteArray := prog_13_method_85_code
def y_Mod_read : MethodName := ⟨R_Mod, "read", "(IIII)I"⟩
abbrev b_Mod_torn : ByteArray := prog_13_method_86_code
def y_Mod_torn : MethodName := ⟨R_Mod, "torn", "()I"⟩
abbrev b_Mod_count : ByteArray := prog_13_method_87_code
def y_Mod_count : MethodName := ⟨R_Mod, "count", "(I)I"⟩
/-- the words that every method takes: those of the tables that stay -/
def vv_G : List Cond := lw_tbl.filter goodWord
theorem vv_Gin {w : Cond} (h : w ∈ lw_tbl) (g : goodWord w = true) : w ∈ vv_G := List.mem_filter.mpr ⟨h, g⟩
theorem vv_GG : GoodIn vv_G vv_G := fun w h => ⟨h, good_of_word (List.mem_filter.mp h).2⟩
theorem mem_by {L : List Cond} {ix : List Nat} (h : ix.map (fun i => tables_1[i]?) = L.map some) (g : ∀ w ∈ L, goodWord w = true) : ∀ w ∈ L, w ∈ vv_G := fun w hw => by
  have q : some w ∈ L.map some := List.mem_map.mpr ⟨w, hw, rfl⟩
  rw [← h] at q
  obtain ⟨i, _, e⟩ := List.mem_map.mp q
  exact vv_Gin (List.mem_append_right _ (List.mem_of_getElem? e)) (g w hw)
theorem i_Beds : ∀ w ∈ u_ws R_Beds T_Beds 8, w ∈ vv_G := mem_by (ix := [316, 318, 320, 322, 324, 326, 328, 330]) (by decide +kernel) (by decide +kernel)
theorem i_County : ∀ w ∈ u_ws R_County T_County 5, w ∈ vv_G := mem_by (ix := [186, 188, 190, 192, 194]) (by decide +kernel) (by decide +kernel)
theorem i_Land : ∀ w ∈ u_ws R_Land T_Land 9, w ∈ vv_G := mem_by (ix := [80, 82, 84, 86, 88, 90, 92, 94, 96]) (by decide +kernel) (by decide +kernel)
theorem i_Ledger : ∀ w ∈ u_ws R_Ledger T_Ledger 5, w ∈ vv_G := mem_by (ix := [116, 118, 120, 122, 124]) (by decide +kernel) (by decide +kernel)
theorem i_Plans : ∀ w ∈ u_ws R_Plans T_Plans 3, w ∈ vv_G := mem_by (ix := [291, 293, 295]) (by decide +kernel) (by decide +kernel)
theorem i_Reader : ∀ w ∈ u_ws R_Reader T_Reader 7, w ∈ vv_G := mem_by (ix := [249, 251, 253, 255, 257, 259, 261]) (by decide +kernel) (by decide +kernel)
theorem i_Sheet : ∀ w ∈ u_ws R_Sheet T_Sheet 3, w ∈ vv_G := mem_by (ix := [346, 348, 350]) (by decide +kernel) (by decide +kernel)
theorem i_Sights : ∀ w ∈ u_ws R_Sights T_Sights 5, w ∈ vv_G := mem_by (ix := [144, 146, 148, 150, 152]) (by decide +kernel) (by decide +kernel)
theorem i_Tape : ∀ w ∈ u_ws R_Tape T_Tape 6, w ∈ vv_G := mem_by (ix := [222, 224, 226, 228, 230, 232]) (by decide +kernel) (by decide +kernel)
theorem i_Walks : ∀ w ∈ u_ws R_Walks T_Walks 2, w ∈ vv_G := mem_by (ix := [275, 277]) (by decide +kernel) (by decide +kernel)
theorem i_Rod : ∀ w ∈ u_ws R_Rod T_Rod 11, w ∈ vv_G := mem_by (ix := [364, 366, 368, 370, 372, 374, 376, 378, 380, 382, 384]) (by decide +kernel) (by decide +kernel)
theorem i_Mod : ∀ w ∈ u_ws R_Mod T_Mod 37, w ∈ vv_G := mem_by (ix := [980, 982, 984, 986, 988, 990, 992, 994, 996, 998, 1000, 1002, 1004, 1006, 1008, 1010, 1012, 1014, 1016, 1018, 1020, 1022, 1024, 1026, 1028, 1030, 1032, 1034, 1036, 1038, 1040, 1042, 1044, 1046, 1048, 1050, 1052]) (by decide +kernel) (by decide +kernel)
end
section
/-! decode by the bytes at a place -/
def dcb (code : ByteArray) (pc n : Nat) : List Nat := ((code.data.toList.drop pc).take n).map UInt8.toNat
def dcA (code : ByteArray) (p n : Nat) : Prop := ∃ h : p < code.size, (code[p]'h).toNat = n
theorem dcb_at {code : ByteArray} {pc n i x : Nat} {l : List Nat} (h : dcb code pc n = l) (hi : l[i]? = some x) : dcA code (pc + i) x := by
  rw [← h] at hi
  unfold dcb at hi
  rw [List.getElem?_map] at hi
  obtain ⟨y, hy, e⟩ := Option.map_eq_some_iff.mp hi
  have hy2 : code.data.toList[pc + i]? = some y := by
    rw [List.getElem?_take] at hy
    split at hy
    · rw [List.getElem?_drop] at hy; exact hy
    · cases hy
  obtain ⟨h1, h2⟩ := List.getElem?_eq_some_iff.mp hy2
  refine ⟨h1, ?_⟩
  show (code.data.toList[pc + i]'h1).toNat = x
  rw [h2, e]
theorem dc_u1 {code : ByteArray} {p n : Nat} (h : dcA code p n) : (Reader.u1 : Decoder Nat) code p = .ok (n, p + 1) := by
  obtain ⟨h1, h2⟩ := h
  have e : (Reader.u1 : Decoder Nat) code p = (dite (p < code.size) (fun h => (fun (_ : ByteArray) (_ : Nat) => (Except.ok ((code[p]'h).toNat, p + 1) : Except DecodeError (Nat × Nat)))) (fun _ => fun _ _ => Except.error (HasTruncated.truncated p))) code p := rfl
  rw [e, dif_pos h1, h2]
theorem dc_u2 {code : ByteArray} {p a b : Nat} (ha : dcA code p a) (hb : dcA code (p + 1) b) : (Reader.u2 : Decoder Nat) code p = .ok (a * 256 + b, p + 2) := by
  show Except.bind ((Reader.u1 : Decoder Nat) code p) _ = _
  rw [dc_u1 ha]
  show Except.bind ((Reader.u1 : Decoder Nat) code (p + 1)) _ = _
  rw [dc_u1 hb]
  rfl
theorem dc_of {code : ByteArray} {pc n : Nat} {I : Instr} (e : Decoder.instr pc code pc = .ok (I, pc + n)) : decode code pc = .ok (I, n) := by
  show Except.bind (Decoder.instr pc code pc) _ = _
  rw [e]
  show Except.ok (I, pc + n - pc) = _
  rw [Nat.add_sub_cancel_left]
theorem dcc {code : ByteArray} {a r n pc : Nat} {c : List UInt8} {l : List Nat} (hc : (code.data.toList.drop a).take 70 = c) (hp : a + r = pc) (hn : r + n ≤ 70) (h : ((c.drop r).take n).map UInt8.toNat = l) : dcb code pc n = l := by
  subst hp
  subst hc
  have e : ((code.data.toList.drop a).take 70).drop r = (code.data.toList.drop (a + r)).take (70 - r) := by
    simp only [List.drop_take, List.drop_drop, Nat.add_comm]
  rw [e, List.take_take, Nat.min_eq_left (by (first | decide +kernel | omega))] at h
  exact h
def lqc_0 : List UInt8 := [187, 0, 7, 89, 183, 0, 9, 76, 187, 0, 10, 89, 183, 0, 12, 77, 3, 62, 29, 42, 190, 8, 100, 163, 5, 62, 42, 29, 46, 16, 63, 126, 170, 0, 0, 0, 0, 0, 5, 47, 0, 0, 0, 0, 0, 0, 0, 36, 0, 0, 0, 164, 0, 0, 0, 187, 0, 0, 0, 210, 0, 0, 0, 223, 0, 0, 0, 236, 0, 0]
theorem lq_0 : (code.data.toList.drop 0).take 70 = lqc_0 := by decide +kernel
def lqc_3 : List UInt8 := [0, 0, 5, 24, 43, 42, 29, 4, 96, 46, 182, 0, 13, 87, 44, 42, 29, 4, 96, 46, 182, 0, 17, 87, 167, 4, 119, 43, 42, 29, 4, 96, 46, 182, 0, 18, 87, 44, 42, 29, 4, 96, 46, 182, 0, 21, 87, 167, 4, 96, 43, 182, 0, 22, 87, 44, 182, 0, 26, 87, 167, 4, 83, 43, 182, 0, 27, 87, 44, 182]
theorem lq_3 : (code.data.toList.drop 192).take 70 = lqc_3 := by decide +kernel
def lqc_4 : List UInt8 := [182, 0, 27, 87, 44, 182, 0, 30, 87, 167, 4, 70, 43, 42, 29, 4, 96, 46, 182, 0, 31, 87, 44, 42, 29, 4, 96, 46, 182, 0, 34, 87, 167, 4, 47, 43, 42, 29, 4, 96, 46, 42, 29, 5, 96, 46, 182, 0, 35, 87, 44, 42, 29, 4, 96, 46, 42, 29, 5, 96, 46, 182, 0, 39, 87, 167, 4, 14, 43, 42]
theorem lq_4 : (code.data.toList.drop 256).take 70 = lqc_4 := by decide +kernel
def lqc_5 : List UInt8 := [87, 167, 4, 14, 43, 42, 29, 4, 96, 46, 182, 0, 40, 87, 44, 42, 29, 4, 96, 46, 182, 0, 43, 87, 167, 3, 247, 43, 42, 29, 4, 96, 46, 42, 29, 5, 96, 46, 182, 0, 44, 87, 44, 42, 29, 4, 96, 46, 42, 29, 5, 96, 46, 182, 0, 47, 87, 167, 3, 214, 43, 42, 29, 4, 96, 46, 42, 29, 5, 96]
theorem lq_5 : (code.data.toList.drop 320).take 70 = lqc_5 := by decide +kernel
def lqc_6 : List UInt8 := [96, 46, 42, 29, 5, 96, 46, 153, 0, 7, 4, 167, 0, 4, 3, 182, 0, 48, 87, 44, 42, 29, 4, 96, 46, 42, 29, 5, 96, 46, 153, 0, 7, 4, 167, 0, 4, 3, 182, 0, 52, 87, 167, 3, 165, 43, 42, 29, 4, 96, 46, 42, 29, 5, 96, 46, 182, 0, 53, 87, 44, 42, 29, 4, 96, 46, 42, 29, 5, 96]
theorem lq_6 : (code.data.toList.drop 384).take 70 = lqc_6 := by decide +kernel
def lqc_7 : List UInt8 := [96, 46, 42, 29, 5, 96, 46, 182, 0, 56, 87, 167, 3, 132, 43, 42, 29, 4, 96, 46, 42, 29, 5, 96, 46, 182, 0, 57, 87, 44, 42, 29, 4, 96, 46, 42, 29, 5, 96, 46, 182, 0, 60, 87, 167, 3, 99, 43, 42, 29, 4, 96, 46, 42, 29, 5, 96, 46, 182, 0, 61, 87, 44, 42, 29, 4, 96, 46, 42, 29]
theorem lq_7 : (code.data.toList.drop 448).take 70 = lqc_7 := by decide +kernel
def lqc_8 : List UInt8 := [29, 4, 96, 46, 42, 29, 5, 96, 46, 182, 0, 64, 87, 167, 3, 66, 43, 42, 29, 4, 96, 46, 42, 29, 5, 96, 46, 182, 0, 65, 87, 44, 42, 29, 4, 96, 46, 42, 29, 5, 96, 46, 182, 0, 68, 87, 167, 3, 33, 43, 42, 29, 4, 96, 46, 42, 29, 5, 96, 46, 42, 29, 6, 96, 46, 182, 0, 69, 87, 44]
theorem lq_8 : (code.data.toList.drop 512).take 70 = lqc_8 := by decide +kernel
def lqc_9 : List UInt8 := [46, 182, 0, 69, 87, 44, 42, 29, 4, 96, 46, 42, 29, 5, 96, 46, 42, 29, 6, 96, 46, 182, 0, 73, 87, 167, 2, 246, 43, 42, 29, 4, 96, 46, 182, 0, 74, 87, 44, 42, 29, 4, 96, 46, 182, 0, 77, 87, 167, 2, 223, 43, 42, 29, 4, 96, 46, 182, 0, 78, 87, 44, 42, 29, 4, 96, 46, 182, 0, 81]
theorem lq_9 : (code.data.toList.drop 576).take 70 = lqc_9 := by decide +kernel
def lqc_10 : List UInt8 := [4, 96, 46, 182, 0, 81, 87, 167, 2, 200, 43, 42, 29, 4, 96, 46, 42, 29, 5, 96, 46, 42, 29, 6, 96, 46, 182, 0, 82, 87, 44, 42, 29, 4, 96, 46, 42, 29, 5, 96, 46, 42, 29, 6, 96, 46, 182, 0, 85, 87, 167, 2, 157, 43, 42, 29, 4, 96, 46, 42, 29, 5, 96, 46, 42, 29, 6, 96, 46, 42]
theorem lq_10 : (code.data.toList.drop 640).take 70 = lqc_10 := by decide +kernel
def lqc_11 : List UInt8 := [42, 29, 6, 96, 46, 42, 29, 7, 96, 46, 153, 0, 7, 4, 167, 0, 4, 3, 182, 0, 86, 87, 44, 42, 29, 4, 96, 46, 42, 29, 5, 96, 46, 42, 29, 6, 96, 46, 42, 29, 7, 96, 46, 153, 0, 7, 4, 167, 0, 4, 3, 182, 0, 90, 87, 167, 2, 88, 43, 42, 29, 4, 96, 46, 182, 0, 91, 87, 44, 42]
theorem lq_11 : (code.data.toList.drop 704).take 70 = lqc_11 := by decide +kernel
def lqc_12 : List UInt8 := [182, 0, 91, 87, 44, 42, 29, 4, 96, 46, 182, 0, 94, 87, 167, 2, 65, 43, 182, 0, 95, 87, 44, 182, 0, 98, 87, 167, 2, 52, 43, 42, 29, 4, 96, 46, 182, 0, 99, 87, 44, 42, 29, 4, 96, 46, 182, 0, 102, 87, 167, 2, 29, 43, 42, 29, 4, 96, 46, 42, 29, 5, 96, 46, 182, 0, 103, 87, 44, 42]
theorem lq_12 : (code.data.toList.drop 768).take 70 = lqc_12 := by decide +kernel
def lqc_13 : List UInt8 := [182, 0, 103, 87, 44, 42, 29, 4, 96, 46, 42, 29, 5, 96, 46, 182, 0, 106, 87, 167, 1, 252, 43, 42, 29, 4, 96, 46, 42, 29, 5, 96, 46, 42, 29, 6, 96, 46, 42, 29, 7, 96, 46, 182, 0, 107, 87, 44, 42, 29, 4, 96, 46, 42, 29, 5, 96, 46, 42, 29, 6, 96, 46, 42, 29, 7, 96, 46, 182, 0]
theorem lq_13 : (code.data.toList.drop 832).take 70 = lqc_13 := by decide +kernel
def lqc_14 : List UInt8 := [29, 7, 96, 46, 182, 0, 111, 87, 167, 1, 199, 43, 42, 29, 4, 96, 46, 42, 29, 5, 96, 46, 42, 29, 6, 96, 46, 182, 0, 112, 87, 44, 42, 29, 4, 96, 46, 42, 29, 5, 96, 46, 42, 29, 6, 96, 46, 182, 0, 115, 87, 167, 1, 156, 43, 42, 29, 4, 96, 46, 42, 29, 5, 96, 46, 42, 29, 6, 96, 46]
theorem lq_14 : (code.data.toList.drop 896).take 70 = lqc_14 := by decide +kernel
def lqc_15 : List UInt8 := [46, 42, 29, 6, 96, 46, 42, 29, 7, 96, 46, 182, 0, 116, 88, 44, 42, 29, 4, 96, 46, 42, 29, 5, 96, 46, 42, 29, 6, 96, 46, 42, 29, 7, 96, 46, 182, 0, 120, 88, 167, 1, 103, 43, 42, 29, 4, 96, 46, 182, 0, 121, 87, 44, 42, 29, 4, 96, 46, 182, 0, 124, 87, 167, 1, 80, 43, 42, 29, 4]
theorem lq_15 : (code.data.toList.drop 960).take 70 = lqc_15 := by decide +kernel
def lqc_16 : List UInt8 := [1, 80, 43, 42, 29, 4, 96, 46, 42, 29, 5, 96, 46, 182, 0, 125, 44, 42, 29, 4, 96, 46, 42, 29, 5, 96, 46, 182, 0, 128, 159, 1, 49, 3, 172, 43, 42, 29, 4, 96, 46, 182, 0, 129, 87, 44, 42, 29, 4, 96, 46, 182, 0, 132, 87, 167, 1, 24, 43, 42, 29, 4, 96, 46, 182, 0, 133, 87, 44, 42]
theorem lq_16 : (code.data.toList.drop 1024).take 70 = lqc_16 := by decide +kernel
def lqc_17 : List UInt8 := [182, 0, 133, 87, 44, 42, 29, 4, 96, 46, 182, 0, 136, 87, 167, 1, 1, 43, 42, 29, 4, 96, 46, 42, 29, 5, 96, 46, 182, 0, 137, 87, 44, 42, 29, 4, 96, 46, 42, 29, 5, 96, 46, 182, 0, 140, 87, 167, 0, 224, 43, 42, 29, 4, 96, 46, 182, 0, 141, 87, 44, 42, 29, 4, 96, 46, 182, 0, 144, 87]
theorem lq_17 : (code.data.toList.drop 1088).take 70 = lqc_17 := by decide +kernel
def lqc_18 : List UInt8 := [96, 46, 182, 0, 144, 87, 167, 0, 201, 43, 42, 29, 4, 96, 46, 182, 0, 145, 87, 44, 42, 29, 4, 96, 46, 182, 0, 148, 87, 167, 0, 178, 43, 42, 29, 4, 96, 46, 42, 29, 5, 96, 46, 42, 29, 6, 96, 46, 182, 0, 149, 87, 44, 42, 29, 4, 96, 46, 42, 29, 5, 96, 46, 42, 29, 6, 96, 46, 182, 0]
theorem lq_18 : (code.data.toList.drop 1152).take 70 = lqc_18 := by decide +kernel
def lqc_19 : List UInt8 := [29, 6, 96, 46, 182, 0, 152, 87, 167, 0, 135, 43, 42, 29, 4, 96, 46, 42, 29, 5, 96, 46, 42, 29, 6, 96, 46, 182, 0, 153, 87, 44, 42, 29, 4, 96, 46, 42, 29, 5, 96, 46, 42, 29, 6, 96, 46, 182, 0, 156, 87, 167, 0, 92, 43, 42, 29, 4, 96, 46, 42, 29, 5, 96, 46, 42, 29, 6, 96, 46]
theorem lq_19 : (code.data.toList.drop 1216).take 70 = lqc_19 := by decide +kernel
def lqc_20 : List UInt8 := [46, 42, 29, 6, 96, 46, 42, 29, 7, 96, 46, 182, 0, 157, 87, 44, 42, 29, 4, 96, 46, 42, 29, 5, 96, 46, 42, 29, 6, 96, 46, 42, 29, 7, 96, 46, 182, 0, 160, 87, 167, 0, 39, 43, 182, 0, 161, 87, 44, 182, 0, 164, 87, 167, 0, 26, 43, 42, 29, 4, 96, 46, 182, 0, 165, 87, 44, 42, 29, 4]
theorem lq_20 : (code.data.toList.drop 1280).take 70 = lqc_20 := by decide +kernel
def lqc_21 : List UInt8 := [165, 87, 44, 42, 29, 4, 96, 46, 182, 0, 168, 87, 167, 0, 3, 132, 3, 5, 167, 250, 192, 4, 172]
theorem lq_21 : (code.data.toList.drop 1344).take 70 = lqc_21 := by decide +kernel
theorem dc_2 {code : ByteArray} {pc : Nat} (h : dcb code pc 1 = [2]) : decode code pc = .ok (.iconst (-1), 1) := dc_of (by
  show Except.bind ((Reader.u1 : Decoder Nat) code pc) _ = _
  rw [dc_u1 (p := pc) (dcb_at (i := 0) h rfl)]
  rfl)
theorem dc_3 {code : ByteArray} {pc : Nat} (h : dcb code pc 1 = [3]) : decode code pc = .ok (.iconst 0, 1) := dc_of (by
  show Except.bind ((Reader.u1 : Decoder Nat) code pc) _ = _
  rw [dc_u1 (p := pc) (dcb_at (i := 0) h rfl)]
  rfl)
theorem dc_4 {code : ByteArray} {pc : Nat} (h : dcb code pc 1 = [4]) : decode code pc = .ok (.iconst 1, 1) := dc_of (by
  show Except.bind ((Reader.u1 : Decoder Nat) code pc) _ = _
  rw [dc_u1 (p := pc) (dcb_at (i := 0) h rfl)]
  rfl)
theorem dc_5 {code : ByteArray} {pc : Nat} (h : dcb code pc 1 = [5]) : decode code pc = .ok (.iconst 2, 1) := dc_of (by
  show Except.bind ((Reader.u1 : Decoder Nat) code pc) _ = _
  rw [dc_u1 (p := pc) (dcb_at (i := 0) h rfl)]
  rfl)
theorem dc_6 {code : ByteArray} {pc : Nat} (h : dcb code pc 1 = [6]) : decode code pc = .ok (.iconst 3, 1) := dc_of (by
  show Except.bind ((Reader.u1 : Decoder Nat) code pc) _ = _
  rw [dc_u1 (p := pc) (dcb_at (i := 0) h rfl)]
  rfl)
theorem dc_7 {code : ByteArray} {pc : Nat} (h : dcb code pc 1 = [7]) : decode code pc = .ok (.iconst 4, 1) := dc_of (by
  show Except.bind ((Reader.u1 : Decoder Nat) code pc) _ = _
  rw [dc_u1 (p := pc) (dcb_at (i := 0) h rfl)]
  rfl)
theorem dc_8 {code : ByteArray} {pc : Nat} (h : dcb code pc 1 = [8]) : decode code pc = .ok (.iconst 5, 1) := dc_of (by
  show Except.bind ((Reader.u1 : Decoder Nat) code pc) _ = _
  rw [dc_u1 (p := pc) (dcb_at (i := 0) h rfl)]
  rfl)
theorem dc_9 {code : ByteArray} {pc : Nat} (h : dcb code pc 1 = [9]) : decode code pc = .ok (.lconst 0, 1) := dc_of (by
  show Except.bind ((Reader.u1 : Decoder Nat) code pc) _ = _
  rw [dc_u1 (p := pc) (dcb_at (i := 0) h rfl)]
  rfl)
theorem dc_10 {code : ByteArray} {pc : Nat} (h : dcb code pc 1 = [10]) : decode code pc = .ok (.lconst 1, 1) := dc_of (by
  show Except.bind ((Reader.u1 : Decoder Nat) code pc) _ = _
  rw [dc_u1 (p := pc) (dcb_at (i := 0) h rfl)]
  rfl)
theorem dc_16 {code : ByteArray} {pc a : Nat} {v : Int} (h : dcb code pc 2 = [16, a]) (e : Reader.signed 8 a = v) : decode code pc = .ok (.bipush v, 2) := dc_of (by
  subst e
  show Except.bind ((Reader.u1 : Decoder Nat) code pc) _ = _
  rw [dc_u1 (p := pc) (dcb_at (i := 0) h rfl)]
  show Except.bind ((Reader.s1 : Decoder Int) code (pc + 1)) _ = _
  rw [show (Reader.s1 : Decoder Int) code (pc + 1) = Except.map (fun q => (Reader.signed 8 q.1, q.2)) ((Reader.u1 : Decoder Nat) code (pc + 1)) from by show Except.bind _ _ = _; cases (Reader.u1 : Decoder Nat) code (pc + 1) <;> rfl, dc_u1 (p := pc + 1) (dcb_at (i := 1) h rfl)]
  rfl)
theorem dc_17 {code : ByteArray} {pc a b : Nat} {v : Int} (h : dcb code pc 3 = [17, a, b]) (e : Reader.signed 16 (a * 256 + b) = v) : decode code pc = .ok (.sipush v, 3) := dc_of (by
  subst e
  show Except.bind ((Reader.u1 : Decoder Nat) code pc) _ = _
  rw [dc_u1 (p := pc) (dcb_at (i := 0) h rfl)]
  show Except.bind ((Reader.s2 : Decoder Int) code (pc + 1)) _ = _
  rw [show (Reader.s2 : Decoder Int) code (pc + 1) = Except.map (fun q => (Reader.signed 16 q.1, q.2)) ((Reader.u2 : Decoder Nat) code (pc + 1)) from by show Except.bind _ _ = _; cases (Reader.u2 : Decoder Nat) code (pc + 1) <;> rfl, dc_u2 (p := pc + 1) (dcb_at (i := 1) h rfl) (dcb_at (i := 2) h rfl)]
  rfl)
theorem dc_18 {code : ByteArray} {pc a : Nat} {v : Nat} (h : dcb code pc 2 = [18, a]) (e : a = v) : decode code pc = .ok (.ldc v, 2) := dc_of (by
  subst e
  show Except.bind ((Reader.u1 : Decoder Nat) code pc) _ = _
  rw [dc_u1 (p := pc) (dcb_at (i := 0) h rfl)]
  show Except.bind ((Reader.u1 : Decoder Nat) code (pc + 1)) _ = _
  rw [dc_u1 (p := pc + 1) (dcb_at (i := 1) h rfl)]
  rfl)
theorem dc_19 {code : ByteArray} {pc a b : Nat} {v : Nat} (h : dcb code pc 3 = [19, a, b]) (e : a * 256 + b = v) : decode code pc = .ok (.ldc_w v, 3) := dc_of (by
  subst e
  show Except.bind ((Reader.u1 : Decoder Nat) code pc) _ = _
  rw [dc_u1 (p := pc) (dcb_at (i := 0) h rfl)]
  show Except.bind ((Reader.u2 : Decoder Nat) code (pc + 1)) _ = _
  rw [dc_u2 (p := pc + 1) (dcb_at (i := 1) h rfl) (dcb_at (i := 2) h rfl)]
  rfl)
theorem dc_20 {code : ByteArray} {pc a b : Nat} {v : Nat} (h : dcb code pc 3 = [20, a, b]) (e : a * 256 + b = v) : decode code pc = .ok (.ldc2_w v, 3) := dc_of (by
  subst e
  show Except.bind ((Reader.u1 : Decoder Nat) code pc) _ = _
  rw [dc_u1 (p := pc) (dcb_at (i := 0) h rfl)]
  show Except.bind ((Reader.u2 : Decoder Nat) code (pc + 1)) _ = _
  rw [dc_u2 (p := pc + 1) (dcb_at (i := 1) h rfl) (dcb_at (i := 2) h rfl)]
  rfl)
theorem dc_21 {code : ByteArray} {pc a : Nat} {v : Nat} (h : dcb code pc 2 = [21, a]) (e : a = v) : decode code pc = .ok (.iload v, 2) := dc_of (by
  subst e
  show Except.bind ((Reader.u1 : Decoder Nat) code pc) _ = _
  rw [dc_u1 (p := pc) (dcb_at (i := 0) h rfl)]
  show Except.bind ((Reader.u1 : Decoder Nat) code (pc + 1)) _ = _
  rw [dc_u1 (p := pc + 1) (dcb_at (i := 1) h rfl)]
  rfl)
theorem dc_22 {code : ByteArray} {pc a : Nat} {v : Nat} (h : dcb code pc 2 = [22, a]) (e : a = v) : decode code pc = .ok (.lload v, 2) := dc_of (by
  subst e
  show Except.bind ((Reader.u1 : Decoder Nat) code pc) _ = _
  rw [dc_u1 (p := pc) (dcb_at (i := 0) h rfl)]
  show Except.bind ((Reader.u1 : Decoder Nat) code (pc + 1)) _ = _
  rw [dc_u1 (p := pc + 1) (dcb_at (i := 1) h rfl)]
  rfl)
theorem dc_25 {code : ByteArray} {pc a : Nat} {v : Nat} (h : dcb code pc 2 = [25, a]) (e : a = v) : decode code pc = .ok (.aload v, 2) := dc_of (by
  subst e
  show Except.bind ((Reader.u1 : Decoder Nat) code pc) _ = _
  rw [dc_u1 (p := pc) (dcb_at (i := 0) h rfl)]
  show Except.bind ((Reader.u1 : Decoder Nat) code (pc + 1)) _ = _
  rw [dc_u1 (p := pc + 1) (dcb_at (i := 1) h rfl)]
  rfl)
theorem dc_26 {code : ByteArray} {pc : Nat} (h : dcb code pc 1 = [26]) : decode code pc = .ok (.iload_n 0, 1) := dc_of (by
  show Except.bind ((Reader.u1 : Decoder Nat) code pc) _ = _
  rw [dc_u1 (p := pc) (dcb_at (i := 0) h rfl)]
  rfl)
theorem dc_27 {code : ByteArray} {pc : Nat} (h : dcb code pc 1 = [27]) : decode code pc = .ok (.iload_n 1, 1) := dc_of (by
  show Except.bind ((Reader.u1 : Decoder Nat) code pc) _ = _
  rw [dc_u1 (p := pc) (dcb_at (i := 0) h rfl)]
  rfl)
theorem dc_28 {code : ByteArray} {pc : Nat} (h : dcb code pc 1 = [28]) : decode code pc = .ok (.iload_n 2, 1) := dc_of (by
  show Except.bind ((Reader.u1 : Decoder Nat) code pc) _ = _
  rw [dc_u1 (p := pc) (dcb_at (i := 0) h rfl)]
  rfl)
theorem dc_29 {code : ByteArray} {pc : Nat} (h : dcb code pc 1 = [29]) : decode code pc = .ok (.iload_n 3, 1) := dc_of (by
  show Except.bind ((Reader.u1 : Decoder Nat) code pc) _ = _
  rw [dc_u1 (p := pc) (dcb_at (i := 0) h rfl)]
  rfl)
theorem dc_30 {code : ByteArray} {pc : Nat} (h : dcb code pc 1 = [30]) : decode code pc = .ok (.lload_n 0, 1) := dc_of (by
  show Except.bind ((Reader.u1 : Decoder Nat) code pc) _ = _
  rw [dc_u1 (p := pc) (dcb_at (i := 0) h rfl)]
  rfl)
theorem dc_32 {code : ByteArray} {pc : Nat} (h : dcb code pc 1 = [32]) : decode code pc = .ok (.lload_n 2, 1) := dc_of (by
  show Except.bind ((Reader.u1 : Decoder Nat) code pc) _ = _
  rw [dc_u1 (p := pc) (dcb_at (i := 0) h rfl)]
  rfl)
theorem dc_33 {code : ByteArray} {pc : Nat} (h : dcb code pc 1 = [33]) : decode code pc = .ok (.lload_n 3, 1) := dc_of (by
  show Except.bind ((Reader.u1 : Decoder Nat) code pc) _ = _
  rw [dc_u1 (p := pc) (dcb_at (i := 0) h rfl)]
  rfl)
theorem dc_42 {code : ByteArray} {pc : Nat} (h : dcb code pc 1 = [42]) : decode code pc = .ok (.aload_n 0, 1) := dc_of (by
  show Except.bind ((Reader.u1 : Decoder Nat) code pc) _ = _
  rw [dc_u1 (p := pc) (dcb_at (i := 0) h rfl)]
  rfl)
theorem dc_43 {code : ByteArray} {pc : Nat} (h : dcb code pc 1 = [43]) : decode code pc = .ok (.aload_n 1, 1) := dc_of (by
  show Except.bind ((Reader.u1 : Decoder Nat) code pc) _ = _
  rw [dc_u1 (p := pc) (dcb_at (i := 0) h rfl)]
  rfl)
theorem dc_44 {code : ByteArray} {pc : Nat} (h : dcb code pc 1 = [44]) : decode code pc = .ok (.aload_n 2, 1) := dc_of (by
  show Except.bind ((Reader.u1 : Decoder Nat) code pc) _ = _
  rw [dc_u1 (p := pc) (dcb_at (i := 0) h rfl)]
  rfl)
theorem dc_45 {code : ByteArray} {pc : Nat} (h : dcb code pc 1 = [45]) : decode code pc = .ok (.aload_n 3, 1) := dc_of (by
  show Except.bind ((Reader.u1 : Decoder Nat) code pc) _ = _
  rw [dc_u1 (p := pc) (dcb_at (i := 0) h rfl)]
  rfl)
theorem dc_46 {code : ByteArray} {pc : Nat} (h : dcb code pc 1 = [46]) : decode code pc = .ok (.iaload, 1) := dc_of (by
  show Except.bind ((Reader.u1 : Decoder Nat) code pc) _ = _
  rw [dc_u1 (p := pc) (dcb_at (i := 0) h rfl)]
  rfl)
theorem dc_50 {code : ByteArray} {pc : Nat} (h : dcb code pc 1 = [50]) : decode code pc = .ok (.aaload, 1) := dc_of (by
  show Except.bind ((Reader.u1 : Decoder Nat) code pc) _ = _
  rw [dc_u1 (p := pc) (dcb_at (i := 0) h rfl)]
  rfl)
theorem dc_51 {code : ByteArray} {pc : Nat} (h : dcb code pc 1 = [51]) : decode code pc = .ok (.baload, 1) := dc_of (by
  show Except.bind ((Reader.u1 : Decoder Nat) code pc) _ = _
  rw [dc_u1 (p := pc) (dcb_at (i := 0) h rfl)]
  rfl)
theorem dc_54 {code : ByteArray} {pc a : Nat} {v : Nat} (h : dcb code pc 2 = [54, a]) (e : a = v) : decode code pc = .ok (.istore v, 2) := dc_of (by
  subst e
  show Except.bind ((Reader.u1 : Decoder Nat) code pc) _ = _
  rw [dc_u1 (p := pc) (dcb_at (i := 0) h rfl)]
  show Except.bind ((Reader.u1 : Decoder Nat) code (pc + 1)) _ = _
  rw [dc_u1 (p := pc + 1) (dcb_at (i := 1) h rfl)]
  rfl)
theorem dc_55 {code : ByteArray} {pc a : Nat} {v : Nat} (h : dcb code pc 2 = [55, a]) (e : a = v) : decode code pc = .ok (.lstore v, 2) := dc_of (by
  subst e
  show Except.bind ((Reader.u1 : Decoder Nat) code pc) _ = _
  rw [dc_u1 (p := pc) (dcb_at (i := 0) h rfl)]
  show Except.bind ((Reader.u1 : Decoder Nat) code (pc + 1)) _ = _
  rw [dc_u1 (p := pc + 1) (dcb_at (i := 1) h rfl)]
  rfl)
theorem dc_58 {code : ByteArray} {pc a : Nat} {v : Nat} (h : dcb code pc 2 = [58, a]) (e : a = v) : decode code pc = .ok (.astore v, 2) := dc_of (by
  subst e
  show Except.bind ((Reader.u1 : Decoder Nat) code pc) _ = _
  rw [dc_u1 (p := pc) (dcb_at (i := 0) h rfl)]
  show Except.bind ((Reader.u1 : Decoder Nat) code (pc + 1)) _ = _
  rw [dc_u1 (p := pc + 1) (dcb_at (i := 1) h rfl)]
  rfl)
theorem dc_59 {code : ByteArray} {pc : Nat} (h : dcb code pc 1 = [59]) : decode code pc = .ok (.istore_n 0, 1) := dc_of (by
  show Except.bind ((Reader.u1 : Decoder Nat) code pc) _ = _
  rw [dc_u1 (p := pc) (dcb_at (i := 0) h rfl)]
  rfl)
theorem dc_60 {code : ByteArray} {pc : Nat} (h : dcb code pc 1 = [60]) : decode code pc = .ok (.istore_n 1, 1) := dc_of (by
  show Except.bind ((Reader.u1 : Decoder Nat) code pc) _ = _
  rw [dc_u1 (p := pc) (dcb_at (i := 0) h rfl)]
  rfl)
theorem dc_61 {code : ByteArray} {pc : Nat} (h : dcb code pc 1 = [61]) : decode code pc = .ok (.istore_n 2, 1) := dc_of (by
  show Except.bind ((Reader.u1 : Decoder Nat) code pc) _ = _
  rw [dc_u1 (p := pc) (dcb_at (i := 0) h rfl)]
  rfl)
theorem dc_62 {code : ByteArray} {pc : Nat} (h : dcb code pc 1 = [62]) : decode code pc = .ok (.istore_n 3, 1) := dc_of (by
  show Except.bind ((Reader.u1 : Decoder Nat) code pc) _ = _
  rw [dc_u1 (p := pc) (dcb_at (i := 0) h rfl)]
  rfl)
theorem dc_66 {code : ByteArray} {pc : Nat} (h : dcb code pc 1 = [66]) : decode code pc = .ok (.lstore_n 3, 1) := dc_of (by
  show Except.bind ((Reader.u1 : Decoder Nat) code pc) _ = _
  rw [dc_u1 (p := pc) (dcb_at (i := 0) h rfl)]
  rfl)
theorem dc_76 {code : ByteArray} {pc : Nat} (h : dcb code pc 1 = [76]) : decode code pc = .ok (.astore_n 1, 1) := dc_of (by
  show Except.bind ((Reader.u1 : Decoder Nat) code pc) _ = _
  rw [dc_u1 (p := pc) (dcb_at (i := 0) h rfl)]
  rfl)
theorem dc_77 {code : ByteArray} {pc : Nat} (h : dcb code pc 1 = [77]) : decode code pc = .ok (.astore_n 2, 1) := dc_of (by
  show Except.bind ((Reader.u1 : Decoder Nat) code pc) _ = _
  rw [dc_u1 (p := pc) (dcb_at (i := 0) h rfl)]
  rfl)
theorem dc_78 {code : ByteArray} {pc : Nat} (h : dcb code pc 1 = [78]) : decode code pc = .ok (.astore_n 3, 1) := dc_of (by
  show Except.bind ((Reader.u1 : Decoder Nat) code pc) _ = _
  rw [dc_u1 (p := pc) (dcb_at (i := 0) h rfl)]
  rfl)
theorem dc_79 {code : ByteArray} {pc : Nat} (h : dcb code pc 1 = [79]) : decode code pc = .ok (.iastore, 1) := dc_of (by
  show Except.bind ((Reader.u1 : Decoder Nat) code pc) _ = _
  rw [dc_u1 (p := pc) (dcb_at (i := 0) h rfl)]
  rfl)
theorem dc_83 {code : ByteArray} {pc : Nat} (h : dcb code pc 1 = [83]) : decode code pc = .ok (.aastore, 1) := dc_of (by
  show Except.bind ((Reader.u1 : Decoder Nat) code pc) _ = _
  rw [dc_u1 (p := pc) (dcb_at (i := 0) h rfl)]
  rfl)
theorem dc_84 {code : ByteArray} {pc : Nat} (h : dcb code pc 1 = [84]) : decode code pc = .ok (.bastore, 1) := dc_of (by
  show Except.bind ((Reader.u1 : Decoder Nat) code pc) _ = _
  rw [dc_u1 (p := pc) (dcb_at (i := 0) h rfl)]
  rfl)
theorem dc_87 {code : ByteArray} {pc : Nat} (h : dcb code pc 1 = [87]) : decode code pc = .ok (.pop, 1) := dc_of (by
  show Except.bind ((Reader.u1 : Decoder Nat) code pc) _ = _
  rw [dc_u1 (p := pc) (dcb_at (i := 0) h rfl)]
  rfl)
theorem dc_88 {code : ByteArray} {pc : Nat} (h : dcb code pc 1 = [88]) : decode code pc = .ok (.pop2, 1) := dc_of (by
  show Except.bind ((Reader.u1 : Decoder Nat) code pc) _ = _
  rw [dc_u1 (p := pc) (dcb_at (i := 0) h rfl)]
  rfl)
theorem dc_89 {code : ByteArray} {pc : Nat} (h : dcb code pc 1 = [89]) : decode code pc = .ok (.dup, 1) := dc_of (by
  show Except.bind ((Reader.u1 : Decoder Nat) code pc) _ = _
  rw [dc_u1 (p := pc) (dcb_at (i := 0) h rfl)]
  rfl)
theorem dc_92 {code : ByteArray} {pc : Nat} (h : dcb code pc 1 = [92]) : decode code pc = .ok (.dup2, 1) := dc_of (by
  show Except.bind ((Reader.u1 : Decoder Nat) code pc) _ = _
  rw [dc_u1 (p := pc) (dcb_at (i := 0) h rfl)]
  rfl)
theorem dc_96 {code : ByteArray} {pc : Nat} (h : dcb code pc 1 = [96]) : decode code pc = .ok (.iadd, 1) := dc_of (by
  show Except.bind ((Reader.u1 : Decoder Nat) code pc) _ = _
  rw [dc_u1 (p := pc) (dcb_at (i := 0) h rfl)]
  rfl)
theorem dc_97 {code : ByteArray} {pc : Nat} (h : dcb code pc 1 = [97]) : decode code pc = .ok (.ladd, 1) := dc_of (by
  show Except.bind ((Reader.u1 : Decoder Nat) code pc) _ = _
  rw [dc_u1 (p := pc) (dcb_at (i := 0) h rfl)]
  rfl)
theorem dc_100 {code : ByteArray} {pc : Nat} (h : dcb code pc 1 = [100]) : decode code pc = .ok (.isub, 1) := dc_of (by
  show Except.bind ((Reader.u1 : Decoder Nat) code pc) _ = _
  rw [dc_u1 (p := pc) (dcb_at (i := 0) h rfl)]
  rfl)
theorem dc_101 {code : ByteArray} {pc : Nat} (h : dcb code pc 1 = [101]) : decode code pc = .ok (.lsub, 1) := dc_of (by
  show Except.bind ((Reader.u1 : Decoder Nat) code pc) _ = _
  rw [dc_u1 (p := pc) (dcb_at (i := 0) h rfl)]
  rfl)
theorem dc_104 {code : ByteArray} {pc : Nat} (h : dcb code pc 1 = [104]) : decode code pc = .ok (.imul, 1) := dc_of (by
  show Except.bind ((Reader.u1 : Decoder Nat) code pc) _ = _
  rw [dc_u1 (p := pc) (dcb_at (i := 0) h rfl)]
  rfl)
theorem dc_105 {code : ByteArray} {pc : Nat} (h : dcb code pc 1 = [105]) : decode code pc = .ok (.lmul, 1) := dc_of (by
  show Except.bind ((Reader.u1 : Decoder Nat) code pc) _ = _
  rw [dc_u1 (p := pc) (dcb_at (i := 0) h rfl)]
  rfl)
theorem dc_108 {code : ByteArray} {pc : Nat} (h : dcb code pc 1 = [108]) : decode code pc = .ok (.idiv, 1) := dc_of (by
  show Except.bind ((Reader.u1 : Decoder Nat) code pc) _ = _
  rw [dc_u1 (p := pc) (dcb_at (i := 0) h rfl)]
  rfl)
theorem dc_109 {code : ByteArray} {pc : Nat} (h : dcb code pc 1 = [109]) : decode code pc = .ok (.ldiv, 1) := dc_of (by
  show Except.bind ((Reader.u1 : Decoder Nat) code pc) _ = _
  rw [dc_u1 (p := pc) (dcb_at (i := 0) h rfl)]
  rfl)
theorem dc_112 {code : ByteArray} {pc : Nat} (h : dcb code pc 1 = [112]) : decode code pc = .ok (.irem, 1) := dc_of (by
  show Except.bind ((Reader.u1 : Decoder Nat) code pc) _ = _
  rw [dc_u1 (p := pc) (dcb_at (i := 0) h rfl)]
  rfl)
theorem dc_113 {code : ByteArray} {pc : Nat} (h : dcb code pc 1 = [113]) : decode code pc = .ok (.lrem, 1) := dc_of (by
  show Except.bind ((Reader.u1 : Decoder Nat) code pc) _ = _
  rw [dc_u1 (p := pc) (dcb_at (i := 0) h rfl)]
  rfl)
theorem dc_116 {code : ByteArray} {pc : Nat} (h : dcb code pc 1 = [116]) : decode code pc = .ok (.ineg, 1) := dc_of (by
  show Except.bind ((Reader.u1 : Decoder Nat) code pc) _ = _
  rw [dc_u1 (p := pc) (dcb_at (i := 0) h rfl)]
  rfl)
theorem dc_120 {code : ByteArray} {pc : Nat} (h : dcb code pc 1 = [120]) : decode code pc = .ok (.ishl, 1) := dc_of (by
  show Except.bind ((Reader.u1 : Decoder Nat) code pc) _ = _
  rw [dc_u1 (p := pc) (dcb_at (i := 0) h rfl)]
  rfl)
theorem dc_122 {code : ByteArray} {pc : Nat} (h : dcb code pc 1 = [122]) : decode code pc = .ok (.ishr, 1) := dc_of (by
  show Except.bind ((Reader.u1 : Decoder Nat) code pc) _ = _
  rw [dc_u1 (p := pc) (dcb_at (i := 0) h rfl)]
  rfl)
theorem dc_124 {code : ByteArray} {pc : Nat} (h : dcb code pc 1 = [124]) : decode code pc = .ok (.iushr, 1) := dc_of (by
  show Except.bind ((Reader.u1 : Decoder Nat) code pc) _ = _
  rw [dc_u1 (p := pc) (dcb_at (i := 0) h rfl)]
  rfl)
theorem dc_126 {code : ByteArray} {pc : Nat} (h : dcb code pc 1 = [126]) : decode code pc = .ok (.iand, 1) := dc_of (by
  show Except.bind ((Reader.u1 : Decoder Nat) code pc) _ = _
  rw [dc_u1 (p := pc) (dcb_at (i := 0) h rfl)]
  rfl)
theorem dc_128 {code : ByteArray} {pc : Nat} (h : dcb code pc 1 = [128]) : decode code pc = .ok (.ior, 1) := dc_of (by
  show Except.bind ((Reader.u1 : Decoder Nat) code pc) _ = _
  rw [dc_u1 (p := pc) (dcb_at (i := 0) h rfl)]
  rfl)
theorem dc_130 {code : ByteArray} {pc : Nat} (h : dcb code pc 1 = [130]) : decode code pc = .ok (.ixor, 1) := dc_of (by
  show Except.bind ((Reader.u1 : Decoder Nat) code pc) _ = _
  rw [dc_u1 (p := pc) (dcb_at (i := 0) h rfl)]
  rfl)
theorem dc_132 {code : ByteArray} {pc a b : Nat} {v : Int} (h : dcb code pc 3 = [132, a, b]) (e : Reader.signed 8 b = v) : decode code pc = .ok (.iinc a v, 3) := dc_of (by
  subst e
  show Except.bind ((Reader.u1 : Decoder Nat) code pc) _ = _
  rw [dc_u1 (p := pc) (dcb_at (i := 0) h rfl)]
  show Except.bind ((Reader.u1 : Decoder Nat) code (pc + 1)) _ = _
  rw [dc_u1 (p := pc + 1) (dcb_at (i := 1) h rfl)]
  show Except.bind ((Reader.s1 : Decoder Int) code (pc + 2)) _ = _
  rw [show (Reader.s1 : Decoder Int) code (pc + 2) = Except.map (fun q => (Reader.signed 8 q.1, q.2)) ((Reader.u1 : Decoder Nat) code (pc + 2)) from by show Except.bind _ _ = _; cases (Reader.u1 : Decoder Nat) code (pc + 2) <;> rfl, dc_u1 (p := pc + 2) (dcb_at (i := 2) h rfl)]
  rfl)
theorem dc_133 {code : ByteArray} {pc : Nat} (h : dcb code pc 1 = [133]) : decode code pc = .ok (.i2l, 1) := dc_of (by
  show Except.bind ((Reader.u1 : Decoder Nat) code pc) _ = _
  rw [dc_u1 (p := pc) (dcb_at (i := 0) h rfl)]
  rfl)
theorem dc_145 {code : ByteArray} {pc : Nat} (h : dcb code pc 1 = [145]) : decode code pc = .ok (.i2b, 1) := dc_of (by
  show Except.bind ((Reader.u1 : Decoder Nat) code pc) _ = _
  rw [dc_u1 (p := pc) (dcb_at (i := 0) h rfl)]
  rfl)
theorem dc_146 {code : ByteArray} {pc : Nat} (h : dcb code pc 1 = [146]) : decode code pc = .ok (.i2c, 1) := dc_of (by
  show Except.bind ((Reader.u1 : Decoder Nat) code pc) _ = _
  rw [dc_u1 (p := pc) (dcb_at (i := 0) h rfl)]
  rfl)
theorem dc_147 {code : ByteArray} {pc : Nat} (h : dcb code pc 1 = [147]) : decode code pc = .ok (.i2s, 1) := dc_of (by
  show Except.bind ((Reader.u1 : Decoder Nat) code pc) _ = _
  rw [dc_u1 (p := pc) (dcb_at (i := 0) h rfl)]
  rfl)
theorem dc_148 {code : ByteArray} {pc : Nat} (h : dcb code pc 1 = [148]) : decode code pc = .ok (.lcmp, 1) := dc_of (by
  show Except.bind ((Reader.u1 : Decoder Nat) code pc) _ = _
  rw [dc_u1 (p := pc) (dcb_at (i := 0) h rfl)]
  rfl)
theorem dc_153 {code : ByteArray} {pc a b : Nat} {v : Int} (h : dcb code pc 3 = [153, a, b]) (e : Reader.signed 16 (a * 256 + b) = v) : decode code pc = .ok (.ifCond .eq v, 3) := dc_of (by
  subst e
  show Except.bind ((Reader.u1 : Decoder Nat) code pc) _ = _
  rw [dc_u1 (p := pc) (dcb_at (i := 0) h rfl)]
  show Except.bind ((Reader.s2 : Decoder Int) code (pc + 1)) _ = _
  rw [show (Reader.s2 : Decoder Int) code (pc + 1) = Except.map (fun q => (Reader.signed 16 q.1, q.2)) ((Reader.u2 : Decoder Nat) code (pc + 1)) from by show Except.bind _ _ = _; cases (Reader.u2 : Decoder Nat) code (pc + 1) <;> rfl, dc_u2 (p := pc + 1) (dcb_at (i := 1) h rfl) (dcb_at (i := 2) h rfl)]
  rfl)
theorem dc_154 {code : ByteArray} {pc a b : Nat} {v : Int} (h : dcb code pc 3 = [154, a, b]) (e : Reader.signed 16 (a * 256 + b) = v) : decode code pc = .ok (.ifCond .ne v, 3) := dc_of (by
  subst e
  show Except.bind ((Reader.u1 : Decoder Nat) code pc) _ = _
  rw [dc_u1 (p := pc) (dcb_at (i := 0) h rfl)]
  show Except.bind ((Reader.s2 : Decoder Int) code (pc + 1)) _ = _
  rw [show (Reader.s2 : Decoder Int) code (pc + 1) = Except.map (fun q => (Reader.signed 16 q.1, q.2)) ((Reader.u2 : Decoder Nat) code (pc + 1)) from by show Except.bind _ _ = _; cases (Reader.u2 : Decoder Nat) code (pc + 1) <;> rfl, dc_u2 (p := pc + 1) (dcb_at (i := 1) h rfl) (dcb_at (i := 2) h rfl)]
  rfl)
theorem dc_155 {code : ByteArray} {pc a b : Nat} {v : Int} (h : dcb code pc 3 = [155, a, b]) (e : Reader.signed 16 (a * 256 + b) = v) : decode code pc = .ok (.ifCond .lt v, 3) := dc_of (by
  subst e
  show Except.bind ((Reader.u1 : Decoder Nat) code pc) _ = _
  rw [dc_u1 (p := pc) (dcb_at (i := 0) h rfl)]
  show Except.bind ((Reader.s2 : Decoder Int) code (pc + 1)) _ = _
  rw [show (Reader.s2 : Decoder Int) code (pc + 1) = Except.map (fun q => (Reader.signed 16 q.1, q.2)) ((Reader.u2 : Decoder Nat) code (pc + 1)) from by show Except.bind _ _ = _; cases (Reader.u2 : Decoder Nat) code (pc + 1) <;> rfl, dc_u2 (p := pc + 1) (dcb_at (i := 1) h rfl) (dcb_at (i := 2) h rfl)]
  rfl)
theorem dc_156 {code : ByteArray} {pc a b : Nat} {v : Int} (h : dcb code pc 3 = [156, a, b]) (e : Reader.signed 16 (a * 256 + b) = v) : decode code pc = .ok (.ifCond .ge v, 3) := dc_of (by
  subst e
  show Except.bind ((Reader.u1 : Decoder Nat) code pc) _ = _
  rw [dc_u1 (p := pc) (dcb_at (i := 0) h rfl)]
  show Except.bind ((Reader.s2 : Decoder Int) code (pc + 1)) _ = _
  rw [show (Reader.s2 : Decoder Int) code (pc + 1) = Except.map (fun q => (Reader.signed 16 q.1, q.2)) ((Reader.u2 : Decoder Nat) code (pc + 1)) from by show Except.bind _ _ = _; cases (Reader.u2 : Decoder Nat) code (pc + 1) <;> rfl, dc_u2 (p := pc + 1) (dcb_at (i := 1) h rfl) (dcb_at (i := 2) h rfl)]
  rfl)
theorem dc_157 {code : ByteArray} {pc a b : Nat} {v : Int} (h : dcb code pc 3 = [157, a, b]) (e : Reader.signed 16 (a * 256 + b) = v) : decode code pc = .ok (.ifCond .gt v, 3) := dc_of (by
  subst e
  show Except.bind ((Reader.u1 : Decoder Nat) code pc) _ = _
  rw [dc_u1 (p := pc) (dcb_at (i := 0) h rfl)]
  show Except.bind ((Reader.s2 : Decoder Int) code (pc + 1)) _ = _
  rw [show (Reader.s2 : Decoder Int) code (pc + 1) = Except.map (fun q => (Reader.signed 16 q.1, q.2)) ((Reader.u2 : Decoder Nat) code (pc + 1)) from by show Except.bind _ _ = _; cases (Reader.u2 : Decoder Nat) code (pc + 1) <;> rfl, dc_u2 (p := pc + 1) (dcb_at (i := 1) h rfl) (dcb_at (i := 2) h rfl)]
  rfl)
theorem dc_158 {code : ByteArray} {pc a b : Nat} {v : Int} (h : dcb code pc 3 = [158, a, b]) (e : Reader.signed 16 (a * 256 + b) = v) : decode code pc = .ok (.ifCond .le v, 3) := dc_of (by
  subst e
  show Except.bind ((Reader.u1 : Decoder Nat) code pc) _ = _
  rw [dc_u1 (p := pc) (dcb_at (i := 0) h rfl)]
  show Except.bind ((Reader.s2 : Decoder Int) code (pc + 1)) _ = _
  rw [show (Reader.s2 : Decoder Int) code (pc + 1) = Except.map (fun q => (Reader.signed 16 q.1, q.2)) ((Reader.u2 : Decoder Nat) code (pc + 1)) from by show Except.bind _ _ = _; cases (Reader.u2 : Decoder Nat) code (pc + 1) <;> rfl, dc_u2 (p := pc + 1) (dcb_at (i := 1) h rfl) (dcb_at (i := 2) h rfl)]
  rfl)
theorem dc_159 {code : ByteArray} {pc a b : Nat} {v : Int} (h : dcb code pc 3 = [159, a, b]) (e : Reader.signed 16 (a * 256 + b) = v) : decode code pc = .ok (.if_icmp .eq v, 3) := dc_of (by
  subst e
  show Except.bind ((Reader.u1 : Decoder Nat) code pc) _ = _
  rw [dc_u1 (p := pc) (dcb_at (i := 0) h rfl)]
  show Except.bind ((Reader.s2 : Decoder Int) code (pc + 1)) _ = _
  rw [show (Reader.s2 : Decoder Int) code (pc + 1) = Except.map (fun q => (Reader.signed 16 q.1, q.2)) ((Reader.u2 : Decoder Nat) code (pc + 1)) from by show Except.bind _ _ = _; cases (Reader.u2 : Decoder Nat) code (pc + 1) <;> rfl, dc_u2 (p := pc + 1) (dcb_at (i := 1) h rfl) (dcb_at (i := 2) h rfl)]
  rfl)
theorem dc_160 {code : ByteArray} {pc a b : Nat} {v : Int} (h : dcb code pc 3 = [160, a, b]) (e : Reader.signed 16 (a * 256 + b) = v) : decode code pc = .ok (.if_icmp .ne v, 3) := dc_of (by
  subst e
  show Except.bind ((Reader.u1 : Decoder Nat) code pc) _ = _
  rw [dc_u1 (p := pc) (dcb_at (i := 0) h rfl)]
  show Except.bind ((Reader.s2 : Decoder Int) code (pc + 1)) _ = _
  rw [show (Reader.s2 : Decoder Int) code (pc + 1) = Except.map (fun q => (Reader.signed 16 q.1, q.2)) ((Reader.u2 : Decoder Nat) code (pc + 1)) from by show Except.bind _ _ = _; cases (Reader.u2 : Decoder Nat) code (pc + 1) <;> rfl, dc_u2 (p := pc + 1) (dcb_at (i := 1) h rfl) (dcb_at (i := 2) h rfl)]
  rfl)
theorem dc_161 {code : ByteArray} {pc a b : Nat} {v : Int} (h : dcb code pc 3 = [161, a, b]) (e : Reader.signed 16 (a * 256 + b) = v) : decode code pc = .ok (.if_icmp .lt v, 3) := dc_of (by
  subst e
  show Except.bind ((Reader.u1 : Decoder Nat) code pc) _ = _
  rw [dc_u1 (p := pc) (dcb_at (i := 0) h rfl)]
  show Except.bind ((Reader.s2 : Decoder Int) code (pc + 1)) _ = _
  rw [show (Reader.s2 : Decoder Int) code (pc + 1) = Except.map (fun q => (Reader.signed 16 q.1, q.2)) ((Reader.u2 : Decoder Nat) code (pc + 1)) from by show Except.bind _ _ = _; cases (Reader.u2 : Decoder Nat) code (pc + 1) <;> rfl, dc_u2 (p := pc + 1) (dcb_at (i := 1) h rfl) (dcb_at (i := 2) h rfl)]
  rfl)
theorem dc_162 {code : ByteArray} {pc a b : Nat} {v : Int} (h : dcb code pc 3 = [162, a, b]) (e : Reader.signed 16 (a * 256 + b) = v) : decode code pc = .ok (.if_icmp .ge v, 3) := dc_of (by
  subst e
  show Except.bind ((Reader.u1 : Decoder Nat) code pc) _ = _
  rw [dc_u1 (p := pc) (dcb_at (i := 0) h rfl)]
  show Except.bind ((Reader.s2 : Decoder Int) code (pc + 1)) _ = _
  rw [show (Reader.s2 : Decoder Int) code (pc + 1) = Except.map (fun q => (Reader.signed 16 q.1, q.2)) ((Reader.u2 : Decoder Nat) code (pc + 1)) from by show Except.bind _ _ = _; cases (Reader.u2 : Decoder Nat) code (pc + 1) <;> rfl, dc_u2 (p := pc + 1) (dcb_at (i := 1) h rfl) (dcb_at (i := 2) h rfl)]
  rfl)
theorem dc_163 {code : ByteArray} {pc a b : Nat} {v : Int} (h : dcb code pc 3 = [163, a, b]) (e : Reader.signed 16 (a * 256 + b) = v) : decode code pc = .ok (.if_icmp .gt v, 3) := dc_of (by
  subst e
  show Except.bind ((Reader.u1 : Decoder Nat) code pc) _ = _
  rw [dc_u1 (p := pc) (dcb_at (i := 0) h rfl)]
  show Except.bind ((Reader.s2 : Decoder Int) code (pc + 1)) _ = _
  rw [show (Reader.s2 : Decoder Int) code (pc + 1) = Except.map (fun q => (Reader.signed 16 q.1, q.2)) ((Reader.u2 : Decoder Nat) code (pc + 1)) from by show Except.bind _ _ = _; cases (Reader.u2 : Decoder Nat) code (pc + 1) <;> rfl, dc_u2 (p := pc + 1) (dcb_at (i := 1) h rfl) (dcb_at (i := 2) h rfl)]
  rfl)
theorem dc_164 {code : ByteArray} {pc a b : Nat} {v : Int} (h : dcb code pc 3 = [164, a, b]) (e : Reader.signed 16 (a * 256 + b) = v) : decode code pc = .ok (.if_icmp .le v, 3) := dc_of (by
  subst e
  show Except.bind ((Reader.u1 : Decoder Nat) code pc) _ = _
  rw [dc_u1 (p := pc) (dcb_at (i := 0) h rfl)]
  show Except.bind ((Reader.s2 : Decoder Int) code (pc + 1)) _ = _
  rw [show (Reader.s2 : Decoder Int) code (pc + 1) = Except.map (fun q => (Reader.signed 16 q.1, q.2)) ((Reader.u2 : Decoder Nat) code (pc + 1)) from by show Except.bind _ _ = _; cases (Reader.u2 : Decoder Nat) code (pc + 1) <;> rfl, dc_u2 (p := pc + 1) (dcb_at (i := 1) h rfl) (dcb_at (i := 2) h rfl)]
  rfl)
theorem dc_167 {code : ByteArray} {pc a b : Nat} {v : Int} (h : dcb code pc 3 = [167, a, b]) (e : Reader.signed 16 (a * 256 + b) = v) : decode code pc = .ok (.goto v, 3) := dc_of (by
  subst e
  show Except.bind ((Reader.u1 : Decoder Nat) code pc) _ = _
  rw [dc_u1 (p := pc) (dcb_at (i := 0) h rfl)]
  show Except.bind ((Reader.s2 : Decoder Int) code (pc + 1)) _ = _
  rw [show (Reader.s2 : Decoder Int) code (pc + 1) = Except.map (fun q => (Reader.signed 16 q.1, q.2)) ((Reader.u2 : Decoder Nat) code (pc + 1)) from by show Except.bind _ _ = _; cases (Reader.u2 : Decoder Nat) code (pc + 1) <;> rfl, dc_u2 (p := pc + 1) (dcb_at (i := 1) h rfl) (dcb_at (i := 2) h rfl)]
  rfl)
theorem dc_172 {code : ByteArray} {pc : Nat} (h : dcb code pc 1 = [172]) : decode code pc = .ok (.ireturn, 1) := dc_of (by
  show Except.bind ((Reader.u1 : Decoder Nat) code pc) _ = _
  rw [dc_u1 (p := pc) (dcb_at (i := 0) h rfl)]
  rfl)
theorem dc_173 {code : ByteArray} {pc : Nat} (h : dcb code pc 1 = [173]) : decode code pc = .ok (.lreturn, 1) := dc_of (by
  show Except.bind ((Reader.u1 : Decoder Nat) code pc) _ = _
  rw [dc_u1 (p := pc) (dcb_at (i := 0) h rfl)]
  rfl)
theorem dc_176 {code : ByteArray} {pc : Nat} (h : dcb code pc 1 = [176]) : decode code pc = .ok (.areturn, 1) := dc_of (by
  show Except.bind ((Reader.u1 : Decoder Nat) code pc) _ = _
  rw [dc_u1 (p := pc) (dcb_at (i := 0) h rfl)]
  rfl)
theorem dc_177 {code : ByteArray} {pc : Nat} (h : dcb code pc 1 = [177]) : decode code pc = .ok (.return_, 1) := dc_of (by
  show Except.bind ((Reader.u1 : Decoder Nat) code pc) _ = _
  rw [dc_u1 (p := pc) (dcb_at (i := 0) h rfl)]
  rfl)
theorem dc_178 {code : ByteArray} {pc a b : Nat} {v : Nat} (h : dcb code pc 3 = [178, a, b]) (e : a * 256 + b = v) : decode code pc = .ok (.getstatic v, 3) := dc_of (by
  subst e
  show Except.bind ((Reader.u1 : Decoder Nat) code pc) _ = _
  rw [dc_u1 (p := pc) (dcb_at (i := 0) h rfl)]
  show Except.bind ((Reader.u2 : Decoder Nat) code (pc + 1)) _ = _
  rw [dc_u2 (p := pc + 1) (dcb_at (i := 1) h rfl) (dcb_at (i := 2) h rfl)]
  rfl)
theorem dc_180 {code : ByteArray} {pc a b : Nat} {v : Nat} (h : dcb code pc 3 = [180, a, b]) (e : a * 256 + b = v) : decode code pc = .ok (.getfield v, 3) := dc_of (by
  subst e
  show Except.bind ((Reader.u1 : Decoder Nat) code pc) _ = _
  rw [dc_u1 (p := pc) (dcb_at (i := 0) h rfl)]
  show Except.bind ((Reader.u2 : Decoder Nat) code (pc + 1)) _ = _
  rw [dc_u2 (p := pc + 1) (dcb_at (i := 1) h rfl) (dcb_at (i := 2) h rfl)]
  rfl)
theorem dc_181 {code : ByteArray} {pc a b : Nat} {v : Nat} (h : dcb code pc 3 = [181, a, b]) (e : a * 256 + b = v) : decode code pc = .ok (.putfield v, 3) := dc_of (by
  subst e
  show Except.bind ((Reader.u1 : Decoder Nat) code pc) _ = _
  rw [dc_u1 (p := pc) (dcb_at (i := 0) h rfl)]
  show Except.bind ((Reader.u2 : Decoder Nat) code (pc + 1)) _ = _
  rw [dc_u2 (p := pc + 1) (dcb_at (i := 1) h rfl) (dcb_at (i := 2) h rfl)]
  rfl)
theorem dc_182 {code : ByteArray} {pc a b : Nat} {v : Nat} (h : dcb code pc 3 = [182, a, b]) (e : a * 256 + b = v) : decode code pc = .ok (.invokevirtual v, 3) := dc_of (by
  subst e
  show Except.bind ((Reader.u1 : Decoder Nat) code pc) _ = _
  rw [dc_u1 (p := pc) (dcb_at (i := 0) h rfl)]
  show Except.bind ((Reader.u2 : Decoder Nat) code (pc + 1)) _ = _
  rw [dc_u2 (p := pc + 1) (dcb_at (i := 1) h rfl) (dcb_at (i := 2) h rfl)]
  rfl)
theorem dc_183 {code : ByteArray} {pc a b : Nat} {v : Nat} (h : dcb code pc 3 = [183, a, b]) (e : a * 256 + b = v) : decode code pc = .ok (.invokespecial v, 3) := dc_of (by
  subst e
  show Except.bind ((Reader.u1 : Decoder Nat) code pc) _ = _
  rw [dc_u1 (p := pc) (dcb_at (i := 0) h rfl)]
  show Except.bind ((Reader.u2 : Decoder Nat) code (pc + 1)) _ = _
  rw [dc_u2 (p := pc + 1) (dcb_at (i := 1) h rfl) (dcb_at (i := 2) h rfl)]
  rfl)
theorem dc_184 {code : ByteArray} {pc a b : Nat} {v : Nat} (h : dcb code pc 3 = [184, a, b]) (e : a * 256 + b = v) : decode code pc = .ok (.invokestatic v, 3) := dc_of (by
  subst e
  show Except.bind ((Reader.u1 : Decoder Nat) code pc) _ = _
  rw [dc_u1 (p := pc) (dcb_at (i := 0) h rfl)]
  show Except.bind ((Reader.u2 : Decoder Nat) code (pc + 1)) _ = _
  rw [dc_u2 (p := pc + 1) (dcb_at (i := 1) h rfl) (dcb_at (i := 2) h rfl)]
  rfl)
theorem dc_187 {code : ByteArray} {pc a b : Nat} {v : Nat} (h : dcb code pc 3 = [187, a, b]) (e : a * 256 + b = v) : decode code pc = .ok (.new v, 3) := dc_of (by
  subst e
  show Except.bind ((Reader.u1 : Decoder Nat) code pc) _ = _
  rw [dc_u1 (p := pc) (dcb_at (i := 0) h rfl)]
  show Except.bind ((Reader.u2 : Decoder Nat) code (pc + 1)) _ = _
  rw [dc_u2 (p := pc + 1) (dcb_at (i := 1) h rfl) (dcb_at (i := 2) h rfl)]
  rfl)
theorem dc_189 {code : ByteArray} {pc a b : Nat} {v : Nat} (h : dcb code pc 3 = [189, a, b]) (e : a * 256 + b = v) : decode code pc = .ok (.anewarray v, 3) := dc_of (by
  subst e
  show Except.bind ((Reader.u1 : Decoder Nat) code pc) _ = _
  rw [dc_u1 (p := pc) (dcb_at (i := 0) h rfl)]
  show Except.bind ((Reader.u2 : Decoder Nat) code (pc + 1)) _ = _
  rw [dc_u2 (p := pc + 1) (dcb_at (i := 1) h rfl) (dcb_at (i := 2) h rfl)]
  rfl)
theorem dc_190 {code : ByteArray} {pc : Nat} (h : dcb code pc 1 = [190]) : decode code pc = .ok (.arraylength, 1) := dc_of (by
  show Except.bind ((Reader.u1 : Decoder Nat) code pc) _ = _
  rw [dc_u1 (p := pc) (dcb_at (i := 0) h rfl)]
  rfl)
end
section
abbrev Hp : Type := (Nat → Nat → Int32) × Int64
abbrev Sl : Type := Nat ⊕ Bool
abbrev Sk : Type := (Nat × Nat × Option (List Nat)) ⊕ (Nat × List Sl)
abbrev Xc : Type := va_G × (Nat → Nat) × (Nat → ClassId)
abbrev Pl : Type := List (Option Value)
def vv_ar (n : Nat) : Sk := .inl (0, n, none)
/-- a county at place k: 17 places -/
def vv_cty (k : Nat) : List Sk := [.inr (1, [.inl (k + 1), .inl (k + 7), .inl (k + 12), .inr false, .inr false]), .inr (2, [.inr false, .inr false, .inr false, .inr false, .inl (k + 2), .inl (k + 3), .inl (k + 4), .inl (k + 5), .inl (k + 6)]), vv_ar 16, vv_ar 16, vv_ar 16, vv_ar 16, vv_ar 16, .inr (3, [.inl (k + 8), .inl (k + 9), .inl (k + 10), .inl (k + 11), .inr false]), vv_ar 4, vv_ar 8, vv_ar 8, vv_ar 8, .inr (7, [.inl (k + 13), .inl (k + 14), .inl (k + 15), .inl (k + 16), .inr false]), vv_ar 8, vv_ar 8, vv_ar 8, vv_ar 8]
def vv_sk : List Sk := vv_cty 0 ++ vv_cty 17 ++ vv_cty 34 ++ vv_cty 51 ++ vv_cty 68 ++ [.inr (10, [.inl 0, .inl 17, .inl 86, .inl 87, .inl 88, .inl 89, .inl 93, .inl 102, .inl 104, .inl 107, .inr false]), .inl (3, 2, some [34, 51]), .inl (2, 2, none), .inr (5, [.inl 89, .inl 68, .inl 91, .inl 92, .inr false, .inr false, .inr false]), .inr (8, [.inl 90, .inr false, .inr false, .inr false, .inr false, .inr false]), .inl (1, 160, none), vv_ar 3, vv_ar 10, .inr (9, [.inl 94, .inl 101]), .inl (5, 6, some [95, 96, 97, 98, 99, 100]), vv_ar 16, vv_ar 16, vv_ar 16, vv_ar 16, vv_ar 16, vv_ar 16, vv_ar 6, .inr (4, [.inl 103, .inr false, .inr false]), vv_ar 4, .inr (0, [.inl 105, .inr false, .inl 106, .inr false, .inr false, .inr false, .inr false, .inr false]), vv_ar 48, vv_ar 10, .inl (4, 4, some [108, 110, 112, 114]), .inr (6, [.inl 109, .inr false, .inr false]), vv_ar 40, .inr (6, [.inl 111, .inr false, .inr false]), vv_ar 40, .inr (6, [.inl 113, .inr false, .inr false]), vv_ar 40, .inr (6, [.inl 115, .inr false, .inr false]), vv_ar 40, .inr (11, [.inl 117, .inl 118, .inr false, .inr false, .inr false, .inr false, .inl 119, .inr false, .inr false, .inr false, .inr false, .inr false, .inl 120, .inr false, .inl 121, .inr false, .inr false, .inr false, .inr false, .inr false, .inr false, .inr false, .inl 122, .inl 123, .inl 124, .inr false, .inr true, .inl 125, .inr false, .inl 126, .inr false, .inl 127, .inl 128, .inl 129, .inl 130, .inr false, .inl 131]), vv_ar 432, .inl (2, 2, none), vv_ar 144, vv_ar 6, vv_ar 160, vv_ar 128, vv_ar 4, vv_ar 4, vv_ar 48, vv_ar 4, vv_ar 16, vv_ar 4, vv_ar 4, vv_ar 160, vv_ar 20]
theorem vv_skN : vv_sk.length = 132 := by decide +kernel
def rv (ad : Nat → Nat) (v : Value) : Value := match v with
  | .ref k => .ref (ad k)
  | w => w
theorem rv_cat (ad : Nat → Nat) (v : Value) : (rv ad v).category = v.category := by cases v <;> rfl
/-- what a slot holds, by places -/
def slP (h : Hp) (k i : Nat) (sl : Sl) : Value := match sl with
  | .inl r => .ref r
  | .inr false => .int (h.1 k i)
  | .inr true => .long h.2
def clE (X : Xc) (h : Hp) (k : Nat) (q : Sk) : va_E := match q with
  | .inl (t, n, none) => .inl (X.2.2 t, n, .inl (h.1 k))
  | .inl (t, n, some f) => .inl (X.2.2 t, n, .inr (.inr (.inr (.inr (fun j => (f[j]?).map X.2.1)))))
  | .inr (ci, ss) => .inr (ci, ss.mapIdx (fun i sl => rv X.2.1 (slP h k i sl)))
def wsX (X : Xc) (h : Hp) : va_W := vv_sk.mapIdx (fun k q => (X.2.1 k, clE X h k q))
def tysX (X : Xc) : List (ClassId × FieldType) := [(X.2.2 0, .int), (X.2.2 1, .byte), (X.2.2 2, .boolean), (X.2.2 3, .object "RodOwes$County"), (X.2.2 4, .object "RodOwes$Sheet"), (X.2.2 5, .array .int)]
theorem wsX_get {X : Xc} {h : Hp} {k : Nat} {q : Sk} (hs : vv_sk[k]? = some q) : (wsX X h)[k]? = some (X.2.1 k, clE X h k q) := by
  unfold wsX
  rw [List.getElem?_mapIdx, hs]
  rfl
theorem wsX_inv {X : Xc} {h : Hp} {k : Nat} {q : Nat × va_E} (hs : (wsX X h)[k]? = some q) : k < 132 ∧ q.1 = X.2.1 k := by
  unfold wsX at hs
  rw [List.getElem?_mapIdx] at hs
  cases hq : vv_sk[k]? with
  | none => rw [hq] at hs; cases hs
  | some z =>
    rw [hq] at hs
    cases hs
    exact ⟨by have := (List.getElem?_eq_some_iff.mp hq).1; rw [vv_skN] at this; exact this, rfl⟩
def adOk (X : Xc) (A : Nat → Prop) : Prop := (∀ i j : Nat, i < 132 → j < 132 → X.2.1 i = X.2.1 j → i = j) ∧ ∀ k : Nat, k < 132 → A (X.2.1 k)
theorem adOk.D {X : Xc} {A : Nat → Prop} (h : adOk X A) (g : Hp) : va_D A (wsX X g) := by
  refine ⟨fun i j p q hi hj e => ?_, fun k q hk => ?_⟩
  · obtain ⟨a1, a2⟩ := wsX_inv hi
    obtain ⟨b1, b2⟩ := wsX_inv hj
    exact h.1 i j a1 b1 (by rw [← a2, ← b2]; exact e)
  · obtain ⟨a1, a2⟩ := wsX_inv hk
    rw [a2]
    exact h.2 k a1
/-- a row of a place replaced; one element; the long -/
def pR (h : Hp) (k : Nat) (f : Nat → Int32) : Hp := (fun a => if a = k then f else h.1 a, h.2)
def pI (h : Hp) (k i : Nat) (x : Int32) : Hp := pR h k (upd (h.1 k) i x)
def pL (h : Hp) (x : Int64) : Hp := (h.1, x)
theorem pR_eq (h : Hp) (k : Nat) (f : Nat → Int32) : (pR h k f).1 k = f := if_pos rfl
theorem pR_ne {h : Hp} {k j : Nat} {f : Nat → Int32} (e : j ≠ k) : (pR h k f).1 j = h.1 j := if_neg e
theorem pI_eq (h : Hp) (k i : Nat) (x : Int32) : (pI h k i x).1 k i = x := by rw [pI, pR_eq]; exact if_pos rfl
theorem pI_ne {h : Hp} {k j i : Nat} {x : Int32} (e : j ≠ k) : (pI h k i x).1 j = h.1 j := if_neg e
theorem pI_nei {h : Hp} {k i j : Nat} {x : Int32} (e : j ≠ i) : (pI h k i x).1 k j = h.1 k j := by rw [pI, pR_eq]; exact if_neg e
theorem clE_ne {X : Xc} {h : Hp} {k j : Nat} {f : Nat → Int32} (q : Sk) (e : j ≠ k) : clE X (pR h k f) j q = clE X h j q := by
  have e1 : (pR h k f).1 j = h.1 j := pR_ne e
  match q with
  | .inl (t, n, none) => simp only [clE, e1]
  | .inl (t, n, some f) => rfl
  | .inr (ci, ss) =>
    have e2 : (fun (i : Nat) (sl : Sl) => rv X.2.1 (slP (pR h k f) j i sl)) = (fun (i : Nat) (sl : Sl) => rv X.2.1 (slP h j i sl)) := by
      funext i sl
      match sl with
      | .inl r => rfl
      | .inr false => simp only [slP, e1]
      | .inr true => rfl
    simp only [clE, e2]
theorem wsX_upd {X : Xc} {h : Hp} {k : Nat} {q : Sk} {f : Nat → Int32} {E : va_E} (hs : vv_sk[k]? = some q) (hE : E = clE X (pR h k f) k q) : (wsX X h).set k (X.2.1 k, E) = wsX X (pR h k f) := by
  apply List.ext_getElem?
  intro j
  by_cases hj : j = k
  · subst hj
    rw [wsX_get (h := pR h j f) hs, hE]
    have hl : j < (wsX X h).length := by
      have := (List.getElem?_eq_some_iff.mp (wsX_get (X := X) (h := h) hs)).1
      exact this
    rw [List.getElem?_set_self hl]
  · rw [List.getElem?_set_ne (fun e => hj e.symm)]
    unfold wsX
    rw [List.getElem?_mapIdx, List.getElem?_mapIdx]
    cases hq : vv_sk[j]? with
    | none => rfl
    | some z =>
      show some (X.2.1 j, clE X h j z) = some (X.2.1 j, clE X (pR h k f) j z)
      rw [clE_ne z hj]
theorem wsX_row {X : Xc} {h : Hp} {k t n : Nat} {f : Nat → Int32} (hs : vv_sk[k]? = some (.inl (t, n, none))) : (wsX X h).set k (X.2.1 k, .inl (X.2.2 t, n, .inl f)) = wsX X (pR h k f) :=
  wsX_upd hs (by simp only [clE, pR_eq])
theorem wsX_fld {X : Xc} {h : Hp} {k ci i : Nat} {ss : List Sl} {x : Int32} (hs : vv_sk[k]? = some (.inr (ci, ss))) (hi : ss[i]? = some (.inr false)) : (wsX X h).set k (X.2.1 k, .inr (ci, (ss.mapIdx (fun i sl => rv X.2.1 (slP h k i sl))).set i (.int x))) = wsX X (pI h k i x) := by
  refine wsX_upd hs ?_
  simp only [clE]
  congr 2
  apply List.ext_getElem?
  intro j
  by_cases hj : j = i
  · subst hj
    have hl : j < (ss.mapIdx (fun i sl => rv X.2.1 (slP h k i sl))).length := by
      rw [List.length_mapIdx]
      exact (List.getElem?_eq_some_iff.mp hi).1
    rw [List.getElem?_set_self hl, List.getElem?_mapIdx, hi]
    show some _ = some _
    have : (pR h k (upd (h.1 k) j x)).1 k j = x := by rw [pR_eq]; exact if_pos rfl
    simp only [slP, rv, this]
  · rw [List.getElem?_set_ne (fun e => hj e.symm), List.getElem?_mapIdx, List.getElem?_mapIdx]
    cases hq : ss[j]? with
    | none => rfl
    | some z =>
      show some _ = some _
      have : (pR h k (upd (h.1 k) i x)).1 k j = h.1 k j := by rw [pR_eq]; exact if_neg hj
      match z with
      | .inl r => rfl
      | .inr false => simp only [slP, rv, this]
      | .inr true => rfl
def vv_noL (q : Sk) : Bool := match q with
  | .inl _ => true
  | .inr (_, ss) => ss.all (fun s => match s with | .inr true => false | _ => true)
theorem vv_oneL : ∀ k, k < 132 → k ≠ 116 → (vv_sk[k]?.map vv_noL) = some true := by decide +kernel
theorem clE_noL {X : Xc} {h : Hp} {k : Nat} {x : Int64} {q : Sk} (hq : vv_noL q = true) : clE X (pL h x) k q = clE X h k q := by
  match q with
  | .inl (t, n, none) => rfl
  | .inl (t, n, some f) => rfl
  | .inr (ci, ss) =>
    simp only [clE]
    congr 2
    apply List.ext_getElem?
    intro j
    rw [List.getElem?_mapIdx, List.getElem?_mapIdx]
    cases hz : ss[j]? with
    | none => rfl
    | some z =>
      have := List.all_eq_true.mp hq z (List.mem_of_getElem? hz)
      match z with
      | .inl r => rfl
      | .inr false => rfl
      | .inr true => cases this
theorem wsX_long {X : Xc} {h : Hp} {ci : Nat} {ss : List Sl} {x : Int64} (hs : vv_sk[116]? = some (.inr (ci, ss))) (hi : ss[26]? = some (.inr true)) (ho : ∀ j, j ≠ 26 → ss[j]? ≠ some (.inr true)) : (wsX X h).set 116 (X.2.1 116, .inr (ci, (ss.mapIdx (fun i sl => rv X.2.1 (slP h 116 i sl))).set 26 (.long x))) = wsX X (pL h x) := by
  apply List.ext_getElem?
  intro j
  by_cases hj : j = 116
  · subst hj
    rw [wsX_get (h := pL h x) hs]
    rw [List.getElem?_set_self (List.getElem?_eq_some_iff.mp (wsX_get (X := X) (h := h) hs)).1]
    congr 2
    simp only [clE]
    congr 2
    apply List.ext_getElem?
    intro j
    by_cases hj : j = 26
    · subst hj
      rw [List.getElem?_set_self (by rw [List.length_mapIdx]; exact (List.getElem?_eq_some_iff.mp hi).1), List.getElem?_mapIdx, hi]
      rfl
    · rw [List.getElem?_set_ne (fun e => hj e.symm), List.getElem?_mapIdx, List.getElem?_mapIdx]
      cases hq : ss[j]? with
      | none => rfl
      | some z =>
        show some _ = some _
        match z with
        | .inl r => rfl
        | .inr false => rfl
        | .inr true => exact absurd hq (ho j hj)
  · rw [List.getElem?_set_ne (fun e => hj e.symm)]
    unfold wsX
    rw [List.getElem?_mapIdx, List.getElem?_mapIdx]
    cases hq : vv_sk[j]? with
    | none => rfl
    | some z =>
      show some (X.2.1 j, clE X h j z) = some (X.2.1 j, clE X (pL h x) j z)
      have hl : j < 132 := by have := (List.getElem?_eq_some_iff.mp hq).1; rw [vv_skN] at this; exact this
      have h1 := vv_oneL j hl hj
      rw [hq] at h1
      rw [clE_noL (by simpa using h1)]
/-- what may be written: the world's cells, and what comes new -/
def vv_A (X : Xc) (sz : Nat) : Nat → Prop := fun q => (∃ k : Nat, k < 132 ∧ q = X.2.1 k) ∨ sz ≤ q
def vv_numL : List Int32 := [2, 2, 1, 2, 2, 2, 1, 1, 1, 3]
def vv_leastL : List Int32 := [2, 2, 0, 0, 1, 0, 0, 0, 0, 0, 0, 0, 0, 0, 0, 0, 0, 0, 1, 0, 0, 1, 0, 0, 1, 0, 0, 0, 0, 1]
def vv_mostL : List Int32 := [4, 4, 0, 15, 9, 0, 15, 0, 0, 15, 10, 0, 15, 3, 0, 3, 99, 0, 9, 0, 0, 99, 0, 0, 9, 0, 0, 3, 3, 99]
def vv_txI : List Nat := [182, 184, 186, 187, 188, 190, 192, 193, 194, 196, 198, 199, 201, 203]
def vv_txS : List String := ["county", "wet", "iron", "odds", "claim", "purse", "cost", "price", "rod", "owe", "water", "steps", "wishes", "both"]
def vv_txL : List Nat := [6, 3, 4, 4, 5, 5, 4, 5, 3, 3, 5, 5, 6, 4]
def vv_txB : List (List Int32) := [[99, 111, 117, 110, 116, 121], [119, 101, 116], [105, 114, 111, 110], [111, 100, 100, 115], [99, 108, 97, 105, 109], [112, 117, 114, 115, 101], [99, 111, 115, 116], [112, 114, 105, 99, 101], [114, 111, 100], [111, 119, 101], [119, 97, 116, 101, 114], [115, 116, 101, 112, 115], [119, 105, 115, 104, 101, 115], [98, 111, 116, 104]]
def vv_nest : List (String × Nat × MethodName) := [(R_County, 116, y_Rod_oneIf), (R_County, 79, y_Rod_isOwner), (R_County, 86, y_Rod_isDepth), (R_Land, 78, y_Rod_natureOf), (R_Land, 81, y_Rod_reachOf)]
def vv_ro (X : Xc) (A : Nat → Prop) (U : State) (H : Heap) (nm : String) (k : Nat) (l : List Int32) : Prop := va_Z R_Reader nm "[I" (.ref (X.2.1 k)) A U H ∧ va_T .int (X.2.1 k) l.length (fun j => .int (l.getD j 0)) A U H
/-- the formatter: null, or at place 163 -/
def vv_fm (X : Xc) (A : Nat → Prop) (U : State) (H : Heap) : Prop := va_Z "jdk/internal/util/Preconditions" "SIOOBE_FORMATTER" "Ljava/util/function/BiFunction;" .null A U H ∨ va_Z "jdk/internal/util/Preconditions" "SIOOBE_FORMATTER" "Ljava/util/function/BiFunction;" (.ref (X.2.1 163)) A U H
/-- read alone: NUMBERS at 132, LEAST at 133, MOST at 134, the texts at 135 .. 148, their bytes at 149 .. 162 -/
def Ro (X : Xc) (A : Nat → Prop) (U : State) (H : Heap) : Prop :=
  vv_ro X A U H "NUMBERS" 132 vv_numL ∧ vv_ro X A U H "LEAST" 133 vv_leastL ∧ vv_ro X A U H "MOST" 134 vv_mostL ∧
  va_Z "java/lang/String" "COMPACT_STRINGS" "Z" (.int 1) A U H ∧ vv_fm X A U H ∧
  vk_S 14 vv_txL vv_txB (fun i => X.2.1 (135 + i)) (fun i => X.2.1 (149 + i)) A U H ∧
  (∀ i : Nat, i < 14 → vk_R R_Reader (vv_txI.getD i 0) (vv_txS.getD i "") (X.2.1 (135 + i)) U) ∧
  ∀ q ∈ vv_nest, va_Nw (.methodLinkNest q.1 q.2.1 q.2.2 R_Rod) U
theorem vv_ro.to {X : Xc} {A B : Nat → Prop} {s U : State} {H H1 : Heap} {nm : String} {k : Nat} {l : List Int32} (hvm : s.vm.Alike U.vm) (hq : ∀ a : Nat, a < H.size → ¬ A a → H1[a]? = H[a]?) (hAB : ∀ q, B q → A q) (h : vv_ro X A s H nm k l) : vv_ro X B U H1 nm k l :=
  ⟨((h.1.moved hvm).kept hq).narrow hAB, ((h.2.moved hvm).kept hq).narrow hAB⟩
theorem Ro.to {X : Xc} {A B : Nat → Prop} {s U : State} {H H1 : Heap} (hW : s.WarmedH U.vm) (hq : ∀ a : Nat, a < H.size → ¬ A a → H1[a]? = H[a]?) (hAB : ∀ q, B q → A q) (h : Ro X A s H) : Ro X B U H1 := by
  obtain ⟨h1, h2, h3, h4, h5, h6, h7, h8⟩ := h
  have hvm := hW.alike
  exact ⟨h1.to hvm hq hAB, h2.to hvm hq hAB, h3.to hvm hq hAB, ((h4.moved hvm).kept hq).narrow hAB, h5.imp (fun q => ((q.moved hvm).kept hq).narrow hAB) (fun q => ((q.moved hvm).kept hq).narrow hAB), ((h6.moved hvm).kept hq).narrow hAB, fun i hi => (h7 i hi).warm hW, fun q hm => va_Nw.warmM hW (h8 q hm)⟩
theorem Ro.blind {X : Xc} {A : Nat → Prop} {U : State} {H : Heap} (g : JFrame) (mk : MethodId) (a : Array Value) (h : Ro X A U H) : Ro X A (U.calling g mk a) H := by
  obtain ⟨h1, h2, h3, h4, h5, h6, h7, h8⟩ := h
  have hvm : U.vm.Alike (U.calling g mk a).vm := Vm.Alike.refl U.vm
  exact ⟨⟨h1.1.moved hvm, h1.2.moved hvm⟩, ⟨h2.1.moved hvm, h2.2.moved hvm⟩, ⟨h3.1.moved hvm, h3.2.moved hvm⟩, h4.moved hvm, h5.imp (fun q => q.moved hvm) (fun q => q.moved hvm), h6.moved hvm, fun i hi => vk_R.same (u := U) rfl (h7 i hi), fun q hm => va_Nw.same (u := U) rfl rfl (h8 q hm)⟩
end
section
def lh (ad : Nat → Nat) (lsA : Array Slot) (nL : Nat) (ls : Pl) : Prop := lsA.size = nL ∧ lv_wf lsA ∧ ∀ (i : Nat) (v : Value), ls[i]? = some (some v) → lsA[i]? = some (.val (rv ad v))
def rmOf (F L : Nat) : Room := { frames := F, cells := 0, slots := 0, locals := L }
def QcOf (X : Xc) (A : Nat → Prop) (post : Option Value → Hp → Prop) : Array Value → State → Outcome → State → Prop := fun _ st oc t => (∃ (r : Option Value) (h : Hp), oc = .returned (r.map (rv X.2.1)) ∧ post r h ∧ va_P X.1 classes (wsX X h) t.heap) ∧ va_F A st t
def Cx (own : String) (cc : ByteArray) (nL : Nat) (ret : Option FieldType) (p : Program) (s : State) (m : MethodId) (args : Array Value) (meth : Method) (c : Code) (X : Xc) (A : Nat → Prop) : Prop :=
  p.tables.exec = Jvm.exec ∧ c.code = cc ∧ c.maxLocals = nL ∧ s.vm.findClass own = some m.cls ∧ (∀ w ∈ vv_G, w.before args s = true) ∧ meth.locks = false ∧ meth.sig.returnType = ret ∧ va_K X.1 classes (tysX X) s ∧ adOk X A ∧ (∀ q : Nat, s.heap.size ≤ q → A q) ∧ Ro X A s s.heap
def V (own : String) (cc : ByteArray) (nL : Nat) (ret : Option FieldType) (F L : Nat) (post : Option Value → Hp → Prop) (h : Hp) (pc : Nat) (ls : Pl) (st : List Value) : Prop :=
  ∀ (p : Program) (l : Launch) (e : Env) (s : State) (m : MethodId) (args : Array Value) (below : List Frame) (meth : Method) (c : Code) (X : Xc) (A : Nat → Prop) (H : Heap) (locs : List Loc) (lsA : Array Slot),
    Cx own cc nL ret p s m args meth c X A → va_P X.1 classes (wsX X h) H → va_S A s.heap H locs → lh X.2.1 lsA nL ls →
    W p l e (rmOf F L) s m args below meth c H locs 0 0 (MQ below (QcOf X A post) args s 0 0 A) (F0 m pc lsA (st.map (rv X.2.1)))
/-- a method's contract at these arguments and this heap -/
def Ct (y : MethodName) (cc : ByteArray) (nL : Nat) (ret : Option FieldType) (F L : Nat) (As : List Value) (h : Hp) (post : Option Value → Hp → Prop) : Prop :=
  ∀ (l : Launch) (X : Xc) (sz : Nat), Met l y (.code y cc nL ret :: vv_G) (rmOf F L) (va_Pc (As.map (rv X.2.1)) (fun U => U.heap.size = sz ∧ va_P X.1 classes (wsX X h) U.heap ∧ va_K X.1 classes (tysX X) U ∧ adOk X (vv_A X sz) ∧ Ro X (vv_A X sz) U U.heap)) (QcOf X (vv_A X sz) post) 0 0 (vv_A X sz)
def argLs : List Value → Pl
  | [] => []
  | v :: vs => if v.category = 2 then some v :: none :: argLs vs else some v :: argLs vs
theorem argLs_in (ad : Nat → Nat) : ∀ (vs : List Value) (k i : Nat) (v : Value), (argLs vs)[i]? = some (some v) → (k + i, rv ad v) ∈ lv_args k (vs.map (rv ad)) := by
  intro vs
  induction vs with
  | nil => intro k i v h; cases h
  | cons w vs ih =>
    intro k i v h
    by_cases hc : w.category = 2
    · have e : argLs (w :: vs) = some w :: none :: argLs vs := by simp [argLs, hc]
      have e2 : lv_args k ((w :: vs).map (rv ad)) = (k, rv ad w) :: lv_args (k + 2) (vs.map (rv ad)) := by
        show (k, rv ad w) :: lv_args (if (rv ad w).category = 2 then k + 2 else k + 1) (vs.map (rv ad)) = _
        rw [rv_cat, if_pos hc]
      rw [e] at h
      rw [e2]
      match i, h with
      | 0, h => cases h; exact List.mem_cons_self
      | i + 2, h => 
        have := ih (k + 2) i v h
        rw [show k + (i + 2) = k + 2 + i by (first | decide +kernel | omega)]
        exact List.mem_cons_of_mem _ this
    · have e : argLs (w :: vs) = some w :: argLs vs := by simp [argLs, hc]
      have e2 : lv_args k ((w :: vs).map (rv ad)) = (k, rv ad w) :: lv_args (k + 1) (vs.map (rv ad)) := by
        show (k, rv ad w) :: lv_args (if (rv ad w).category = 2 then k + 2 else k + 1) (vs.map (rv ad)) = _
        rw [rv_cat, if_neg hc]
      rw [e] at h
      rw [e2]
      match i, h with
      | 0, h => cases h; exact List.mem_cons_self
      | i + 1, h =>
        have := ih (k + 1) i v h
        rw [show k + (i + 1) = k + 1 + i by (first | decide +kernel | omega)]
        exact List.mem_cons_of_mem _ this
theorem argLs_len (ad : Nat → Nat) (vs : List Value) : (lg_sl (vs.map (rv ad))).length = (argLs vs).length := by
  induction vs with
  | nil => rfl
  | cons w vs ih =>
    have e : lg_sl ((w :: vs).map (rv ad)) = lg_sl [rv ad w] ++ lg_sl (vs.map (rv ad)) := by simp [lg_sl]
    rw [e, List.length_append, ih]
    by_cases hc : w.category = 2
    · have h1 : (lg_sl [rv ad w]).length = 2 := by simp [lg_sl, rv_cat, hc]
      have h2 : argLs (w :: vs) = some w :: none :: argLs vs := by simp [argLs, hc]
      rw [h1, h2, List.length_cons, List.length_cons]; omega
    · have h1 : (lg_sl [rv ad w]).length = 1 := by simp [lg_sl, rv_cat, hc]
      have h2 : argLs (w :: vs) = some w :: argLs vs := by simp [argLs, hc]
      rw [h1, h2, List.length_cons]; omega
/-- a contract out of a walk from the entry -/
theorem ct_of {y : MethodName} {cc : ByteArray} {nL : Nat} {ret : Option FieldType} {F L : Nat} {As : List Value} {h : Hp} {post : Option Value → Hp → Prop} (ls : Pl) (hy : plainName y.cls = true) (hls : argLs As ++ List.replicate (nL - (argLs As).length) none = ls) (hn : (argLs As).length ≤ nL)
    (hV : V y.cls cc nL ret F L post h 0 ls []) : Ct y cc nL ret F L As h post := by
  intro l X sz
  refine Met.ofW (cc := cc) (maxL := nL) (ret := ret) hy rfl ?_
  intro p e s m args below meth c s₁ B hml hv
  obtain ⟨rfl, hsz, hP, hK, hA, hRo⟩ := hv
  have hts := atoms_spec (ws := .code y cc nL ret :: vv_G) B.pre
  subst hsz
  have hl := lv_entry (As.map (rv X.2.1)) (n := nL) (by rw [argLs_len]; exact hn)
  rw [lg_entry_eq]
  refine hV p l e s m _ below meth c X (vv_A X s.heap.size) s.heap [] _ ⟨B.exec, B.bytes, hml, findClass_of_methodNamed B.named, fun w hw => hts w (List.mem_cons_of_mem _ hw), B.notSynchronized, B.returns, hK, hA, fun q hq => Or.inr hq, hRo⟩ hP va_S.rf ⟨hl.1, hl.2.1, fun i v hi => ?_⟩
  rw [← hls] at hi
  by_cases hlt : i < (argLs As).length
  · rw [List.getElem?_append_left hlt] at hi
    have := hl.2.2 (i, rv X.2.1 v) (by have := argLs_in X.2.1 As 0 i v hi; rwa [Nat.zero_add] at this)
    exact this
  · rw [List.getElem?_append_right (by (first | decide +kernel | omega))] at hi
    have := List.eq_of_mem_replicate (List.mem_of_getElem? hi)
    cases this
theorem Ct.mono {y : MethodName} {cc : ByteArray} {nL : Nat} {ret : Option FieldType} {F L : Nat} {As : List Value} {h : Hp} {post post' : Option Value → Hp → Prop} (hc : Ct y cc nL ret F L As h post) (hp : ∀ r h', post r h' → post' r h') : Ct y cc nL ret F L As h post' := by
  intro l X sz p e ha hcx hk s m args below hf happ hpre hPc
  obtain ⟨t, o, a1, a2, a3, ⟨⟨⟨r, h', b1, b2, b3⟩, b4⟩, b5⟩⟩ := hc l X sz p e ha hcx hk s m args below hf happ hpre hPc
  exact ⟨t, o, a1, a2, a3, ⟨⟨⟨r, h', b1, hp r h' b2, b3⟩, b4⟩, b5⟩⟩
end
section
theorem ti_add {x y : Int32} {A B : Int} (ha : x.toInt = A) (hb : y.toInt = B) (h : -2147483648 ≤ A + B ∧ A + B ≤ 2147483647) : (x + y).toInt = A + B := by
  rw [Int32.toInt_add, ha, hb, Int.bmod_eq_of_le] <;> omega
theorem ti_sub {x y : Int32} {A B : Int} (ha : x.toInt = A) (hb : y.toInt = B) (h : -2147483648 ≤ A - B ∧ A - B ≤ 2147483647) : (x - y).toInt = A - B := by
  rw [Int32.toInt_sub, ha, hb, Int.bmod_eq_of_le] <;> omega
theorem ti_mul {x y : Int32} {A B : Int} (ha : x.toInt = A) (hb : y.toInt = B) (h : -2147483648 ≤ A * B ∧ A * B ≤ 2147483647) : (x * y).toInt = A * B := by
  rw [Int32.toInt_mul, ha, hb, Int.bmod_eq_of_le] <;> omega
theorem ti_lo (x : Int32) : -2147483648 ≤ x.toInt := by have := x.le_toInt; omega
theorem ti_hi (x : Int32) : x.toInt ≤ 2147483647 := by have := x.toInt_lt; omega
theorem ti_cl (x : Int32) : x.toNatClampNeg = x.toInt.toNat := rfl
theorem vp_in_of_ti {x : Int32} {A : Int} {n : Nat} (ha : x.toInt = A) (h : 0 ≤ A ∧ A < n) : vp_in x n := vp_in_iff.mpr (by rw [ha]; exact h)
theorem ti_lt {x y : Int32} {A B : Int} (ha : x.toInt = A) (hb : y.toInt = B) : x < y ↔ A < B := by rw [Int32.lt_iff_toInt_lt, ha, hb]
theorem ti_le {x y : Int32} {A B : Int} (ha : x.toInt = A) (hb : y.toInt = B) : x ≤ y ↔ A ≤ B := by rw [Int32.le_iff_toInt_le, ha, hb]
theorem ti_eq {x y : Int32} {A B : Int} (ha : x.toInt = A) (hb : y.toInt = B) : x = y ↔ A = B := by rw [← Int32.toInt_inj, ha, hb]
theorem ti_0 : (0 : Int32).toInt = 0 := rfl
theorem ti_div {x y : Int32} {A B : Int} (ha : x.toInt = A) (hb : y.toInt = B) (h0 : 0 ≤ A) (hB : 0 < B) : (x / y).toInt = A / B := by
  have h2 := x.toInt_lt
  have h3 := Int.ediv_le_self B h0
  have h4 := Int.ediv_nonneg h0 (Int.le_of_lt hB)
  rw [Int32.toInt_div, ha, hb, Int.tdiv_eq_ediv_of_nonneg h0, Int.bmod_eq_of_le] <;> omega
theorem ti_rem {x y : Int32} {A B : Int} (ha : x.toInt = A) (hb : y.toInt = B) (h0 : 0 ≤ A) (hB : 0 < B) : (x - x / y * y).toInt = A % B := by
  have h2 := x.toInt_lt
  have h3 := Int.mul_ediv_add_emod A B
  have h4 := Int.emod_nonneg A (Int.ne_of_gt hB)
  have h5 := Int.emod_lt_of_pos A hB
  have h6 : A / B * B = A - A % B := by rw [Int.mul_comm]; omega
  have h7 := Int.mul_nonneg (Int.ediv_nonneg h0 (Int.le_of_lt hB)) (Int.le_of_lt hB)
  rw [ti_sub (A := A) (B := A / B * B) ha (ti_mul (ti_div ha hb h0 hB) hb (by (first | decide +kernel | omega))) (by (first | decide +kernel | omega))]
  omega

section VR
variable {own : String} {cc : ByteArray} {nL : Nat} {ret : Option FieldType} {F L : Nat} {post : Option Value → Hp → Prop} {h : Hp} {pc : Nat} {ls : Pl} {st : List Value}
theorem V_iconst {n : Int} (v : Int32) (d : decode cc pc = .ok (.iconst n, 1)) (hv : Int32.ofInt n = v) (k : V own cc nL ret F L post h (pc + 1) ls (.int v :: st)) : V own cc nL ret F L post h pc ls (st) := fun p l e s m args below meth c X A H locs lsA C hP hS hl => lv_iconst C.1 C.2.1 d hv (k p l e s m args below meth c X A H locs lsA C hP hS hl)
theorem V_bipush {n : Int} (v : Int32) (d : decode cc pc = .ok (.bipush n, 2)) (hv : (Int8.ofInt n).toInt32 = v) (k : V own cc nL ret F L post h (pc + 2) ls (.int v :: st)) : V own cc nL ret F L post h pc ls (st) := fun p l e s m args below meth c X A H locs lsA C hP hS hl => lv_bipush C.1 C.2.1 d hv (k p l e s m args below meth c X A H locs lsA C hP hS hl)
theorem V_sipush {n : Int} (v : Int32) (d : decode cc pc = .ok (.sipush n, 3)) (hv : (Int16.ofInt n).toInt32 = v) (k : V own cc nL ret F L post h (pc + 3) ls (.int v :: st)) : V own cc nL ret F L post h pc ls (st) := fun p l e s m args below meth c X A H locs lsA C hP hS hl => lv_sipush C.1 C.2.1 d hv (k p l e s m args below meth c X A H locs lsA C hP hS hl)
theorem V_lconst {n : Fin 2} (v : Int64) (d : decode cc pc = .ok (.lconst n, 1)) (hv : Int64.ofNat (n : Nat) = v) (k : V own cc nL ret F L post h (pc + 1) ls (.long v :: st)) : V own cc nL ret F L post h pc ls (st) := fun p l e s m args below meth c X A H locs lsA C hP hS hl => lv_lconst C.1 C.2.1 d hv (k p l e s m args below meth c X A H locs lsA C hP hS hl)
theorem V_ldc {i : Nat} {v : Int32} (d : decode cc pc = .ok (.ldc i, 2)) (hw : Cond.constant own i v ∈ vv_G) (k : V own cc nL ret F L post h (pc + 2) ls (.int v :: st)) : V own cc nL ret F L post h pc ls (st) := fun p l e s m args below meth c X A H locs lsA C hP hS hl => lv_ldc C.1 C.2.1 C.2.2.2.1 (C.2.2.2.2.1 _ hw) d (k p l e s m args below meth c X A H locs lsA C hP hS hl)
theorem V_ldcw {i : Nat} {v : Int32} (d : decode cc pc = .ok (.ldc_w i, 3)) (hw : Cond.constant own i v ∈ vv_G) (k : V own cc nL ret F L post h (pc + 3) ls (.int v :: st)) : V own cc nL ret F L post h pc ls (st) := fun p l e s m args below meth c X A H locs lsA C hP hS hl => lv_ldcw C.1 C.2.1 C.2.2.2.1 (C.2.2.2.2.1 _ hw) d (k p l e s m args below meth c X A H locs lsA C hP hS hl)
theorem V_ldc2 {i : Nat} {v : Int64} (d : decode cc pc = .ok (.ldc2_w i, 3)) (hw : Cond.constantLong own i v ∈ vv_G) (k : V own cc nL ret F L post h (pc + 3) ls (.long v :: st)) : V own cc nL ret F L post h pc ls (st) := fun p l e s m args below meth c X A H locs lsA C hP hS hl => lv_ldc2 C.1 C.2.1 C.2.2.2.1 (C.2.2.2.2.1 _ hw) d (k p l e s m args below meth c X A H locs lsA C hP hS hl)
theorem V_iload_n {n : Fin 4} (i : Nat) {x : Int32} (d : decode cc pc = .ok (.iload_n n, 1)) (hi : (n : Nat) = i) (hx : ls[i]? = some (some (.int x))) (k : V own cc nL ret F L post h (pc + 1) ls (.int x :: st)) : V own cc nL ret F L post h pc ls (st) := fun p l e s m args below meth c X A H locs lsA C hP hS hl => lv_iload_n C.1 C.2.1 d hi (hl.2.2 i _ hx) (k p l e s m args below meth c X A H locs lsA C hP hS hl)
theorem V_iload {i : Nat} {x : Int32} (d : decode cc pc = .ok (.iload i, 2)) (hx : ls[i]? = some (some (.int x))) (k : V own cc nL ret F L post h (pc + 2) ls (.int x :: st)) : V own cc nL ret F L post h pc ls (st) := fun p l e s m args below meth c X A H locs lsA C hP hS hl => lv_iload C.1 C.2.1 d (hl.2.2 i _ hx) (k p l e s m args below meth c X A H locs lsA C hP hS hl)
theorem V_lload_n {n : Fin 4} (i : Nat) {x : Int64} (d : decode cc pc = .ok (.lload_n n, 1)) (hi : (n : Nat) = i) (hx : ls[i]? = some (some (.long x))) (k : V own cc nL ret F L post h (pc + 1) ls (.long x :: st)) : V own cc nL ret F L post h pc ls (st) := fun p l e s m args below meth c X A H locs lsA C hP hS hl => lv_lload_n C.1 C.2.1 d hi (hl.2.2 i _ hx) (k p l e s m args below meth c X A H locs lsA C hP hS hl)
theorem V_lload {i : Nat} {x : Int64} (d : decode cc pc = .ok (.lload i, 2)) (hx : ls[i]? = some (some (.long x))) (k : V own cc nL ret F L post h (pc + 2) ls (.long x :: st)) : V own cc nL ret F L post h pc ls (st) := fun p l e s m args below meth c X A H locs lsA C hP hS hl => lv_lload C.1 C.2.1 d (hl.2.2 i _ hx) (k p l e s m args below meth c X A H locs lsA C hP hS hl)
theorem V_aload_n {n : Fin 4} (i : Nat) {x : Nat} (d : decode cc pc = .ok (.aload_n n, 1)) (hi : (n : Nat) = i) (hx : ls[i]? = some (some (.ref x))) (k : V own cc nL ret F L post h (pc + 1) ls (.ref x :: st)) : V own cc nL ret F L post h pc ls (st) := fun p l e s m args below meth c X A H locs lsA C hP hS hl => lv_aload_n C.1 C.2.1 d hi (hl.2.2 i _ hx) (k p l e s m args below meth c X A H locs lsA C hP hS hl)
theorem V_aload {i : Nat} {x : Nat} (d : decode cc pc = .ok (.aload i, 2)) (hx : ls[i]? = some (some (.ref x))) (k : V own cc nL ret F L post h (pc + 2) ls (.ref x :: st)) : V own cc nL ret F L post h pc ls (st) := fun p l e s m args below meth c X A H locs lsA C hP hS hl => lv_aload C.1 C.2.1 d (hl.2.2 i _ hx) (k p l e s m args below meth c X A H locs lsA C hP hS hl)
def okS (ls : Pl) (i : Nat) : Bool := match i with
  | 0 => true
  | j + 1 => match ls[j]? with
    | some (some v) => v.category == 1
    | _ => true
def asc (ad : Nat → Nat) (ls : Pl) : List (Nat × Value) := ls.zipIdx.filterMap (fun q => q.1.map (fun v => (q.2, rv ad v)))
theorem asc_in {ad : Nat → Nat} {ls : Pl} {i : Nat} {v : Value} (h : ls[i]? = some (some v)) : (i, rv ad v) ∈ asc ad ls := by
  refine List.mem_filterMap.mpr ⟨(some v, i), ?_, rfl⟩
  exact List.mem_zipIdx_iff_getElem?.mpr h
theorem asc_has {ad : Nat → Nat} {lsA : Array Slot} {nL : Nat} {ls : Pl} (h : lh ad lsA nL ls) : lv_has lsA nL (asc ad ls) := by
  refine ⟨h.1, h.2.1, fun q hq => ?_⟩
  obtain ⟨⟨o, i⟩, h1, h2⟩ := List.mem_filterMap.mp hq
  cases o with
  | none => cases h2
  | some v =>
    cases h2
    exact h.2.2 i v (List.mem_zipIdx_iff_getElem?.mp h1)
theorem lh_set1 {ad : Nat → Nat} {lsA : Array Slot} {nL i : Nat} {ls ls' : Pl} {v w : Value} (hw : rv ad v = w) (ho : okS ls i = true) (hl' : ls.set i (some v) = ls') (h : lv_has lsA nL ((i, w) :: (asc ad ls).filter (fun q => !(q.1 == i) && !(q.1 + 1 == i && q.2.category == 2)))) : lh ad lsA nL ls' := by
  refine ⟨h.1, h.2.1, fun j u hj => ?_⟩
  subst hl'
  by_cases e : j = i
  · subst e
    by_cases hlt : j < ls.length
    · rw [List.getElem?_set_self hlt] at hj
      cases hj
      rw [hw]
      exact h.2.2 (j, w) List.mem_cons_self
    · rw [List.getElem?_eq_none (by rw [List.length_set]; omega)] at hj
      cases hj
  · rw [List.getElem?_set_ne (fun q => e q.symm)] at hj
    refine h.2.2 (j, rv ad u) (List.mem_cons_of_mem _ (List.mem_filter.mpr ⟨asc_in hj, ?_⟩))
    have h1 : (j == i) = false := by simpa using e
    by_cases e2 : j + 1 = i
    · subst e2
      have h2 : u.category = 1 := by
        have := ho
        simp only [okS, hj] at this
        simpa using this
      simp [h1, rv_cat, h2]
    · have h2 : (j + 1 == i) = false := by simpa using e2
      simp [h1, h2]
theorem lh_set2 {ad : Nat → Nat} {lsA : Array Slot} {nL i : Nat} {ls ls' : Pl} {v w : Value} (hw : rv ad v = w) (ho : okS ls i = true) (hl' : (ls.set i (some v)).set (i + 1) none = ls') (h : lv_has lsA nL ((i, w) :: (asc ad ls).filter (fun q => !(q.1 == i) && (!(q.1 == i + 1) && !(q.1 + 1 == i && q.2.category == 2))))) : lh ad lsA nL ls' := by
  refine ⟨h.1, h.2.1, fun j u hj => ?_⟩
  subst hl'
  by_cases e9 : j = i + 1
  · subst e9
    by_cases hlt : i + 1 < ls.length
    · rw [List.getElem?_set_self (by rw [List.length_set]; exact hlt)] at hj
      cases hj
    · rw [List.getElem?_eq_none (by rw [List.length_set, List.length_set]; omega)] at hj
      cases hj
  rw [List.getElem?_set_ne (fun q => e9 q.symm)] at hj
  by_cases e : j = i
  · subst e
    by_cases hlt : j < ls.length
    · rw [List.getElem?_set_self hlt] at hj
      cases hj
      rw [hw]
      exact h.2.2 (j, w) List.mem_cons_self
    · rw [List.getElem?_eq_none (by rw [List.length_set]; omega)] at hj
      cases hj
  · rw [List.getElem?_set_ne (fun q => e q.symm)] at hj
    refine h.2.2 (j, rv ad u) (List.mem_cons_of_mem _ (List.mem_filter.mpr ⟨asc_in hj, ?_⟩))
    have h1 : (j == i) = false := by simpa using e
    have h9 : (j == i + 1) = false := by simpa using e9
    by_cases e2 : j + 1 = i
    · subst e2
      have h2 : u.category = 1 := by
        have := ho
        simp only [okS, hj] at this
        simpa using this
      simp [h1, h9, rv_cat, h2]
    · have h2 : (j + 1 == i) = false := by simpa using e2
      simp [h1, h9, h2]
theorem V_istore_n {n : Fin 4} (i : Nat) (ls1 : Pl) {x : Int32} (d : decode cc pc = .ok (.istore_n n, 1)) (hi : (n : Nat) = i) (hn : i < nL) (ho : okS ls i = true) (h1 : ls.set i (some (.int x)) = ls1) (k : V own cc nL ret F L post h (pc + 1) ls1 st) : V own cc nL ret F L post h pc ls (.int x :: st) := fun p l e s m args below meth c X A H locs lsA C hP hS hl => lv_istore_n C.1 C.2.1 d hi (asc_has hl) hn rfl (fun lsB hB => k p l e s m args below meth c X A H locs lsB C hP hS (lh_set1 rfl ho h1 hB))
theorem V_istore (i : Nat) (ls1 : Pl) {x : Int32} (d : decode cc pc = .ok (.istore i, 2)) (hn : i < nL) (ho : okS ls i = true) (h1 : ls.set i (some (.int x)) = ls1) (k : V own cc nL ret F L post h (pc + 2) ls1 st) : V own cc nL ret F L post h pc ls (.int x :: st) := fun p l e s m args below meth c X A H locs lsA C hP hS hl => lv_istore C.1 C.2.1 d (asc_has hl) hn rfl (fun lsB hB => k p l e s m args below meth c X A H locs lsB C hP hS (lh_set1 rfl ho h1 hB))
theorem V_lstore_n {n : Fin 4} (i : Nat) (ls1 : Pl) {x : Int64} (d : decode cc pc = .ok (.lstore_n n, 1)) (hi : (n : Nat) = i) (hn : i + 1 < nL) (ho : okS ls i = true) (h1 : (ls.set i (some (.long x))).set (i + 1) none = ls1) (k : V own cc nL ret F L post h (pc + 1) ls1 st) : V own cc nL ret F L post h pc ls (.long x :: st) := fun p l e s m args below meth c X A H locs lsA C hP hS hl => lv_lstore_n C.1 C.2.1 d hi (asc_has hl) hn rfl (fun lsB hB => k p l e s m args below meth c X A H locs lsB C hP hS (lh_set2 rfl ho h1 hB))
theorem V_lstore (i : Nat) (ls1 : Pl) {x : Int64} (d : decode cc pc = .ok (.lstore i, 2)) (hn : i + 1 < nL) (ho : okS ls i = true) (h1 : (ls.set i (some (.long x))).set (i + 1) none = ls1) (k : V own cc nL ret F L post h (pc + 2) ls1 st) : V own cc nL ret F L post h pc ls (.long x :: st) := fun p l e s m args below meth c X A H locs lsA C hP hS hl => lv_lstore C.1 C.2.1 d (asc_has hl) hn rfl (fun lsB hB => k p l e s m args below meth c X A H locs lsB C hP hS (lh_set2 rfl ho h1 hB))
theorem V_astore_n {n : Fin 4} (i : Nat) (ls1 : Pl) {x : Nat} (d : decode cc pc = .ok (.astore_n n, 1)) (hi : (n : Nat) = i) (hn : i < nL) (ho : okS ls i = true) (h1 : ls.set i (some (.ref x)) = ls1) (k : V own cc nL ret F L post h (pc + 1) ls1 st) : V own cc nL ret F L post h pc ls (.ref x :: st) := fun p l e s m args below meth c X A H locs lsA C hP hS hl => lv_astore_n C.1 C.2.1 d hi (asc_has hl) hn rfl (fun lsB hB => k p l e s m args below meth c X A H locs lsB C hP hS (lh_set1 rfl ho h1 hB))
theorem V_astore (i : Nat) (ls1 : Pl) {x : Nat} (d : decode cc pc = .ok (.astore i, 2)) (hn : i < nL) (ho : okS ls i = true) (h1 : ls.set i (some (.ref x)) = ls1) (k : V own cc nL ret F L post h (pc + 2) ls1 st) : V own cc nL ret F L post h pc ls (.ref x :: st) := fun p l e s m args below meth c X A H locs lsA C hP hS hl => lv_astore C.1 C.2.1 d (asc_has hl) hn rfl (fun lsB hB => k p l e s m args below meth c X A H locs lsB C hP hS (lh_set1 rfl ho h1 hB))
theorem V_iinc {n : Int} (i : Nat) (ls1 : Pl) {x v : Int32} (d : decode cc pc = .ok (.iinc i n, 3)) (hx : ls[i]? = some (some (.int x))) (hv : x + Int32.ofInt n = v) (hn : i < nL) (ho : okS ls i = true) (h1 : ls.set i (some (.int v)) = ls1) (k : V own cc nL ret F L post h (pc + 3) ls1 st) : V own cc nL ret F L post h pc ls st := fun p l e s m args below meth c X A H locs lsA C hP hS hl => by
  have hm : (i, Value.int x) ∈ asc X.2.1 ls := asc_in (ad := X.2.1) hx
  obtain ⟨q, hq⟩ := List.getElem?_of_mem hm
  exact lv_iinc C.1 C.2.1 d (asc_has hl) hq hv hn rfl (fun lsB hB => k p l e s m args below meth c X A H locs lsB C hP hS (lh_set1 rfl ho h1 hB))
/-- fewer locals are remembered -/
theorem V_ls (ls1 : Pl) (hs : ∀ (i : Nat) (v : Value), ls1[i]? = some (some v) → ls[i]? = some (some v)) (k : V own cc nL ret F L post h pc ls1 st) : V own cc nL ret F L post h pc ls st := fun p l e s m args below meth c X A H locs lsA C hP hS hl => k p l e s m args below meth c X A H locs lsA C hP hS ⟨hl.1, hl.2.1, fun i v hi => hl.2.2 i v (hs i v hi)⟩
theorem V_iadd {x y : Int32} {A B : Int} (ha : x.toInt = A) (hb : y.toInt = B) (hr : -2147483648 ≤ A + B ∧ A + B ≤ 2147483647) (d : decode cc pc = .ok (.iadd, 1)) (k : ∀ z : Int32, z = x + y → z.toInt = A + B → V own cc nL ret F L post h (pc + 1) ls (.int z :: st)) : V own cc nL ret F L post h pc ls (.int y :: .int x :: st) := fun p l e s m args below meth c X A9 H locs lsA C hP hS hl => lv_iadd C.1 C.2.1 d (k _ rfl (ti_add ha hb hr) p l e s m args below meth c X A9 H locs lsA C hP hS hl)
theorem V_iaddw {x y : Int32} (d : decode cc pc = .ok (.iadd, 1)) (k : ∀ z : Int32, z = x + y → V own cc nL ret F L post h (pc + 1) ls (.int z :: st)) : V own cc nL ret F L post h pc ls (.int y :: .int x :: st) := fun p l e s m args below meth c X A H locs lsA C hP hS hl => lv_iadd C.1 C.2.1 d (k _ rfl p l e s m args below meth c X A H locs lsA C hP hS hl)
theorem V_isub {x y : Int32} {A B : Int} (ha : x.toInt = A) (hb : y.toInt = B) (hr : -2147483648 ≤ A - B ∧ A - B ≤ 2147483647) (d : decode cc pc = .ok (.isub, 1)) (k : ∀ z : Int32, z = x - y → z.toInt = A - B → V own cc nL ret F L post h (pc + 1) ls (.int z :: st)) : V own cc nL ret F L post h pc ls (.int y :: .int x :: st) := fun p l e s m args below meth c X A9 H locs lsA C hP hS hl => lv_isub C.1 C.2.1 d (k _ rfl (ti_sub ha hb hr) p l e s m args below meth c X A9 H locs lsA C hP hS hl)
theorem V_isubw {x y : Int32} (d : decode cc pc = .ok (.isub, 1)) (k : ∀ z : Int32, z = x - y → V own cc nL ret F L post h (pc + 1) ls (.int z :: st)) : V own cc nL ret F L post h pc ls (.int y :: .int x :: st) := fun p l e s m args below meth c X A H locs lsA C hP hS hl => lv_isub C.1 C.2.1 d (k _ rfl p l e s m args below meth c X A H locs lsA C hP hS hl)
theorem V_imul {x y : Int32} {A B : Int} (ha : x.toInt = A) (hb : y.toInt = B) (hr : -2147483648 ≤ A * B ∧ A * B ≤ 2147483647) (d : decode cc pc = .ok (.imul, 1)) (k : ∀ z : Int32, z = x * y → z.toInt = A * B → V own cc nL ret F L post h (pc + 1) ls (.int z :: st)) : V own cc nL ret F L post h pc ls (.int y :: .int x :: st) := fun p l e s m args below meth c X A9 H locs lsA C hP hS hl => lv_imul C.1 C.2.1 d (k _ rfl (ti_mul ha hb hr) p l e s m args below meth c X A9 H locs lsA C hP hS hl)
theorem V_imulw {x y : Int32} (d : decode cc pc = .ok (.imul, 1)) (k : ∀ z : Int32, z = x * y → V own cc nL ret F L post h (pc + 1) ls (.int z :: st)) : V own cc nL ret F L post h pc ls (.int y :: .int x :: st) := fun p l e s m args below meth c X A H locs lsA C hP hS hl => lv_imul C.1 C.2.1 d (k _ rfl p l e s m args below meth c X A H locs lsA C hP hS hl)
theorem V_iand {x y : Int32} (d : decode cc pc = .ok (.iand, 1)) (k : ∀ z : Int32, z = x &&& y → V own cc nL ret F L post h (pc + 1) ls (.int z :: st)) : V own cc nL ret F L post h pc ls (.int y :: .int x :: st) := fun p l e s m args below meth c X A H locs lsA C hP hS hl => lv_iand C.1 C.2.1 d (k _ rfl p l e s m args below meth c X A H locs lsA C hP hS hl)
theorem V_ior {x y : Int32} (d : decode cc pc = .ok (.ior, 1)) (k : ∀ z : Int32, z = x ||| y → V own cc nL ret F L post h (pc + 1) ls (.int z :: st)) : V own cc nL ret F L post h pc ls (.int y :: .int x :: st) := fun p l e s m args below meth c X A H locs lsA C hP hS hl => lv_ior C.1 C.2.1 d (k _ rfl p l e s m args below meth c X A H locs lsA C hP hS hl)
theorem V_ixor {x y : Int32} (d : decode cc pc = .ok (.ixor, 1)) (k : ∀ z : Int32, z = x ^^^ y → V own cc nL ret F L post h (pc + 1) ls (.int z :: st)) : V own cc nL ret F L post h pc ls (.int y :: .int x :: st) := fun p l e s m args below meth c X A H locs lsA C hP hS hl => lv_ixor C.1 C.2.1 d (k _ rfl p l e s m args below meth c X A H locs lsA C hP hS hl)
theorem V_ishl {x y : Int32} (d : decode cc pc = .ok (.ishl, 1)) (k : ∀ z : Int32, z = x <<< (y &&& 31) → V own cc nL ret F L post h (pc + 1) ls (.int z :: st)) : V own cc nL ret F L post h pc ls (.int y :: .int x :: st) := fun p l e s m args below meth c X A H locs lsA C hP hS hl => lv_ishl C.1 C.2.1 d (k _ rfl p l e s m args below meth c X A H locs lsA C hP hS hl)
theorem V_ishr {x y : Int32} (d : decode cc pc = .ok (.ishr, 1)) (k : ∀ z : Int32, z = x >>> (y &&& 31) → V own cc nL ret F L post h (pc + 1) ls (.int z :: st)) : V own cc nL ret F L post h pc ls (.int y :: .int x :: st) := fun p l e s m args below meth c X A H locs lsA C hP hS hl => lv_ishr C.1 C.2.1 d (k _ rfl p l e s m args below meth c X A H locs lsA C hP hS hl)
theorem V_iushr {x y : Int32} (d : decode cc pc = .ok (.iushr, 1)) (k : ∀ z : Int32, z = (x.toUInt32 >>> (y.toUInt32 &&& Int32.toUInt32 31)).toInt32 → V own cc nL ret F L post h (pc + 1) ls (.int z :: st)) : V own cc nL ret F L post h pc ls (.int y :: .int x :: st) := fun p l e s m args below meth c X A H locs lsA C hP hS hl => lv_iushr C.1 C.2.1 d rfl (k _ rfl p l e s m args below meth c X A H locs lsA C hP hS hl)
theorem V_ineg {x : Int32} (d : decode cc pc = .ok (.ineg, 1)) (k : ∀ z : Int32, z = -x → V own cc nL ret F L post h (pc + 1) ls (.int z :: st)) : V own cc nL ret F L post h pc ls (.int x :: st) := fun p l e s m args below meth c X A H locs lsA C hP hS hl => lv_ineg C.1 C.2.1 d (k _ rfl p l e s m args below meth c X A H locs lsA C hP hS hl)
theorem V_idiv {x y : Int32} (hne : ¬ y = 0) (d : decode cc pc = .ok (.idiv, 1)) (k : ∀ z : Int32, z = x / y → V own cc nL ret F L post h (pc + 1) ls (.int z :: st)) : V own cc nL ret F L post h pc ls (.int y :: .int x :: st) := fun p l e s m args below meth c X A H locs lsA C hP hS hl => lv_idiv C.1 C.2.1 d hne (k _ rfl p l e s m args below meth c X A H locs lsA C hP hS hl)
theorem V_irem {x y : Int32} (hne : ¬ y = 0) (d : decode cc pc = .ok (.irem, 1)) (k : ∀ z : Int32, z = x - x / y * y → V own cc nL ret F L post h (pc + 1) ls (.int z :: st)) : V own cc nL ret F L post h pc ls (.int y :: .int x :: st) := fun p l e s m args below meth c X A H locs lsA C hP hS hl => lv_irem C.1 C.2.1 d hne (k _ rfl p l e s m args below meth c X A H locs lsA C hP hS hl)
theorem V_ladd {x y : Int64} (d : decode cc pc = .ok (.ladd, 1)) (k : ∀ z : Int64, z = x + y → V own cc nL ret F L post h (pc + 1) ls (.long z :: st)) : V own cc nL ret F L post h pc ls (.long y :: .long x :: st) := fun p l e s m args below meth c X A H locs lsA C hP hS hl => lv_ladd C.1 C.2.1 d (k _ rfl p l e s m args below meth c X A H locs lsA C hP hS hl)
theorem V_lsub {x y : Int64} (d : decode cc pc = .ok (.lsub, 1)) (k : ∀ z : Int64, z = x - y → V own cc nL ret F L post h (pc + 1) ls (.long z :: st)) : V own cc nL ret F L post h pc ls (.long y :: .long x :: st) := fun p l e s m args below meth c X A H locs lsA C hP hS hl => lv_lsub C.1 C.2.1 d (k _ rfl p l e s m args below meth c X A H locs lsA C hP hS hl)
theorem V_lmul {x y : Int64} (d : decode cc pc = .ok (.lmul, 1)) (k : ∀ z : Int64, z = x * y → V own cc nL ret F L post h (pc + 1) ls (.long z :: st)) : V own cc nL ret F L post h pc ls (.long y :: .long x :: st) := fun p l e s m args below meth c X A H locs lsA C hP hS hl => lv_lmul C.1 C.2.1 d (k _ rfl p l e s m args below meth c X A H locs lsA C hP hS hl)
theorem V_ldiv {x y : Int64} (hne : ¬ y = 0) (d : decode cc pc = .ok (.ldiv, 1)) (k : ∀ z : Int64, z = x / y → V own cc nL ret F L post h (pc + 1) ls (.long z :: st)) : V own cc nL ret F L post h pc ls (.long y :: .long x :: st) := fun p l e s m args below meth c X A H locs lsA C hP hS hl => lv_ldiv C.1 C.2.1 d hne (k _ rfl p l e s m args below meth c X A H locs lsA C hP hS hl)
theorem V_lrem {x y : Int64} (hne : ¬ y = 0) (d : decode cc pc = .ok (.lrem, 1)) (k : ∀ z : Int64, z = x - x / y * y → V own cc nL ret F L post h (pc + 1) ls (.long z :: st)) : V own cc nL ret F L post h pc ls (.long y :: .long x :: st) := fun p l e s m args below meth c X A H locs lsA C hP hS hl => lv_lrem C.1 C.2.1 d hne (k _ rfl p l e s m args below meth c X A H locs lsA C hP hS hl)
theorem V_lcmp {x y : Int64} (d : decode cc pc = .ok (.lcmp, 1)) (k : ∀ z : Int32, z = lg_cmp x y → V own cc nL ret F L post h (pc + 1) ls (.int z :: st)) : V own cc nL ret F L post h pc ls (.long y :: .long x :: st) := fun p l e s m args below meth c X A H locs lsA C hP hS hl => W.lcmp C.1 C.2.1 d (k _ rfl p l e s m args below meth c X A H locs lsA C hP hS hl)
theorem V_i2l {x : Int32} (d : decode cc pc = .ok (.i2l, 1)) (k : ∀ z : Int64, z = x.toInt64 → z.toInt = x.toInt → V own cc nL ret F L post h (pc + 1) ls (.long z :: st)) : V own cc nL ret F L post h pc ls (.int x :: st) := fun p l e s m args below meth c X A H locs lsA C hP hS hl => lv_i2l C.1 C.2.1 d rfl (k _ rfl (Int32.toInt_toInt64 x) p l e s m args below meth c X A H locs lsA C hP hS hl)
theorem V_i2b {x : Int32} (d : decode cc pc = .ok (.i2b, 1)) (k : ∀ z : Int32, z = x.toInt8.toInt32 → V own cc nL ret F L post h (pc + 1) ls (.int z :: st)) : V own cc nL ret F L post h pc ls (.int x :: st) := fun p l e s m args below meth c X A H locs lsA C hP hS hl => lv_i2b C.1 C.2.1 d rfl (k _ rfl p l e s m args below meth c X A H locs lsA C hP hS hl)
theorem V_i2s {x : Int32} (d : decode cc pc = .ok (.i2s, 1)) (k : ∀ z : Int32, z = x.toInt16.toInt32 → V own cc nL ret F L post h (pc + 1) ls (.int z :: st)) : V own cc nL ret F L post h pc ls (.int x :: st) := fun p l e s m args below meth c X A H locs lsA C hP hS hl => lv_i2s C.1 C.2.1 d rfl (k _ rfl p l e s m args below meth c X A H locs lsA C hP hS hl)
theorem V_dup {v : Value} (d : decode cc pc = .ok (.dup, 1)) (hv : v.category = 1) (k : V own cc nL ret F L post h (pc + 1) ls (v :: v :: st)) : V own cc nL ret F L post h pc ls (v :: st) := fun p l e s m args below meth c X A H locs lsA C hP hS hl => lv_dup C.1 C.2.1 d ((rv_cat _ _).trans hv) (k p l e s m args below meth c X A H locs lsA C hP hS hl)
theorem V_pop {v : Value} (d : decode cc pc = .ok (.pop, 1)) (hv : v.category = 1) (k : V own cc nL ret F L post h (pc + 1) ls (st)) : V own cc nL ret F L post h pc ls (v :: st) := fun p l e s m args below meth c X A H locs lsA C hP hS hl => lv_pop C.1 C.2.1 d ((rv_cat _ _).trans hv) (k p l e s m args below meth c X A H locs lsA C hP hS hl)
theorem V_dup2 {v w : Value} (d : decode cc pc = .ok (.dup2, 1)) (hv : v.category = 1) (hw : w.category = 1) (k : V own cc nL ret F L post h (pc + 1) ls (v :: w :: v :: w :: st)) : V own cc nL ret F L post h pc ls (v :: w :: st) := fun p l e s m args below meth c X A H locs lsA C hP hS hl => lv_dup2_11 C.1 C.2.1 d ((rv_cat _ _).trans hv) ((rv_cat _ _).trans hw) (k p l e s m args below meth c X A H locs lsA C hP hS hl)
theorem V_icmp_eq {x y : Int32} {A B : Int} {off : Int} (tgt : Nat) (ha : x.toInt = A) (hb : y.toInt = B) (d : decode cc pc = .ok (.if_icmp .eq off, 3)) (ht : (pc : Int) + off = (tgt : Int)) (kt : A = B → V own cc nL ret F L post h tgt ls st) (kf : ¬ A = B → V own cc nL ret F L post h (pc + 3) ls st) : V own cc nL ret F L post h pc ls (.int y :: .int x :: st) := fun p l e s m args below meth c X A9 H locs lsA C hP hS hl => lv_icmp_eq C.1 C.2.1 d ht (fun q => kt ((ti_eq ha hb).mp q) p l e s m args below meth c X A9 H locs lsA C hP hS hl) (fun q => kf ((fun z => q ((ti_eq ha hb).mpr z))) p l e s m args below meth c X A9 H locs lsA C hP hS hl)
theorem V_if_eq {x : Int32} {A : Int} {off : Int} (tgt : Nat) (ha : x.toInt = A) (d : decode cc pc = .ok (.ifCond .eq off, 3)) (ht : (pc : Int) + off = (tgt : Int)) (kt : A = 0 → V own cc nL ret F L post h tgt ls st) (kf : ¬ A = 0 → V own cc nL ret F L post h (pc + 3) ls st) : V own cc nL ret F L post h pc ls (.int x :: st) := fun p l e s m args below meth c X A9 H locs lsA C hP hS hl => lv_if_eq C.1 C.2.1 d ht (fun q => kt ((ti_eq ha ti_0).mp q) p l e s m args below meth c X A9 H locs lsA C hP hS hl) (fun q => kf ((fun z => q ((ti_eq ha ti_0).mpr z))) p l e s m args below meth c X A9 H locs lsA C hP hS hl)
theorem V_icmp_ne {x y : Int32} {A B : Int} {off : Int} (tgt : Nat) (ha : x.toInt = A) (hb : y.toInt = B) (d : decode cc pc = .ok (.if_icmp .ne off, 3)) (ht : (pc : Int) + off = (tgt : Int)) (kt : ¬ A = B → V own cc nL ret F L post h tgt ls st) (kf : A = B → V own cc nL ret F L post h (pc + 3) ls st) : V own cc nL ret F L post h pc ls (.int y :: .int x :: st) := fun p l e s m args below meth c X A9 H locs lsA C hP hS hl => lv_icmp_ne C.1 C.2.1 d ht (fun q => kt (fun z => q ((ti_eq ha hb).mpr z)) p l e s m args below meth c X A9 H locs lsA C hP hS hl) (fun q => kf ((ti_eq ha hb).mp q) p l e s m args below meth c X A9 H locs lsA C hP hS hl)
theorem V_if_ne {x : Int32} {A : Int} {off : Int} (tgt : Nat) (ha : x.toInt = A) (d : decode cc pc = .ok (.ifCond .ne off, 3)) (ht : (pc : Int) + off = (tgt : Int)) (kt : ¬ A = 0 → V own cc nL ret F L post h tgt ls st) (kf : A = 0 → V own cc nL ret F L post h (pc + 3) ls st) : V own cc nL ret F L post h pc ls (.int x :: st) := fun p l e s m args below meth c X A9 H locs lsA C hP hS hl => lv_if_ne C.1 C.2.1 d ht (fun q => kt (fun z => q ((ti_eq ha ti_0).mpr z)) p l e s m args below meth c X A9 H locs lsA C hP hS hl) (fun q => kf ((ti_eq ha ti_0).mp q) p l e s m args below meth c X A9 H locs lsA C hP hS hl)
theorem V_icmp_lt {x y : Int32} {A B : Int} {off : Int} (tgt : Nat) (ha : x.toInt = A) (hb : y.toInt = B) (d : decode cc pc = .ok (.if_icmp .lt off, 3)) (ht : (pc : Int) + off = (tgt : Int)) (kt : A < B → V own cc nL ret F L post h tgt ls st) (kf : B ≤ A → V own cc nL ret F L post h (pc + 3) ls st) : V own cc nL ret F L post h pc ls (.int y :: .int x :: st) := fun p l e s m args below meth c X A9 H locs lsA C hP hS hl => lv_icmp_lt C.1 C.2.1 d ht (fun q => kt ((ti_lt ha hb).mp q) p l e s m args below meth c X A9 H locs lsA C hP hS hl) (fun q => kf (Int.not_lt.mp (fun z => q ((ti_lt ha hb).mpr z))) p l e s m args below meth c X A9 H locs lsA C hP hS hl)
theorem V_if_lt {x : Int32} {A : Int} {off : Int} (tgt : Nat) (ha : x.toInt = A) (d : decode cc pc = .ok (.ifCond .lt off, 3)) (ht : (pc : Int) + off = (tgt : Int)) (kt : A < 0 → V own cc nL ret F L post h tgt ls st) (kf : 0 ≤ A → V own cc nL ret F L post h (pc + 3) ls st) : V own cc nL ret F L post h pc ls (.int x :: st) := fun p l e s m args below meth c X A9 H locs lsA C hP hS hl => lv_if_lt C.1 C.2.1 d ht (fun q => kt ((ti_lt ha ti_0).mp q) p l e s m args below meth c X A9 H locs lsA C hP hS hl) (fun q => kf (Int.not_lt.mp (fun z => q ((ti_lt ha ti_0).mpr z))) p l e s m args below meth c X A9 H locs lsA C hP hS hl)
theorem V_icmp_ge {x y : Int32} {A B : Int} {off : Int} (tgt : Nat) (ha : x.toInt = A) (hb : y.toInt = B) (d : decode cc pc = .ok (.if_icmp .ge off, 3)) (ht : (pc : Int) + off = (tgt : Int)) (kt : B ≤ A → V own cc nL ret F L post h tgt ls st) (kf : A < B → V own cc nL ret F L post h (pc + 3) ls st) : V own cc nL ret F L post h pc ls (.int y :: .int x :: st) := fun p l e s m args below meth c X A9 H locs lsA C hP hS hl => lv_icmp_ge C.1 C.2.1 d ht (fun q => kt ((ti_le hb ha).mp q) p l e s m args below meth c X A9 H locs lsA C hP hS hl) (fun q => kf (Int.not_le.mp (fun z => q ((ti_le hb ha).mpr z))) p l e s m args below meth c X A9 H locs lsA C hP hS hl)
theorem V_if_ge {x : Int32} {A : Int} {off : Int} (tgt : Nat) (ha : x.toInt = A) (d : decode cc pc = .ok (.ifCond .ge off, 3)) (ht : (pc : Int) + off = (tgt : Int)) (kt : 0 ≤ A → V own cc nL ret F L post h tgt ls st) (kf : A < 0 → V own cc nL ret F L post h (pc + 3) ls st) : V own cc nL ret F L post h pc ls (.int x :: st) := fun p l e s m args below meth c X A9 H locs lsA C hP hS hl => lv_if_ge C.1 C.2.1 d ht (fun q => kt ((ti_le ti_0 ha).mp q) p l e s m args below meth c X A9 H locs lsA C hP hS hl) (fun q => kf (Int.not_le.mp (fun z => q ((ti_le ti_0 ha).mpr z))) p l e s m args below meth c X A9 H locs lsA C hP hS hl)
theorem V_icmp_gt {x y : Int32} {A B : Int} {off : Int} (tgt : Nat) (ha : x.toInt = A) (hb : y.toInt = B) (d : decode cc pc = .ok (.if_icmp .gt off, 3)) (ht : (pc : Int) + off = (tgt : Int)) (kt : B < A → V own cc nL ret F L post h tgt ls st) (kf : A ≤ B → V own cc nL ret F L post h (pc + 3) ls st) : V own cc nL ret F L post h pc ls (.int y :: .int x :: st) := fun p l e s m args below meth c X A9 H locs lsA C hP hS hl => lv_icmp_gt C.1 C.2.1 d ht (fun q => kt ((ti_lt hb ha).mp q) p l e s m args below meth c X A9 H locs lsA C hP hS hl) (fun q => kf (Int.not_lt.mp (fun z => q ((ti_lt hb ha).mpr z))) p l e s m args below meth c X A9 H locs lsA C hP hS hl)
theorem V_if_gt {x : Int32} {A : Int} {off : Int} (tgt : Nat) (ha : x.toInt = A) (d : decode cc pc = .ok (.ifCond .gt off, 3)) (ht : (pc : Int) + off = (tgt : Int)) (kt : 0 < A → V own cc nL ret F L post h tgt ls st) (kf : A ≤ 0 → V own cc nL ret F L post h (pc + 3) ls st) : V own cc nL ret F L post h pc ls (.int x :: st) := fun p l e s m args below meth c X A9 H locs lsA C hP hS hl => lv_if_gt C.1 C.2.1 d ht (fun q => kt ((ti_lt ti_0 ha).mp q) p l e s m args below meth c X A9 H locs lsA C hP hS hl) (fun q => kf (Int.not_lt.mp (fun z => q ((ti_lt ti_0 ha).mpr z))) p l e s m args below meth c X A9 H locs lsA C hP hS hl)
theorem V_icmp_le {x y : Int32} {A B : Int} {off : Int} (tgt : Nat) (ha : x.toInt = A) (hb : y.toInt = B) (d : decode cc pc = .ok (.if_icmp .le off, 3)) (ht : (pc : Int) + off = (tgt : Int)) (kt : A ≤ B → V own cc nL ret F L post h tgt ls st) (kf : B < A → V own cc nL ret F L post h (pc + 3) ls st) : V own cc nL ret F L post h pc ls (.int y :: .int x :: st) := fun p l e s m args below meth c X A9 H locs lsA C hP hS hl => lv_icmp_le C.1 C.2.1 d ht (fun q => kt ((ti_le ha hb).mp q) p l e s m args below meth c X A9 H locs lsA C hP hS hl) (fun q => kf (Int.not_le.mp (fun z => q ((ti_le ha hb).mpr z))) p l e s m args below meth c X A9 H locs lsA C hP hS hl)
theorem V_if_le {x : Int32} {A : Int} {off : Int} (tgt : Nat) (ha : x.toInt = A) (d : decode cc pc = .ok (.ifCond .le off, 3)) (ht : (pc : Int) + off = (tgt : Int)) (kt : A ≤ 0 → V own cc nL ret F L post h tgt ls st) (kf : 0 < A → V own cc nL ret F L post h (pc + 3) ls st) : V own cc nL ret F L post h pc ls (.int x :: st) := fun p l e s m args below meth c X A9 H locs lsA C hP hS hl => lv_if_le C.1 C.2.1 d ht (fun q => kt ((ti_le ha ti_0).mp q) p l e s m args below meth c X A9 H locs lsA C hP hS hl) (fun q => kf (Int.not_le.mp (fun z => q ((ti_le ha ti_0).mpr z))) p l e s m args below meth c X A9 H locs lsA C hP hS hl)
theorem V_goto {off : Int} (tgt : Nat) (d : decode cc pc = .ok (.goto off, 3)) (ht : (pc : Int) + off = (tgt : Int)) (k : V own cc nL ret F L post h tgt ls st) : V own cc nL ret F L post h pc ls st := fun p l e s m args below meth c X A H locs lsA C hP hS hl => lv_goto C.1 C.2.1 d ht (k p l e s m args below meth c X A H locs lsA C hP hS hl)
theorem V_tabOut {dflt lo hi : Int} {offs : Array Int} {len : Nat} {x : Int32} {A : Int} (tgt : Nat) (ha : x.toInt = A) (d : decode cc pc = .ok (.tableswitch dflt lo hi offs, len)) (hr : A < lo ∨ hi < A) (ht : (pc : Int) + dflt = (tgt : Int)) (k : V own cc nL ret F L post h tgt ls st) : V own cc nL ret F L post h pc ls (.int x :: st) := fun p l e s m args below meth c X A9 H locs lsA C hP hS hl => lv_tableOut C.1 C.2.1 d (by rw [ha]; exact hr) ht (k p l e s m args below meth c X A9 H locs lsA C hP hS hl)
theorem V_tabIn {dflt lo hi : Int} {offs : Array Int} {len : Nat} {x : Int32} {A : Int} {off : Int} (tgt : Nat) (ha : x.toInt = A) (d : decode cc pc = .ok (.tableswitch dflt lo hi offs, len)) (h1 : lo ≤ A) (h2 : A ≤ hi) (ho : offs[(A - lo).toNat]? = some off) (ht : (pc : Int) + off = (tgt : Int)) (k : V own cc nL ret F L post h tgt ls st) : V own cc nL ret F L post h pc ls (.int x :: st) := fun p l e s m args below meth c X A9 H locs lsA C hP hS hl => lv_tableIn C.1 C.2.1 d (by rw [ha]; omega) (by rw [ha]; omega) (by rw [ha]; exact ho) ht (k p l e s m args below meth c X A9 H locs lsA C hP hS hl)
theorem V_lookup {dflt : Int} {ps : Array (Int × Int)} {len : Nat} {x : Int32} {A off : Int} (tgt : Nat) (ha : x.toInt = A) (d : decode cc pc = .ok (.lookupswitch dflt ps, len)) (hp : (ps.toList.zip (ps.toList.drop 1)).all (fun (a, next) => a.1 < next.1) = true) (ho : Op.lookupswitch.offset ps.toList dflt A = off) (ht : (pc : Int) + off = (tgt : Int)) (k : V own cc nL ret F L post h tgt ls st) : V own cc nL ret F L post h pc ls (.int x :: st) := fun p l e s m args below meth c X A9 H locs lsA C hP hS hl => lv_lookup C.1 C.2.1 d hp (by rw [ha]; exact ho) ht (k p l e s m args below meth c X A9 H locs lsA C hP hS hl)
end VR
end
section
def FA (own : String) (idx ci i : Nat) : Prop := ∃ (C : String) (T : u_T) (N : Nat), classes[ci]? = some (C, T, N) ∧ (∀ w ∈ u_ws C T N, w ∈ vv_G) ∧ i < N ∧ Cond.fieldLink own idx (T i).1 (T i).2.1 (T i).2.2.1 ∈ vv_G
def FP (own : String) (idx ci i : Nat) (ty : FieldType) : Prop := ∃ (C : String) (T : u_T) (N : Nat) (t0 : Nat → FieldType), classes[ci]? = some (C, T, N) ∧ (∀ w ∈ u_ws C T N, w ∈ vv_G) ∧ i < N ∧ Cond.fieldLink own idx (T i).1 (T i).2.1 (T i).2.2.1 ∈ vv_G ∧ (∀ k, k < N → parseFieldDescriptor (T k).2.2.1 = some (t0 k)) ∧ (∀ a, a < N → ∀ b, b < N → a ≠ b → (T a).2.1 ≠ (T b).2.1) ∧ (T i).2.2.2 = false ∧ parseFieldDescriptor (T i).2.2.1 = some ty
section VH
variable {own : String} {cc : ByteArray} {nL : Nat} {ret : Option FieldType} {F L : Nat} {post : Option Value → Hp → Prop} {h : Hp} {pc : Nat} {ls : Pl} {st : List Value}
theorem V_get {idx ci i k : Nat} {ss : List Sl} {sl : Sl} (fa : FA own idx ci i) (hs : vv_sk[k]? = some (.inr (ci, ss))) (hi : ss[i]? = some sl) (d : decode cc pc = .ok (.getfield idx, 3)) (kk : V own cc nL ret F L post h (pc + 3) ls (slP h k i sl :: st)) : V own cc nL ret F L post h pc ls (.ref k :: st) := fun p l e s m args below meth c X A H locs lsA C hP hS hl => by
  obtain ⟨Cn, T, N, f1, f2, f3, f4⟩ := fa
  refine va_get (D := X.1) (ci := ci) (v := rv X.2.1 (slP h k i sl)) C.1 C.2.1 C.2.2.2.2.1 f2 C.2.2.2.1 C.2.2.2.2.2.2.2.1 hP k (wsX_get hs) f1 i f3 (C.2.2.2.2.1 _ f4) (fun _ q => q) ?_ d (kk p l e s m args below meth c X A H locs lsA C hP hS hl)
  rw [List.getElem?_mapIdx, hi]
  rfl
theorem V_getI {idx ci i k : Nat} {ss : List Sl} (fa : FA own idx ci i) (hs : vv_sk[k]? = some (.inr (ci, ss))) (hi : ss[i]? = some (.inr false)) (d : decode cc pc = .ok (.getfield idx, 3)) (kk : V own cc nL ret F L post h (pc + 3) ls (.int (h.1 k i) :: st)) : V own cc nL ret F L post h pc ls (.ref k :: st) := V_get fa hs hi d kk
theorem V_getR {idx ci i k r : Nat} {ss : List Sl} (fa : FA own idx ci i) (hs : vv_sk[k]? = some (.inr (ci, ss))) (hi : ss[i]? = some (.inl r)) (d : decode cc pc = .ok (.getfield idx, 3)) (kk : V own cc nL ret F L post h (pc + 3) ls (.ref r :: st)) : V own cc nL ret F L post h pc ls (.ref k :: st) := V_get fa hs hi d kk
theorem V_getL {idx ci i k : Nat} {ss : List Sl} (fa : FA own idx ci i) (hs : vv_sk[k]? = some (.inr (ci, ss))) (hi : ss[i]? = some (.inr true)) (d : decode cc pc = .ok (.getfield idx, 3)) (kk : V own cc nL ret F L post h (pc + 3) ls (.long h.2 :: st)) : V own cc nL ret F L post h pc ls (.ref k :: st) := V_get fa hs hi d kk
theorem V_putI {idx ci i k : Nat} {ss : List Sl} {x : Int32} (fp : FP own idx ci i .int) (hs : vv_sk[k]? = some (.inr (ci, ss))) (hi : ss[i]? = some (.inr false)) (d : decode cc pc = .ok (.putfield idx, 3)) (kk : V own cc nL ret F L post (pI h k i x) (pc + 3) ls st) : V own cc nL ret F L post h pc ls (.int x :: .ref k :: st) := fun p l e s m args below meth c X A H locs lsA C hP hS hl => by
  obtain ⟨Cn, T, N, t0, f1, f2, f3, f4, f5, f6, f7, f8⟩ := fp
  refine va_put (D := X.1) (ci := ci) (v := .int x) (ty := .int) C.1 C.2.1 C.2.2.2.2.1 f2 t0 f5 f6 C.2.2.2.1 C.2.2.2.2.2.2.2.1 hP (C.2.2.2.2.2.2.2.2.1.D h) hS k (wsX_get hs) f1 i f3 (C.2.2.2.2.1 _ f4) (fun _ q => q) f7 f8 rfl rfl ?_ d (fun H1 locs1 hP1 _ hS1 => ?_)
  · rw [List.length_mapIdx]
    exact (List.getElem?_eq_some_iff.mp hi).1
  · rw [wsX_fld hs hi] at hP1
    exact kk p l e s m args below meth c X A H1 locs1 lsA C hP1 hS1 hl
theorem V_putL {idx ci : Nat} {ss : List Sl} {x : Int64} (fp : FP own idx ci 26 .long) (hs : vv_sk[116]? = some (.inr (ci, ss))) (hi : ss[26]? = some (.inr true)) (ho : ∀ j : Nat, j ≠ 26 → ss[j]? ≠ some (.inr true)) (d : decode cc pc = .ok (.putfield idx, 3)) (kk : V own cc nL ret F L post (pL h x) (pc + 3) ls st) : V own cc nL ret F L post h pc ls (.long x :: .ref 116 :: st) := fun p l e s m args below meth c X A H locs lsA C hP hS hl => by
  obtain ⟨Cn, T, N, t0, f1, f2, f3, f4, f5, f6, f7, f8⟩ := fp
  refine va_put (D := X.1) (ci := ci) (v := .long x) (ty := .long) C.1 C.2.1 C.2.2.2.2.1 f2 t0 f5 f6 C.2.2.2.1 C.2.2.2.2.2.2.2.1 hP (C.2.2.2.2.2.2.2.2.1.D h) hS 116 (wsX_get hs) f1 26 f3 (C.2.2.2.2.1 _ f4) (fun _ q => q) f7 f8 rfl rfl ?_ d (fun H1 locs1 hP1 _ hS1 => ?_)
  · rw [List.length_mapIdx]
    exact (List.getElem?_eq_some_iff.mp hi).1
  · rw [wsX_long hs hi ho] at hP1
    exact kk p l e s m args below meth c X A H1 locs1 lsA C hP1 hS1 hl
theorem V_iald {k n : Nat} {i : Int32} {I : Int} (hs : vv_sk[k]? = some (vv_ar n)) (ha : i.toInt = I) (hin : 0 ≤ I ∧ I < n) (d : decode cc pc = .ok (.iaload, 1)) (kk : ∀ z : Int32, z = h.1 k I.toNat → V own cc nL ret F L post h (pc + 1) ls (.int z :: st)) : V own cc nL ret F L post h pc ls (.int i :: .ref k :: st) := fun p l e s m args below meth c X A H locs lsA C hP hS hl => by
  refine va_iald (D := X.1) C.1 C.2.1 C.2.2.2.2.2.2.2.1 hP k 0 (wsX_get hs) rfl (vp_in_of_ti ha hin) d ?_
  rw [ti_cl, ha]
  exact kk _ rfl p l e s m args below meth c X A H locs lsA C hP hS hl
theorem V_iast {k n : Nat} {i x : Int32} {I : Int} (hs : vv_sk[k]? = some (vv_ar n)) (ha : i.toInt = I) (hin : 0 ≤ I ∧ I < n) (d : decode cc pc = .ok (.iastore, 1)) (kk : V own cc nL ret F L post (pI h k I.toNat x) (pc + 1) ls st) : V own cc nL ret F L post h pc ls (.int x :: .int i :: .ref k :: st) := fun p l e s m args below meth c X A H locs lsA C hP hS hl => by
  refine va_iast (D := X.1) C.1 C.2.1 C.2.2.2.2.2.2.2.1 hP (C.2.2.2.2.2.2.2.2.1.D h) hS k 0 (wsX_get hs) rfl (vp_in_of_ti ha hin) d (fun H1 locs1 hP1 _ hS1 => ?_)
  rw [wsX_row hs, ti_cl, ha] at hP1
  exact kk p l e s m args below meth c X A H1 locs1 lsA C hP1 hS1 hl
theorem V_bald {k n : Nat} {i : Int32} {I : Int} (hs : vv_sk[k]? = some (.inl (1, n, none))) (ha : i.toInt = I) (hin : 0 ≤ I ∧ I < n) (d : decode cc pc = .ok (.baload, 1)) (kk : ∀ z : Int32, z = h.1 k I.toNat → V own cc nL ret F L post h (pc + 1) ls (.int z :: st)) : V own cc nL ret F L post h pc ls (.int i :: .ref k :: st) := fun p l e s m args below meth c X A H locs lsA C hP hS hl => by
  refine va_bald (D := X.1) C.1 C.2.1 C.2.2.2.2.2.2.2.1 hP k 1 (wsX_get hs) rfl (vp_in_of_ti ha hin) d ?_
  rw [ti_cl, ha]
  exact kk _ rfl p l e s m args below meth c X A H locs lsA C hP hS hl
theorem V_bast {k n : Nat} {i x : Int32} {I : Int} (hs : vv_sk[k]? = some (.inl (1, n, none))) (ha : i.toInt = I) (hin : 0 ≤ I ∧ I < n) (d : decode cc pc = .ok (.bastore, 1)) (kk : V own cc nL ret F L post (pI h k I.toNat (vp_nar .byte x)) (pc + 1) ls st) : V own cc nL ret F L post h pc ls (.int x :: .int i :: .ref k :: st) := fun p l e s m args below meth c X A H locs lsA C hP hS hl => by
  refine va_bast (D := X.1) C.1 C.2.1 C.2.2.2.2.2.2.2.1 hP (C.2.2.2.2.2.2.2.2.1.D h) hS k 1 (wsX_get hs) rfl (vp_in_of_ti ha hin) d (fun H1 locs1 hP1 _ hS1 => ?_)
  rw [wsX_row hs, ti_cl, ha] at hP1
  exact kk p l e s m args below meth c X A H1 locs1 lsA C hP1 hS1 hl
theorem V_zald {k n : Nat} {i : Int32} {I : Int} (hs : vv_sk[k]? = some (.inl (2, n, none))) (ha : i.toInt = I) (hin : 0 ≤ I ∧ I < n) (d : decode cc pc = .ok (.baload, 1)) (kk : ∀ z : Int32, z = h.1 k I.toNat → V own cc nL ret F L post h (pc + 1) ls (.int z :: st)) : V own cc nL ret F L post h pc ls (.int i :: .ref k :: st) := fun p l e s m args below meth c X A H locs lsA C hP hS hl => by
  refine va_zald (D := X.1) C.1 C.2.1 C.2.2.2.2.2.2.2.1 hP k 2 (wsX_get hs) rfl (vp_in_of_ti ha hin) d ?_
  rw [ti_cl, ha]
  exact kk _ rfl p l e s m args below meth c X A H locs lsA C hP hS hl
theorem V_zast {k n : Nat} {i x : Int32} {I : Int} (hs : vv_sk[k]? = some (.inl (2, n, none))) (ha : i.toInt = I) (hin : 0 ≤ I ∧ I < n) (d : decode cc pc = .ok (.bastore, 1)) (kk : V own cc nL ret F L post (pI h k I.toNat (vp_nar .boolean x)) (pc + 1) ls st) : V own cc nL ret F L post h pc ls (.int x :: .int i :: .ref k :: st) := fun p l e s m args below meth c X A H locs lsA C hP hS hl => by
  refine va_zast (D := X.1) C.1 C.2.1 C.2.2.2.2.2.2.2.1 hP (C.2.2.2.2.2.2.2.2.1.D h) hS k 2 (wsX_get hs) rfl (vp_in_of_ti ha hin) d (fun H1 locs1 hP1 _ hS1 => ?_)
  rw [wsX_row hs, ti_cl, ha] at hP1
  exact kk p l e s m args below meth c X A H1 locs1 lsA C hP1 hS1 hl
theorem V_aald {k n t r : Nat} {fl : List Nat} {i : Int32} {I : Int} (hs : vv_sk[k]? = some (.inl (t, n, some fl))) (ht : t = 3 ∨ t = 4 ∨ t = 5) (ha : i.toInt = I) (hin : 0 ≤ I ∧ I < n) (hr : fl[I.toNat]? = some r) (d : decode cc pc = .ok (.aaload, 1)) (kk : V own cc nL ret F L post h (pc + 1) ls (.ref r :: st)) : V own cc nL ret F L post h pc ls (.int i :: .ref k :: st) := fun p l e s m args below meth c X A H locs lsA C hP hS hl => by
  have hvi := vp_in_of_ti ha hin
  have hlt : i.toNatClampNeg < n := Nat.not_le.mp fun q => hvi (Or.inr q)
  have hv : va_rf ((fun j => (fl[j]?).map X.2.1) i.toNatClampNeg) = rv X.2.1 (.ref r) := by
    show va_rf ((fl[i.toNatClampNeg]?).map X.2.1) = _
    rw [ti_cl, ha, hr]
    rfl
  have hk := kk p l e s m args below meth c X A H locs lsA C hP hS hl
  have hcell := hP k _ (wsX_get hs)
  have hK := C.2.2.2.2.2.2.2.1
  have hw : ∀ ty : FieldType, ty.isReference = true → (tysX X)[t]? = some (X.2.2 t, ty) → W p l e (rmOf F L) s m args below meth c H locs 0 0 (MQ below (QcOf X A post) args s 0 0 A) (F0 m pc lsA ((.int i :: .ref k :: st).map (rv X.2.1))) := fun ty hty htt =>
    W.aald (v := rv X.2.1 (.ref r)) (ty := ty) C.1 C.2.1 hcell ((hK.2 t _ htt).1 n (fun j => va_rf ((fl[j]?).map X.2.1))) hty (fun q => by cases q) (by show ¬ (i < 0 ∨ (arrV _ _ _).slots.size ≤ _); rw [arrV_size]; exact hvi) (by show (arrV _ _ _).slots[_]? = _; rw [arrV_read _ _ hlt]; exact congrArg some hv) rfl rfl d hk
  rcases ht with rfl | rfl | rfl
  · exact hw (.object "RodOwes$County") rfl rfl
  · exact hw (.object "RodOwes$Sheet") rfl rfl
  · exact hw (.array .int) rfl rfl
theorem V_alen {k n t : Nat} {o : Option (List Nat)} {v : Int32} (hs : vv_sk[k]? = some (.inl (t, n, o))) (ht : t < 6) (hv : Int32.ofNat n = v) (d : decode cc pc = .ok (.arraylength, 1)) (kk : V own cc nL ret F L post h (pc + 1) ls (.int v :: st)) : V own cc nL ret F L post h pc ls (.ref k :: st) := fun p l e s m args below meth c X A H locs lsA C hP hS hl => by
  have hk := kk p l e s m args below meth c X A H locs lsA C hP hS hl
  obtain ⟨ty, hty⟩ : ∃ ty, (tysX X)[t]? = some (X.2.2 t, ty) := by
    rcases (by (first | decide +kernel | omega) : t = 0 ∨ t = 1 ∨ t = 2 ∨ t = 3 ∨ t = 4 ∨ t = 5) with rfl | rfl | rfl | rfl | rfl | rfl <;> exact ⟨_, rfl⟩
  cases o with
  | none => exact va_alen (D := X.1) C.1 C.2.1 C.2.2.2.2.2.2.2.1 hP k t (wsX_get hs) hty hv d hk
  | some f => exact va_alen (D := X.1) C.1 C.2.1 C.2.2.2.2.2.2.2.1 hP k t (wsX_get hs) hty hv d hk
theorem V_iret {x : Int32} (hr : ret = some .int) (d : decode cc pc = .ok (.ireturn, 1)) (hp : post (some (.int x)) h) : V own cc nL ret F L post h pc ls [.int x] := fun p l e s m args below meth c X A H locs lsA C hP hS hl => by
  subst hr
  have hlocks : meth.locks = false := C.2.2.2.2.2.1
  exact W.iret (v := x) C.1 C.2.1 C.2.2.2.2.2.2.1 (fun t ht hW => ⟨⟨some (.int x), h, rfl, hp, by rw [ht]; exact hP⟩, hS.F ht⟩) hS.2.2 d
theorem V_lret {x : Int64} (hr : ret = some .long) (d : decode cc pc = .ok (.lreturn, 1)) (hp : post (some (.long x)) h) : V own cc nL ret F L post h pc ls [.long x] := fun p l e s m args below meth c X A H locs lsA C hP hS hl => by
  subst hr
  have hlocks : meth.locks = false := C.2.2.2.2.2.1
  exact W.lret (v := x) C.1 C.2.1 C.2.2.2.2.2.2.1 (fun t ht hW => ⟨⟨some (.long x), h, rfl, hp, by rw [ht]; exact hP⟩, hS.F ht⟩) hS.2.2 d
theorem V_vret (hr : ret = none) (d : decode cc pc = .ok (.return_, 1)) (hp : post none h) : V own cc nL ret F L post h pc ls [] := fun p l e s m args below meth c X A H locs lsA C hP hS hl => by
  subst hr
  have hlocks : meth.locks = false := C.2.2.2.2.2.1
  exact W.vret C.1 C.2.1 C.2.2.2.2.2.2.1 (fun t ht hW => ⟨⟨none, h, rfl, hp, by rw [ht]; exact hP⟩, hS.F ht⟩) hS.2.2 d
theorem V_nret {x : Int32} {ty : FieldType} (hr : ret = some ty) (hn : narrow ty (.int x) = .int x) (d : decode cc pc = .ok (.ireturn, 1)) (hp : post (some (.int x)) h) : V own cc nL ret F L post h pc ls [.int x] := fun p l e s m args below meth c X A H locs lsA C hP hS hl => by
  subst hr
  have hlocks : meth.locks = false := C.2.2.2.2.2.1
  exact W.zret (v := x) C.1 C.2.1 C.2.2.2.2.2.2.1 hn (fun t ht hW => ⟨⟨some (.int x), h, rfl, hp, by rw [ht]; exact hP⟩, hS.F ht⟩) hS.2.2 d
theorem V_zret {x : Int32} (hr : ret = some .boolean) (hx : x.toInt = 0 ∨ x.toInt = 1) (d : decode cc pc = .ok (.ireturn, 1)) (hp : post (some (.int x)) h) : V own cc nL ret F L post h pc ls [.int x] := by
  refine V_nret hr ?_ d hp
  rcases hx with q | q
  · rw [(ti_eq q ti_0).mpr rfl]; rfl
  · rw [(ti_eq (y := 1) q rfl).mpr rfl]; rfl
theorem V_aret {k : Nat} {C0 : String} (hr : ret = some (.object C0)) (d : decode cc pc = .ok (.areturn, 1)) (hp : post (some (.ref k)) h) : V own cc nL ret F L post h pc ls [.ref k] := fun p l e s m args below meth c X A H locs lsA C hP hS hl => by
  subst hr
  have hlocks : meth.locks = false := C.2.2.2.2.2.1
  exact W.aret (v := .ref (X.2.1 k)) C.1 C.2.1 C.2.2.2.2.2.2.1 (Or.inl ⟨_, rfl⟩) (Or.inr ⟨_, rfl⟩) (fun t ht hW => ⟨⟨some (.ref k), h, rfl, hp, by rw [ht]; exact hP⟩, hS.F ht⟩) hS.2.2 d
end VH
abbrev pInt (P : Int32 → Hp → Prop) : Option Value → Hp → Prop := fun r h => ∃ x : Int32, r = some (.int x) ∧ P x h
abbrev pLng (P : Int64 → Hp → Prop) : Option Value → Hp → Prop := fun r h => ∃ x : Int64, r = some (.long x) ∧ P x h
abbrev pRef (P : Nat → Hp → Prop) : Option Value → Hp → Prop := fun r h => ∃ x : Nat, r = some (.ref x) ∧ P x h
abbrev pVd (P : Hp → Prop) : Option Value → Hp → Prop := fun r h => r = none ∧ P h
def CB (y : MethodName) (cc' : ByteArray) (nL' : Nat) (ret' : Option FieldType) (n : Nat) : Prop := Cond.code y cc' nL' ret' ∈ vv_G ∧ (y.cls ≠ "java/lang/invoke/MethodHandle" ∧ y.cls ≠ "java/lang/invoke/VarHandle" ∧ (parseMethodDescriptor y.desc).map (fun d => d.parameters.length) = some n) ∧ Cond.initialized y.cls ∈ vv_G
def CV (own : String) (idx : Nat) (y : MethodName) (cc' : ByteArray) (nL' : Nat) (ret' : Option FieldType) (n : Nat) : Prop := CB y cc' nL' ret' n ∧ Cond.instanceMethod y ∈ vv_G ∧ Cond.selects y.cls y y ∈ vv_G ∧ Cond.methodLink own idx y ∈ vv_G
def CS (own : String) (idx : Nat) (y : MethodName) (cc' : ByteArray) (nL' : Nat) (ret' : Option FieldType) (n : Nat) : Prop := CB y cc' nL' ret' n ∧ Cond.static y ∈ vv_G ∧ (Cond.methodLink own idx y ∈ vv_G ∨ (own, idx, y) ∈ vv_nest)
theorem vv_good {w : Cond} (hw : w ∈ vv_G) : GoodIn vv_G (w :: vv_G) := fun x hx => (List.mem_cons.mp hx).elim (fun e => by rw [e]; exact vv_GG w hw) (fun h => vv_GG x h)
theorem vv_AA {X : Xc} {A : Nat → Prop} {sz : Nat} (hA : adOk X A) (hz : ∀ q : Nat, sz ≤ q → A q) : ∀ q : Nat, vv_A X sz q → A q := fun q hq => hq.elim (fun ⟨k, hk, e⟩ => by rw [e]; exact hA.2 k hk) (fun h => hz q h)
section VC
variable {own : String} {cc : ByteArray} {nL : Nat} {ret : Option FieldType} {F L : Nat} {post : Option Value → Hp → Prop} {h : Hp} {pc : Nat} {ls : Pl} {st : List Value}
variable {p : Program} {l : Launch} {e : Env} {s : State} {m : MethodId} {args : Array Value} {below : List Frame} {meth : Method} {c : Code} {X : Xc} {A : Nat → Prop} {H : Heap} {locs : List Loc} {lsA : Array Slot}
theorem vv_pre (C : Cx own cc nL ret p s m args meth c X A) (hP : va_P X.1 classes (wsX X h) H) (hS : va_S A s.heap H locs) (As : List Value) : FrameBlind (va_Pc (As.map (rv X.2.1)) (fun U => U.heap.size = H.size ∧ va_P X.1 classes (wsX X h) U.heap ∧ va_K X.1 classes (tysX X) U ∧ adOk X (vv_A X H.size) ∧ Ro X (vv_A X H.size) U U.heap)) ∧ ∀ U : State, U.heap = H → s.WarmedH U.vm → va_Pc (As.map (rv X.2.1)) (fun U => U.heap.size = H.size ∧ va_P X.1 classes (wsX X h) U.heap ∧ va_K X.1 classes (tysX X) U ∧ adOk X (vv_A X H.size) ∧ Ro X (vv_A X H.size) U U.heap) (As.map (rv X.2.1)).toArray U := by
  refine ⟨fun a U g mk q => ?_, fun U hU hW => ⟨rfl, ?_⟩⟩
  · obtain ⟨q0, q1, qP, qK, qA, qR⟩ := q
    exact ⟨q0, q1, qP, va_K.moved (u := U) (U := U.calling g mk a) (Vm.Alike.refl U.vm) qK, qA, Ro.blind g mk a qR⟩
  · have hA := C.2.2.2.2.2.2.2.2.1
    have hz := C.2.2.2.2.2.2.2.2.2.1
    refine ⟨by rw [hU], by rw [hU]; exact hP, va_K.moved hW.alike C.2.2.2.2.2.2.2.1, ⟨hA.1, fun k hk => Or.inl ⟨k, hk, rfl⟩⟩, ?_⟩
    rw [hU]
    exact Ro.to hW (fun a h1 h2 => hS.2.1 a h1 h2) (vv_AA hA (fun q hq => hz q (Nat.le_trans hS.1 hq))) C.2.2.2.2.2.2.2.2.2.2
theorem vv_after {st0 rest : List Value} {a : Array Value} {post' : Option Value → Hp → Prop} (hr : va_Run p l e (rmOf F L) s m args below meth c H locs 0 0 0 0 (F0 m pc lsA st0) (rest.map (rv X.2.1)) (QcOf X (vv_A X H.size) post' a) (vv_A X H.size)) (C : Cx own cc nL ret p s m args meth c X A) (hS : va_S A s.heap H locs) (hl : lh X.2.1 lsA nL ls)
    (kk : ∀ (r : Option Value) (h' : Hp), post' r h' → V own cc nL ret F L post h' (pc + 3) ls (r.toList ++ rest)) : W p l e (rmOf F L) s m args below meth c H locs 0 0 (MQ below (QcOf X A post) args s 0 0 A) (F0 m pc lsA st0) := by
  intro T hT Xs
  obtain ⟨v, st₀, t, T', L', h0, X', hL, e1, e2, ⟨⟨r, h', hv, hp, hb⟩, hz, hk⟩, stp⟩ := hr T hT Xs
  have hv' : v = r.map (rv X.2.1) := by injection hv
  subst hv'
  rw [h0] at hz hk
  have hAA := vv_AA C.2.2.2.2.2.2.2.2.1 (fun q (hq : H.size ≤ q) => C.2.2.2.2.2.2.2.2.2.1 q (Nat.le_trans hS.1 hq))
  have hS' : va_S A s.heap T'.heap (locs ++ L') := ⟨Nat.le_trans hS.1 (by rw [e1]; exact hz), fun q h1 h2 => by rw [e1, hk q (Nat.lt_of_lt_of_le h1 hS.1) (fun z => h2 (hAA q z))]; exact hS.2.1 q h1 h2, fun q hq => by
      rcases List.mem_append.mp hq with h | h
      · exact hS.2.2 q h
      · exact hAA _ (hL q h)⟩
  obtain ⟨t2, a1, b1⟩ := kk r h' hp p l e s m args below meth c X A T'.heap (locs ++ L') lsA C (by rw [e1]; exact hb) hS' hl T' rfl X'
  refine ⟨t2, stp t2 ?_, b1⟩
  have hst : ((r.toList ++ rest).map (rv X.2.1)) = (r.map (rv X.2.1)).toList ++ rest.map (rv X.2.1) := by cases r <;> simp
  rw [hst] at a1
  exact a1
theorem vv_room {rest : List Value} (ad : Nat → Nat) (hrm : (rest.map fun v => v.category).sum ≤ 8) : ((rest.map (rv ad)).map fun v => v.category).sum ≤ 8 := by
  rw [List.map_map]
  have : ((fun v : Value => v.category) ∘ rv ad) = fun v => v.category := by funext v; exact rv_cat ad v
  rw [this]
  exact hrm
end VC
section VD
variable {own : String} {cc : ByteArray} {nL : Nat} {ret : Option FieldType} {F L : Nat} {post : Option Value → Hp → Prop} {h : Hp} {pc : Nat} {ls : Pl} {st : List Value}
theorem V_callV {y : MethodName} {cc' : ByteArray} {nL' : Nat} {ret' : Option FieldType} {F' L' idx b ci : Nat} {ss : List Sl} {post' : Option Value → Hp → Prop} (As rest : List Value) (cv : CV own idx y cc' nL' ret' As.length) (hs : vv_sk[b]? = some (.inr (ci, ss))) (hcl : (classes[ci]?).map (fun q => q.1) = some y.cls) (d : decode cc pc = .ok (.invokevirtual idx, 3)) (hst : st = As.reverse ++ .ref b :: rest) (hrm : (rest.map fun v => v.category).sum ≤ 8) (hF : F' + 1 ≤ F) (hL : 8 + (nL' + 11) + L' ≤ L)
    (ct : Ct y cc' nL' ret' F' L' (.ref b :: As) h post') (kk : ∀ (r : Option Value) (h' : Hp), post' r h' → V own cc nL ret F L post h' (pc + 3) ls (r.toList ++ rest)) : V own cc nL ret F L post h pc ls st := fun p l e s m args below meth c X A H locs lsA C hP hS hl => by
  obtain ⟨⟨q1, q2, q3⟩, q4, q5, q6⟩ := cv
  obtain ⟨r, hr, hrc⟩ : ∃ r, classes[ci]? = some r ∧ r.1 = y.cls := by
    cases hz : classes[ci]? with
    | none => rw [hz] at hcl; cases hcl
    | some r => rw [hz] at hcl; exact ⟨r, rfl, Option.some.inj hcl⟩
  have hts := C.2.2.2.2.1
  obtain ⟨b1, b2⟩ := vv_pre C hP hS (.ref b :: As)
  have hrecv := va_recv C.2.2.2.2.2.2.2.1 hP hr (wsX_get hs)
  rw [hrc] at hrecv
  refine vv_after (rest := rest) (va_runV (Ts := vv_G) (As := As.map (rv X.2.1)) (b := X.2.1 b) (C := y.cls) (n := As.length) ⟨C.1, C.2.1, C.2.2.1, C.2.2.2.1, hts⟩ (ct l X H.size) ⟨callB_of As.length hts (vv_good q1) rfl rfl rfl (hts _ q3) (hts _ q6) q2 ⟨hF, hL⟩, hts _ q4, hts _ q5⟩ ⟨b1, hrecv, b2⟩ rfl (List.length_map _) hl.1 ?_ (lv_room (vv_room _ hrm)) d ⟨Nat.le_refl _, Nat.le_refl _⟩) C hS hl kk
  rw [hst]
  simp [rv]
theorem V_callS {y : MethodName} {cc' : ByteArray} {nL' : Nat} {ret' : Option FieldType} {F' L' idx : Nat} {post' : Option Value → Hp → Prop} (As rest : List Value) (cv : CS own idx y cc' nL' ret' As.length) (d : decode cc pc = .ok (.invokestatic idx, 3)) (hst : st = As.reverse ++ rest) (hrm : (rest.map fun v => v.category).sum ≤ 8) (hF : F' + 1 ≤ F) (hL : 8 + (nL' + 11) + L' ≤ L)
    (ct : Ct y cc' nL' ret' F' L' As h post') (kk : ∀ (r : Option Value) (h' : Hp), post' r h' → V own cc nL ret F L post h' (pc + 3) ls (r.toList ++ rest)) : V own cc nL ret F L post h pc ls st := fun p l e s m args below meth c X A H locs lsA C hP hS hl => by
  obtain ⟨⟨q1, q2, q3⟩, q4, q6⟩ := cv
  have hts := C.2.2.2.2.1
  obtain ⟨b1, b2⟩ := vv_pre C hP hS As
  have hst2 : (F0 m pc lsA (st.map (rv X.2.1))).stack = (As.map (rv X.2.1)).reverse ++ rest.map (rv X.2.1) := by
    rw [hst]; simp
  rcases q6 with q6 | q6
  · exact vv_after (rest := rest) (va_runS (Ts := vv_G) (As := As.map (rv X.2.1)) (n := As.length) ⟨C.1, C.2.1, C.2.2.1, C.2.2.2.1, hts⟩ (ct l X H.size) ⟨callB_of As.length hts (vv_good q1) rfl rfl rfl (hts _ q3) (hts _ q6) q2 ⟨hF, hL⟩, hts _ q4⟩ ⟨b1, b2⟩ rfl (List.length_map _) hl.1 hst2 (lv_room (vv_room _ hrm)) d ⟨Nat.le_refl _, Nat.le_refl _⟩) C hS hl kk
  · have hN := C.2.2.2.2.2.2.2.2.2.2.2.2.2.2.2.2.2 _ q6
    exact vv_after (rest := rest) (va_runSN (Ts := vv_G) (As := As.map (rv X.2.1)) (n := As.length) ⟨C.1, C.2.1, C.2.2.1, C.2.2.2.1, hts⟩ (ct l X H.size) ⟨va_cnB As.length hts (vv_good q1) rfl rfl rfl hN (hts _ q3) q2 ⟨hF, hL⟩, hts _ q4, trivial⟩ ⟨b1, b2⟩ rfl (List.length_map _) hl.1 hst2 (lv_room (vv_room _ hrm)) d ⟨Nat.le_refl _, Nat.le_refl _⟩) C hS hl kk
end VD
end
section
section VM
variable {own : String} {cc : ByteArray} {nL : Nat} {ret : Option FieldType} {F L : Nat} {post : Option Value → Hp → Prop} {h : Hp} {pc : Nat} {ls : Pl} {st : List Value}
theorem N_getI {idx ci i k : Nat} {ss : List Sl} (fa : FA own idx ci i) (hs : vv_sk[k]? = some (.inr (ci, ss))) (hi : ss[i]? = some (.inr false)) (d : decode cc pc = .ok (.getfield idx, 3)) (kk : ∀ (z : Int32) (Z : Int), z.toInt = Z → z = h.1 k i → V own cc nL ret F L post h (pc + 3) ls (.int z :: st)) : V own cc nL ret F L post h pc ls (.ref k :: st) := V_getI fa hs hi d (kk _ _ rfl rfl)
theorem N_getK {idx ci i k : Nat} {ss : List Sl} {z : Int32} (fa : FA own idx ci i) (hs : vv_sk[k]? = some (.inr (ci, ss))) (hi : ss[i]? = some (.inr false)) (d : decode cc pc = .ok (.getfield idx, 3)) (hk : h.1 k i = z) (kk : V own cc nL ret F L post h (pc + 3) ls (.int z :: st)) : V own cc nL ret F L post h pc ls (.ref k :: st) := V_getI fa hs hi d (by rw [hk]; exact kk)
theorem N_putI {idx ci i k : Nat} {ss : List Sl} {x : Int32} (fp : FP own idx ci i .int) (hs : vv_sk[k]? = some (.inr (ci, ss))) (hi : ss[i]? = some (.inr false)) (d : decode cc pc = .ok (.putfield idx, 3)) (kk : ∀ h2 : Hp, h2 = pI h k i x → V own cc nL ret F L post h2 (pc + 3) ls st) : V own cc nL ret F L post h pc ls (.int x :: .ref k :: st) := V_putI fp hs hi d (kk _ rfl)
theorem N_putL {idx ci : Nat} {ss : List Sl} {x : Int64} (fp : FP own idx ci 26 .long) (hs : vv_sk[116]? = some (.inr (ci, ss))) (hi : ss[26]? = some (.inr true)) (ho : ∀ j : Nat, j ≠ 26 → ss[j]? ≠ some (.inr true)) (d : decode cc pc = .ok (.putfield idx, 3)) (kk : ∀ h2 : Hp, h2 = pL h x → V own cc nL ret F L post h2 (pc + 3) ls st) : V own cc nL ret F L post h pc ls (.long x :: .ref 116 :: st) := V_putL fp hs hi ho d (kk _ rfl)
theorem N_iald {k n : Nat} {i : Int32} {I : Int} (hs : vv_sk[k]? = some (vv_ar n)) (ha : i.toInt = I) (hin : 0 ≤ I ∧ I < n) (d : decode cc pc = .ok (.iaload, 1)) (kk : ∀ (z : Int32) (Z : Int), z.toInt = Z → z = h.1 k I.toNat → V own cc nL ret F L post h (pc + 1) ls (.int z :: st)) : V own cc nL ret F L post h pc ls (.int i :: .ref k :: st) := V_iald hs ha hin d (fun z e => kk z _ rfl e)
theorem N_iast {k n : Nat} {i x : Int32} {I : Int} (hs : vv_sk[k]? = some (vv_ar n)) (ha : i.toInt = I) (hin : 0 ≤ I ∧ I < n) (d : decode cc pc = .ok (.iastore, 1)) (kk : ∀ h2 : Hp, h2 = pI h k I.toNat x → V own cc nL ret F L post h2 (pc + 1) ls st) : V own cc nL ret F L post h pc ls (.int x :: .int i :: .ref k :: st) := V_iast hs ha hin d (kk _ rfl)
theorem N_bald {k n : Nat} {i : Int32} {I : Int} (hs : vv_sk[k]? = some (.inl (1, n, none))) (ha : i.toInt = I) (hin : 0 ≤ I ∧ I < n) (d : decode cc pc = .ok (.baload, 1)) (kk : ∀ (z : Int32) (Z : Int), z.toInt = Z → z = h.1 k I.toNat → V own cc nL ret F L post h (pc + 1) ls (.int z :: st)) : V own cc nL ret F L post h pc ls (.int i :: .ref k :: st) := V_bald hs ha hin d (fun z e => kk z _ rfl e)
theorem N_bast {k n : Nat} {i x : Int32} {I : Int} (hs : vv_sk[k]? = some (.inl (1, n, none))) (ha : i.toInt = I) (hin : 0 ≤ I ∧ I < n) (d : decode cc pc = .ok (.bastore, 1)) (kk : ∀ h2 : Hp, h2 = pI h k I.toNat (vp_nar .byte x) → V own cc nL ret F L post h2 (pc + 1) ls st) : V own cc nL ret F L post h pc ls (.int x :: .int i :: .ref k :: st) := V_bast hs ha hin d (kk _ rfl)
theorem N_zald {k n : Nat} {i : Int32} {I : Int} (hs : vv_sk[k]? = some (.inl (2, n, none))) (ha : i.toInt = I) (hin : 0 ≤ I ∧ I < n) (d : decode cc pc = .ok (.baload, 1)) (kk : ∀ (z : Int32) (Z : Int), z.toInt = Z → z = h.1 k I.toNat → V own cc nL ret F L post h (pc + 1) ls (.int z :: st)) : V own cc nL ret F L post h pc ls (.int i :: .ref k :: st) := V_zald hs ha hin d (fun z e => kk z _ rfl e)
theorem N_zast {k n : Nat} {i x : Int32} {I : Int} (hs : vv_sk[k]? = some (.inl (2, n, none))) (ha : i.toInt = I) (hin : 0 ≤ I ∧ I < n) (d : decode cc pc = .ok (.bastore, 1)) (kk : ∀ h2 : Hp, h2 = pI h k I.toNat (vp_nar .boolean x) → V own cc nL ret F L post h2 (pc + 1) ls st) : V own cc nL ret F L post h pc ls (.int x :: .int i :: .ref k :: st) := V_zast hs ha hin d (kk _ rfl)
theorem N_iaddw {x y : Int32} (d : decode cc pc = .ok (.iadd, 1)) (k : ∀ (z : Int32) (Z : Int), z.toInt = Z → z = x + y → V own cc nL ret F L post h (pc + 1) ls (.int z :: st)) : V own cc nL ret F L post h pc ls (.int y :: .int x :: st) := V_iaddw d (fun z e => k z _ rfl e)
theorem N_isubw {x y : Int32} (d : decode cc pc = .ok (.isub, 1)) (k : ∀ (z : Int32) (Z : Int), z.toInt = Z → z = x - y → V own cc nL ret F L post h (pc + 1) ls (.int z :: st)) : V own cc nL ret F L post h pc ls (.int y :: .int x :: st) := V_isubw d (fun z e => k z _ rfl e)
theorem N_imulw {x y : Int32} (d : decode cc pc = .ok (.imul, 1)) (k : ∀ (z : Int32) (Z : Int), z.toInt = Z → z = x * y → V own cc nL ret F L post h (pc + 1) ls (.int z :: st)) : V own cc nL ret F L post h pc ls (.int y :: .int x :: st) := V_imulw d (fun z e => k z _ rfl e)
theorem N_iand {x y : Int32} (d : decode cc pc = .ok (.iand, 1)) (k : ∀ (z : Int32) (Z : Int), z.toInt = Z → z = x &&& y → V own cc nL ret F L post h (pc + 1) ls (.int z :: st)) : V own cc nL ret F L post h pc ls (.int y :: .int x :: st) := V_iand d (fun z e => k z _ rfl e)
theorem N_ior {x y : Int32} (d : decode cc pc = .ok (.ior, 1)) (k : ∀ (z : Int32) (Z : Int), z.toInt = Z → z = x ||| y → V own cc nL ret F L post h (pc + 1) ls (.int z :: st)) : V own cc nL ret F L post h pc ls (.int y :: .int x :: st) := V_ior d (fun z e => k z _ rfl e)
theorem N_ixor {x y : Int32} (d : decode cc pc = .ok (.ixor, 1)) (k : ∀ (z : Int32) (Z : Int), z.toInt = Z → z = x ^^^ y → V own cc nL ret F L post h (pc + 1) ls (.int z :: st)) : V own cc nL ret F L post h pc ls (.int y :: .int x :: st) := V_ixor d (fun z e => k z _ rfl e)
theorem N_ishl {x y : Int32} (d : decode cc pc = .ok (.ishl, 1)) (k : ∀ (z : Int32) (Z : Int), z.toInt = Z → z = x <<< (y &&& 31) → V own cc nL ret F L post h (pc + 1) ls (.int z :: st)) : V own cc nL ret F L post h pc ls (.int y :: .int x :: st) := V_ishl d (fun z e => k z _ rfl e)
theorem N_ishr {x y : Int32} (d : decode cc pc = .ok (.ishr, 1)) (k : ∀ (z : Int32) (Z : Int), z.toInt = Z → z = x >>> (y &&& 31) → V own cc nL ret F L post h (pc + 1) ls (.int z :: st)) : V own cc nL ret F L post h pc ls (.int y :: .int x :: st) := V_ishr d (fun z e => k z _ rfl e)
theorem N_iushr {x y : Int32} (d : decode cc pc = .ok (.iushr, 1)) (k : ∀ (z : Int32) (Z : Int), z.toInt = Z → z = (x.toUInt32 >>> (y.toUInt32 &&& Int32.toUInt32 31)).toInt32 → V own cc nL ret F L post h (pc + 1) ls (.int z :: st)) : V own cc nL ret F L post h pc ls (.int y :: .int x :: st) := V_iushr d (fun z e => k z _ rfl e)
theorem N_ineg {x : Int32} (d : decode cc pc = .ok (.ineg, 1)) (k : ∀ (z : Int32) (Z : Int), z.toInt = Z → z = -x → V own cc nL ret F L post h (pc + 1) ls (.int z :: st)) : V own cc nL ret F L post h pc ls (.int x :: st) := V_ineg d (fun z e => k z _ rfl e)
theorem N_i2b {x : Int32} (d : decode cc pc = .ok (.i2b, 1)) (k : ∀ (z : Int32) (Z : Int), z.toInt = Z → z = x.toInt8.toInt32 → V own cc nL ret F L post h (pc + 1) ls (.int z :: st)) : V own cc nL ret F L post h pc ls (.int x :: st) := V_i2b d (fun z e => k z _ rfl e)
theorem N_i2s {x : Int32} (d : decode cc pc = .ok (.i2s, 1)) (k : ∀ (z : Int32) (Z : Int), z.toInt = Z → z = x.toInt16.toInt32 → V own cc nL ret F L post h (pc + 1) ls (.int z :: st)) : V own cc nL ret F L post h pc ls (.int x :: st) := V_i2s d (fun z e => k z _ rfl e)
theorem N_lcmp {x y : Int64} (d : decode cc pc = .ok (.lcmp, 1)) (k : ∀ (z : Int32) (Z : Int), z.toInt = Z → z = lg_cmp x y → V own cc nL ret F L post h (pc + 1) ls (.int z :: st)) : V own cc nL ret F L post h pc ls (.long y :: .long x :: st) := V_lcmp d (fun z e => k z _ rfl e)
theorem N_ladd {x y : Int64} (d : decode cc pc = .ok (.ladd, 1)) (k : ∀ (z : Int64) (Z : Int), z.toInt = Z → z = x + y → V own cc nL ret F L post h (pc + 1) ls (.long z :: st)) : V own cc nL ret F L post h pc ls (.long y :: .long x :: st) := V_ladd d (fun z e => k z _ rfl e)
theorem N_lsub {x y : Int64} (d : decode cc pc = .ok (.lsub, 1)) (k : ∀ (z : Int64) (Z : Int), z.toInt = Z → z = x - y → V own cc nL ret F L post h (pc + 1) ls (.long z :: st)) : V own cc nL ret F L post h pc ls (.long y :: .long x :: st) := V_lsub d (fun z e => k z _ rfl e)
theorem N_lmul {x y : Int64} (d : decode cc pc = .ok (.lmul, 1)) (k : ∀ (z : Int64) (Z : Int), z.toInt = Z → z = x * y → V own cc nL ret F L post h (pc + 1) ls (.long z :: st)) : V own cc nL ret F L post h pc ls (.long y :: .long x :: st) := V_lmul d (fun z e => k z _ rfl e)
theorem N_ldiv {x y : Int64} (hne : ¬ y = 0) (d : decode cc pc = .ok (.ldiv, 1)) (k : ∀ (z : Int64) (Z : Int), z.toInt = Z → z = x / y → V own cc nL ret F L post h (pc + 1) ls (.long z :: st)) : V own cc nL ret F L post h pc ls (.long y :: .long x :: st) := V_ldiv hne d (fun z e => k z _ rfl e)
theorem N_lrem {x y : Int64} (hne : ¬ y = 0) (d : decode cc pc = .ok (.lrem, 1)) (k : ∀ (z : Int64) (Z : Int), z.toInt = Z → z = x - x / y * y → V own cc nL ret F L post h (pc + 1) ls (.long z :: st)) : V own cc nL ret F L post h pc ls (.long y :: .long x :: st) := V_lrem hne d (fun z e => k z _ rfl e)
theorem N_idiv {x y : Int32} {A B : Int} (ha : x.toInt = A) (hb : y.toInt = B) (hr : 0 ≤ A ∧ 0 < B) (d : decode cc pc = .ok (.idiv, 1)) (k : ∀ z : Int32, z = x / y → z.toInt = A / B → V own cc nL ret F L post h (pc + 1) ls (.int z :: st)) : V own cc nL ret F L post h pc ls (.int y :: .int x :: st) := V_idiv (fun q => by rw [q] at hb; have := hr.2; rw [← hb] at this; exact absurd this (by decide)) d (fun z e => k z e (by rw [e]; exact ti_div ha hb hr.1 hr.2))
theorem N_irem {x y : Int32} {A B : Int} (ha : x.toInt = A) (hb : y.toInt = B) (hr : 0 ≤ A ∧ 0 < B) (d : decode cc pc = .ok (.irem, 1)) (k : ∀ z : Int32, z = x - x / y * y → z.toInt = A % B → V own cc nL ret F L post h (pc + 1) ls (.int z :: st)) : V own cc nL ret F L post h pc ls (.int y :: .int x :: st) := V_irem (fun q => by rw [q] at hb; have := hr.2; rw [← hb] at this; exact absurd this (by decide)) d (fun z e => k z e (by rw [e]; exact ti_rem ha hb hr.1 hr.2))
theorem N_callVI {y : MethodName} {cc' : ByteArray} {nL' : Nat} {ret' : Option FieldType} {F' L' idx b ci : Nat} {ss : List Sl} {P : Int32 → Hp → Prop} (As rest : List Value) (cv : CV own idx y cc' nL' ret' As.length) (hs : vv_sk[b]? = some (.inr (ci, ss))) (hcl : (classes[ci]?).map (fun q => q.1) = some y.cls) (d : decode cc pc = .ok (.invokevirtual idx, 3)) (hst : st = As.reverse ++ .ref b :: rest) (hrm : (rest.map fun v => v.category).sum ≤ 8) (hF : F' + 1 ≤ F) (hL : 8 + (nL' + 11) + L' ≤ L)
    (ct : Ct y cc' nL' ret' F' L' (.ref b :: As) h (pInt P)) (kk : ∀ (x : Int32) (h' : Hp) (X : Int), x.toInt = X → P x h' → V own cc nL ret F L post h' (pc + 3) ls (.int x :: rest)) : V own cc nL ret F L post h pc ls st := V_callV As rest cv hs hcl d hst hrm hF hL ct (fun r h' hp => by obtain ⟨x, rfl, hx⟩ := hp; exact kk x h' _ rfl hx)
theorem N_callVL {y : MethodName} {cc' : ByteArray} {nL' : Nat} {ret' : Option FieldType} {F' L' idx b ci : Nat} {ss : List Sl} {P : Int64 → Hp → Prop} (As rest : List Value) (cv : CV own idx y cc' nL' ret' As.length) (hs : vv_sk[b]? = some (.inr (ci, ss))) (hcl : (classes[ci]?).map (fun q => q.1) = some y.cls) (d : decode cc pc = .ok (.invokevirtual idx, 3)) (hst : st = As.reverse ++ .ref b :: rest) (hrm : (rest.map fun v => v.category).sum ≤ 8) (hF : F' + 1 ≤ F) (hL : 8 + (nL' + 11) + L' ≤ L)
    (ct : Ct y cc' nL' ret' F' L' (.ref b :: As) h (pLng P)) (kk : ∀ (x : Int64) (h' : Hp) (X : Int), x.toInt = X → P x h' → V own cc nL ret F L post h' (pc + 3) ls (.long x :: rest)) : V own cc nL ret F L post h pc ls st := V_callV As rest cv hs hcl d hst hrm hF hL ct (fun r h' hp => by obtain ⟨x, rfl, hx⟩ := hp; exact kk x h' _ rfl hx)
theorem N_callVV {y : MethodName} {cc' : ByteArray} {nL' : Nat} {ret' : Option FieldType} {F' L' idx b ci : Nat} {ss : List Sl} {P : Hp → Prop} (As rest : List Value) (cv : CV own idx y cc' nL' ret' As.length) (hs : vv_sk[b]? = some (.inr (ci, ss))) (hcl : (classes[ci]?).map (fun q => q.1) = some y.cls) (d : decode cc pc = .ok (.invokevirtual idx, 3)) (hst : st = As.reverse ++ .ref b :: rest) (hrm : (rest.map fun v => v.category).sum ≤ 8) (hF : F' + 1 ≤ F) (hL : 8 + (nL' + 11) + L' ≤ L)
    (ct : Ct y cc' nL' ret' F' L' (.ref b :: As) h (pVd P)) (kk : ∀ h' : Hp, P h' → V own cc nL ret F L post h' (pc + 3) ls rest) : V own cc nL ret F L post h pc ls st := V_callV As rest cv hs hcl d hst hrm hF hL ct (fun r h' hp => by obtain ⟨rfl, hx⟩ := hp; exact kk h' hx)
theorem N_callSI {y : MethodName} {cc' : ByteArray} {nL' : Nat} {ret' : Option FieldType} {F' L' idx : Nat} {P : Int32 → Hp → Prop} (As rest : List Value) (cv : CS own idx y cc' nL' ret' As.length) (d : decode cc pc = .ok (.invokestatic idx, 3)) (hst : st = As.reverse ++ rest) (hrm : (rest.map fun v => v.category).sum ≤ 8) (hF : F' + 1 ≤ F) (hL : 8 + (nL' + 11) + L' ≤ L)
    (ct : Ct y cc' nL' ret' F' L' As h (pInt P)) (kk : ∀ (x : Int32) (h' : Hp) (X : Int), x.toInt = X → P x h' → V own cc nL ret F L post h' (pc + 3) ls (.int x :: rest)) : V own cc nL ret F L post h pc ls st := V_callS As rest cv d hst hrm hF hL ct (fun r h' hp => by obtain ⟨x, rfl, hx⟩ := hp; exact kk x h' _ rfl hx)
theorem N_callSL {y : MethodName} {cc' : ByteArray} {nL' : Nat} {ret' : Option FieldType} {F' L' idx : Nat} {P : Int64 → Hp → Prop} (As rest : List Value) (cv : CS own idx y cc' nL' ret' As.length) (d : decode cc pc = .ok (.invokestatic idx, 3)) (hst : st = As.reverse ++ rest) (hrm : (rest.map fun v => v.category).sum ≤ 8) (hF : F' + 1 ≤ F) (hL : 8 + (nL' + 11) + L' ≤ L)
    (ct : Ct y cc' nL' ret' F' L' As h (pLng P)) (kk : ∀ (x : Int64) (h' : Hp) (X : Int), x.toInt = X → P x h' → V own cc nL ret F L post h' (pc + 3) ls (.long x :: rest)) : V own cc nL ret F L post h pc ls st := V_callS As rest cv d hst hrm hF hL ct (fun r h' hp => by obtain ⟨x, rfl, hx⟩ := hp; exact kk x h' _ rfl hx)
theorem N_callSR {y : MethodName} {cc' : ByteArray} {nL' : Nat} {ret' : Option FieldType} {F' L' idx : Nat} {P : Nat → Hp → Prop} (As rest : List Value) (cv : CS own idx y cc' nL' ret' As.length) (d : decode cc pc = .ok (.invokestatic idx, 3)) (hst : st = As.reverse ++ rest) (hrm : (rest.map fun v => v.category).sum ≤ 8) (hF : F' + 1 ≤ F) (hL : 8 + (nL' + 11) + L' ≤ L)
    (ct : Ct y cc' nL' ret' F' L' As h (pRef P)) (kk : ∀ (x : Nat) (h' : Hp), P x h' → V own cc nL ret F L post h' (pc + 3) ls (.ref x :: rest)) : V own cc nL ret F L post h pc ls st := V_callS As rest cv d hst hrm hF hL ct (fun r h' hp => by obtain ⟨x, rfl, hx⟩ := hp; exact kk x h' hx)
theorem N_callSV {y : MethodName} {cc' : ByteArray} {nL' : Nat} {ret' : Option FieldType} {F' L' idx : Nat} {P : Hp → Prop} (As rest : List Value) (cv : CS own idx y cc' nL' ret' As.length) (d : decode cc pc = .ok (.invokestatic idx, 3)) (hst : st = As.reverse ++ rest) (hrm : (rest.map fun v => v.category).sum ≤ 8) (hF : F' + 1 ≤ F) (hL : 8 + (nL' + 11) + L' ≤ L)
    (ct : Ct y cc' nL' ret' F' L' As h (pVd P)) (kk : ∀ h' : Hp, P h' → V own cc nL ret F L post h' (pc + 3) ls rest) : V own cc nL ret F L post h pc ls st := V_callS As rest cv d hst hrm hF hL ct (fun r h' hp => by obtain ⟨rfl, hx⟩ := hp; exact kk h' hx)
theorem N_max {idx : Nat} {x y : Int32} {A B : Int} (ha : x.toInt = A) (hb : y.toInt = B) (hw : Cond.methodLink own idx Lib.Math.max.name ∈ vv_G) (d : decode cc pc = .ok (.invokestatic idx, 3)) (hrm : (st.map fun v => v.category).sum + 13 ≤ L) (hF : 1 ≤ F) (h1 : Cond.static Lib.Math.max.name ∈ vv_G) (h2 : Cond.initialized "java/lang/Math" ∈ vv_G) (h3 : Cond.code Lib.Math.max.name Lib.Math.max.code 2 (some .int) ∈ vv_G) (k : ∀ (z : Int32) (Z : Int), z.toInt = Z → z = (if x < y then y else x) → (A < B ∧ Z = B ∨ B ≤ A ∧ Z = A) → V own cc nL ret F L post h (pc + 3) ls (.int z :: st)) : V own cc nL ret F L post h pc ls (.int y :: .int x :: st) := fun p l e s m args below meth c X A9 H locs lsA C hP hS hl => by
  have hts := C.2.2.2.2.1
  have hr2 : ((st.map (rv X.2.1)).map fun v => v.category).sum + 13 ≤ L := by
    have : ((fun v : Value => v.category) ∘ rv X.2.1) = fun v => v.category := by funext v; exact rv_cat _ v
    rw [List.map_map, this]; exact hrm
  refine va_mmax C.1 C.2.1 (C.2.2.1.trans hl.1.symm) C.2.2.2.1 (hts _ hw) (hts _ h1) (hts _ h2) (hts _ h3) hF hr2 (Nat.zero_le _) (Nat.zero_le _) d (k _ _ rfl rfl ?_ p l e s m args below meth c X A9 H locs lsA C hP hS hl)
  by_cases q : x < y
  · rw [if_pos q]; exact Or.inl ⟨(ti_lt ha hb).mp q, hb⟩
  · rw [if_neg q]; exact Or.inr ⟨Int.not_lt.mp (fun z => q ((ti_lt ha hb).mpr z)), ha⟩
theorem N_min {idx : Nat} {x y : Int32} {A B : Int} (ha : x.toInt = A) (hb : y.toInt = B) (hw : Cond.methodLink own idx Lib.Math.min.name ∈ vv_G) (d : decode cc pc = .ok (.invokestatic idx, 3)) (hrm : (st.map fun v => v.category).sum + 13 ≤ L) (hF : 1 ≤ F) (h1 : Cond.static Lib.Math.min.name ∈ vv_G) (h2 : Cond.initialized "java/lang/Math" ∈ vv_G) (h3 : Cond.code Lib.Math.min.name Lib.Math.min.code 2 (some .int) ∈ vv_G) (k : ∀ (z : Int32) (Z : Int), z.toInt = Z → z = (if y < x then y else x) → (B < A ∧ Z = B ∨ A ≤ B ∧ Z = A) → V own cc nL ret F L post h (pc + 3) ls (.int z :: st)) : V own cc nL ret F L post h pc ls (.int y :: .int x :: st) := fun p l e s m args below meth c X A9 H locs lsA C hP hS hl => by
  have hts := C.2.2.2.2.1
  have hr2 : ((st.map (rv X.2.1)).map fun v => v.category).sum + 13 ≤ L := by
    have : ((fun v : Value => v.category) ∘ rv X.2.1) = fun v => v.category := by funext v; exact rv_cat _ v
    rw [List.map_map, this]; exact hrm
  refine va_mmin C.1 C.2.1 (C.2.2.1.trans hl.1.symm) C.2.2.2.1 (hts _ hw) (hts _ h1) (hts _ h2) (hts _ h3) hF hr2 (Nat.zero_le _) (Nat.zero_le _) d (k _ _ rfl rfl ?_ p l e s m args below meth c X A9 H locs lsA C hP hS hl)
  by_cases q : y < x
  · rw [if_pos q]; exact Or.inl ⟨(ti_lt hb ha).mp q, hb⟩
  · rw [if_neg q]; exact Or.inr ⟨Int.not_lt.mp (fun z => q ((ti_lt hb ha).mpr z)), ha⟩
/-- System.arraycopy between two rows of ints -/
theorem N_acopy {idx k0 k1 n0 n1 : Nat} {sp dp n : Int32} {S0 D0 N0 : Int} (hs0 : vv_sk[k0]? = some (vv_ar n0)) (hs1 : vv_sk[k1]? = some (vv_ar n1)) (ha : sp.toInt = S0) (hb : dp.toInt = D0) (hn : n.toInt = N0) (hr : 0 ≤ S0 ∧ 0 ≤ D0 ∧ 0 ≤ N0 ∧ S0 + N0 ≤ n0 ∧ D0 + N0 ≤ n1) (hw : Cond.methodLink own idx arraycopyName ∈ vv_G) (h1 : Cond.native arraycopyName ∈ vv_G) (h2 : Cond.static arraycopyName ∈ vv_G) (h3 : Cond.initialized "java/lang/System" ∈ vv_G) (d : decode cc pc = .ok (.invokestatic idx, 3)) (hF : 1 ≤ F) (hrm : (st.map fun v => v.category).sum + (nativeFrameWords "java/lang/System" "arraycopy" 5 + 11) ≤ L)
    (k : ∀ h2 : Hp, h2 = pR h k1 (va_cpy (h.1 k0) (h.1 k1) S0.toNat D0.toNat N0.toNat) → V own cc nL ret F L post h2 (pc + 3) ls st) : V own cc nL ret F L post h pc ls (.int n :: .int dp :: .ref k1 :: .int sp :: .ref k0 :: st) := fun p l e s m args below meth c X A9 H locs lsA C hP hS hl => by
  have hts := C.2.2.2.2.1
  have hr2 : ((st.map (rv X.2.1)).map fun v => v.category).sum + (nativeFrameWords "java/lang/System" "arraycopy" 5 + 11) ≤ L := by
    have : ((fun v : Value => v.category) ∘ rv X.2.1) = fun v => v.category := by funext v; exact rv_cat _ v
    rw [List.map_map, this]; exact hrm
  refine va_copyi (D := X.1) (ty := .int) C.1 C.2.1 (C.2.2.1.trans hl.1.symm) C.2.2.2.1 (hts _ hw) (hts _ h1) (hts _ h2) (hts _ h3) C.2.2.2.2.2.2.2.1 hP (C.2.2.2.2.2.2.2.2.1.D h) hS k0 k1 0 0 (wsX_get hs0) (wsX_get hs1) rfl rfl rfl ?_ ?_ ?_ ?_ ?_ (fun _ _ => rfl) hF hr2 d (fun H1 locs1 hP1 _ hS1 => ?_)
  · rw [ti_lt ha ti_0]; omega
  · rw [ti_lt hb ti_0]; omega
  · rw [ti_lt hn ti_0]; omega
  · rw [ti_cl, ti_cl, ha, hn]; omega
  · rw [ti_cl, ti_cl, hb, hn]; omega
  · rw [wsX_row hs1, ti_cl, ti_cl, ti_cl, ha, hb, hn] at hP1
    exact k _ rfl p l e s m args below meth c X A9 H1 locs1 lsA C hP1 hS1 hl
end VM
end
section
def vv_full : Int × Int := (-2147483648, 2147483647)
def rgSt (i : Nat) : Int × Int := if i % 144 = 86 ∨ i % 144 = 111 then (0, 8) else if 87 ≤ i % 144 ∧ i % 144 < 111 ∧ (i % 144) % 3 ≠ 2 then (0, 3) else if 112 ≤ i % 144 ∧ (i % 144) % 4 = 0 then (0, 15) else vv_full
def rgC (r i : Nat) : Int × Int := match r, i with
  | 1, 0 => (2, 4)
  | 1, 1 => (2, 4)
  | 7, 4 => (0, 8)
  | 12, 4 => (0, 8)
  | 13, _ => (0, 15)
  | _, _ => vv_full
def rgX (k i : Nat) : Int × Int := match k, i with
  | 0, 10 => vv_full
  | 4, 1 => (0, 160)
  | 4, 3 => (0, 160)
  | 4, 4 => (0, 160)
  | 17, 1 => (0, 4)
  | 19, 1 => (0, 48)
  | 23, 2 => (0, 40)
  | 25, 2 => (0, 40)
  | 27, 2 => (0, 40)
  | 29, 2 => (0, 40)
  | 31, 2 => (2, 4)
  | 31, 3 => (2, 4)
  | 31, 7 => (0, 4)
  | 31, 8 => (0, 4)
  | 31, 15 => (0, 160)
  | 31, 16 => (0, 160)
  | 31, 17 => (0, 160)
  | 31, 25 => (0, 4)
  | 31, 28 => (0, 48)
  | 32, i => rgSt i
  | 34, i => rgSt i
  | 38, _ => (-1, 16)
  | 44, _ => (0, 40)
  | _, _ => vv_full
def rg (k i : Nat) : Int × Int := if k < 85 then rgC (k % 17) i else rgX (k - 85) i
def Inv (h : Hp) : Prop := ∀ k i : Nat, (rg k i).1 ≤ (h.1 k i).toInt ∧ (h.1 k i).toInt ≤ (rg k i).2
theorem inv_at {h : Hp} {k i : Nat} {z : Int32} {Z lo hi : Int} (hI : Inv h) (hz : z.toInt = Z) (he : z = h.1 k i) (hr : rg k i = (lo, hi)) : lo ≤ Z ∧ Z ≤ hi := by
  have := hI k i
  rw [hr, ← he, hz] at this
  exact this
theorem inv_put {h h2 : Hp} {k i : Nat} {x : Int32} {X lo hi : Int} (hI : Inv h) (e : h2 = pI h k i x) (hr : rg k i = (lo, hi)) (hx : x.toInt = X) (hb : lo ≤ X ∧ X ≤ hi) : Inv h2 := by
  subst e
  intro k' i'
  by_cases hk : k' = k
  · subst hk
    by_cases hi' : i' = i
    · subst hi'
      rw [pI_eq, hr, hx]
      exact hb
    · rw [pI_nei hi']
      exact hI k' i'
  · rw [pI_ne hk]
    exact hI k' i'
theorem inv_full {h h2 : Hp} {k i : Nat} {x : Int32} (hI : Inv h) (e : h2 = pI h k i x) (hr : rg k i = vv_full) : Inv h2 := inv_put hI e hr rfl ⟨ti_lo x, ti_hi x⟩
theorem inv_long {h h2 : Hp} {x : Int64} (hI : Inv h) (e : h2 = pL h x) : Inv h2 := by subst e; exact hI
theorem inv_row {h h2 : Hp} {k : Nat} {f : Nat → Int32} (hI : Inv h) (e : h2 = pR h k f) (hf : ∀ i : Nat, (rg k i).1 ≤ (f i).toInt ∧ (f i).toInt ≤ (rg k i).2) : Inv h2 := by
  subst e
  intro k' i'
  by_cases hk : k' = k
  · subst hk
    rw [pR_eq]
    exact hf i'
  · rw [pR_ne hk]
    exact hI k' i'
/-- a row is copied whole or in part from a row of the same bounds -/
theorem inv_cpy {h h2 : Hp} {k k0 n : Nat} (hI : Inv h) (e : h2 = pR h k (va_cpy (h.1 k0) (h.1 k) 0 0 n)) (hr : ∀ i : Nat, rg k i = rg k0 i) : Inv h2 := by
  refine inv_row hI e (fun i => ?_)
  unfold va_cpy
  split
  · next hc => rw [hr, show 0 + (i - 0) = i by (first | decide +kernel | omega)]; exact hI k0 i
  · exact hI k i
def inS (S : List (Nat × Option Nat)) (k i : Nat) : Bool := S.any (fun q => q.1 == k && (match q.2 with | none => true | some j => j == i))
/-- place 999 stands for the one long -/
def fr (S : List (Nat × Option Nat)) (h h' : Hp) : Prop := (∀ k i : Nat, inS S k i = false → h'.1 k i = h.1 k i) ∧ (inS S 999 0 = false → h'.2 = h.2)
theorem fr_rf {S : List (Nat × Option Nat)} {h : Hp} : fr S h h := ⟨fun _ _ _ => rfl, fun _ => rfl⟩
theorem fr_put {S : List (Nat × Option Nat)} {h h1 h2 : Hp} {k i : Nat} {x : Int32} (f : fr S h h1) (e : h2 = pI h1 k i x) (hin : inS S k i = true) : fr S h h2 := by
  subst e
  refine ⟨fun k' i' hf => ?_, f.2⟩
  by_cases hk : k' = k
  · subst hk
    by_cases hi : i' = i
    · subst hi; rw [hin] at hf; cases hf
    · rw [pI_nei hi]; exact f.1 _ _ hf
  · rw [pI_ne hk]; exact f.1 _ _ hf
theorem fr_long {S : List (Nat × Option Nat)} {h h1 h2 : Hp} {x : Int64} (f : fr S h h1) (e : h2 = pL h1 x) (hin : inS S 999 0 = true) : fr S h h2 := by
  subst e
  exact ⟨f.1, fun q => by rw [hin] at q; cases q⟩
theorem fr_row {S : List (Nat × Option Nat)} {h h1 h2 : Hp} {k : Nat} {g : Nat → Int32} (f : fr S h h1) (e : h2 = pR h1 k g) (hin : ∀ i : Nat, inS S k i = true) : fr S h h2 := by
  subst e
  refine ⟨fun k' i' hf => ?_, f.2⟩
  by_cases hk : k' = k
  · subst hk; rw [hin] at hf; cases hf
  · rw [pR_ne hk]; exact f.1 _ _ hf
def subS (S S' : List (Nat × Option Nat)) : Bool := S.all (fun q => S'.any (fun r => r.1 == q.1 && (r.2 == none || r.2 == q.2)))
theorem subS_in {S S' : List (Nat × Option Nat)} (hs : subS S S' = true) {k i : Nat} (h : inS S k i = true) : inS S' k i = true := by
  unfold inS at h ⊢
  obtain ⟨q, hq, h2⟩ := List.any_eq_true.mp h
  have h3 := List.all_eq_true.mp hs q hq
  obtain ⟨r, hr, h4⟩ := List.any_eq_true.mp h3
  refine List.any_eq_true.mpr ⟨r, hr, ?_⟩
  rw [Bool.and_eq_true] at h2 h4 ⊢
  have e1 : r.1 = q.1 := by simpa using h4.1
  have e2 : q.1 = k := by simpa using h2.1
  refine ⟨by simp [e1, e2], ?_⟩
  rcases Bool.or_eq_true .. |>.mp h4.2 with h5 | h5
  · have : r.2 = none := by simpa using h5
    rw [this]
  · have : r.2 = q.2 := by simpa using h5
    rw [this]; exact h2.2
theorem fr_call {S S' : List (Nat × Option Nat)} {h h1 h2 : Hp} (f : fr S h h1) (g : fr S' h1 h2) (hs : subS S' S = true) : fr S h h2 := by
  have key : ∀ k i : Nat, inS S k i = false → inS S' k i = false := fun k i hf => by
    cases hz : inS S' k i with
    | false => rfl
    | true => rw [subS_in hs hz] at hf; cases hf
  exact ⟨fun k i hf => (g.1 k i (key k i hf)).trans (f.1 k i hf), fun hf => (g.2 (key 999 0 hf)).trans (f.2 hf)⟩
theorem kn_ne {h h2 : Hp} {k k' i i' : Nat} {x v : Int32} (e : h2 = pI h k' i' x) (hk : h.1 k i = v) (hne : k ≠ k') : h2.1 k i = v := by subst e; rw [pI_ne hne]; exact hk
theorem kn_nei {h h2 : Hp} {k i i' : Nat} {x v : Int32} (e : h2 = pI h k i' x) (hk : h.1 k i = v) (hne : i ≠ i') : h2.1 k i = v := by subst e; rw [pI_nei hne]; exact hk
theorem kn_put {h h2 : Hp} {k i : Nat} {x : Int32} (e : h2 = pI h k i x) : h2.1 k i = x := by subst e; exact pI_eq _ _ _ _
theorem kn_row {h h2 : Hp} {k k' i : Nat} {f : Nat → Int32} {v : Int32} (e : h2 = pR h k' f) (hk : h.1 k i = v) (hne : k ≠ k') : h2.1 k i = v := by subst e; rw [pR_ne hne]; exact hk
theorem kn_long {h h2 : Hp} {k i : Nat} {x : Int64} {v : Int32} (e : h2 = pL h x) (hk : h.1 k i = v) : h2.1 k i = v := by subst e; exact hk
theorem kn_call {S : List (Nat × Option Nat)} {h h2 : Hp} {k i : Nat} {v : Int32} (f : fr S h h2) (hk : h.1 k i = v) (hs : inS S k i = false) : h2.1 k i = v := by rw [f.1 k i hs]; exact hk
theorem mul24 {A B : Int} (ha : 2 ≤ A ∧ A ≤ 4) (hb : 2 ≤ B ∧ B ≤ 4) : 4 ≤ A * B ∧ A * B ≤ 16 := by
  rcases (by (first | decide +kernel | omega) : A = 2 ∨ A = 3 ∨ A = 4) with rfl | rfl | rfl <;> omega
section VQ
variable {own : String} {cc : ByteArray} {nL : Nat} {ret : Option FieldType} {F L : Nat} {post : Option Value → Hp → Prop} {h : Hp} {pc : Nat} {ls : Pl} {st : List Value}
theorem N_mul24 {x y : Int32} {A B : Int} (ha : x.toInt = A) (hb : y.toInt = B) (hr : 2 ≤ A ∧ A ≤ 4) (hr2 : 2 ≤ B ∧ B ≤ 4) (d : decode cc pc = .ok (.imul, 1)) (k : ∀ (z : Int32) (Z : Int), z.toInt = Z → z = x * y → 4 ≤ Z ∧ Z ≤ 16 → Z = A * B → V own cc nL ret F L post h (pc + 1) ls (.int z :: st)) : V own cc nL ret F L post h pc ls (.int y :: .int x :: st) := V_imul ha hb (by have := mul24 hr hr2; omega) d (fun z e1 e2 => k z _ e2 e1 (mul24 hr hr2) rfl)
end VQ
theorem ct_ow {y : MethodName} {cc : ByteArray} {nL : Nat} {ret : Option FieldType} {F L : Nat} {As : List Value} {h : Hp} {post : Option Value → Hp → Prop} (own : String) (ls : Pl) (ho : y.cls = own) (hy : plainName y.cls = true) (hls : argLs As ++ List.replicate (nL - (argLs As).length) none = ls) (hn : (argLs As).length ≤ nL) (hV : V own cc nL ret F L post h 0 ls []) : Ct y cc nL ret F L As h post := ct_of ls hy hls hn (by rw [ho]; exact hV)
theorem st_lo {I : Int} (h : 0 ≤ I ∧ I < 86) : rgSt I.toNat = vv_full := by
  unfold rgSt
  rw [if_neg (by (first | decide +kernel | omega)), if_neg (by (first | decide +kernel | omega)), if_neg (by (first | decide +kernel | omega))]
theorem st_8 {I : Int} (h : I = 86 ∨ I = 111) : rgSt I.toNat = (0, 8) := by
  unfold rgSt
  rw [if_pos (by (first | decide +kernel | omega))]
theorem st_a {I : Int} (h : 87 ≤ I ∧ I < 111 ∧ I % 3 ≠ 2) : rgSt I.toNat = (0, 3) := by
  unfold rgSt
  rw [if_neg (by (first | decide +kernel | omega)), if_pos (by (first | decide +kernel | omega))]
theorem st_b {I : Int} (h : 87 ≤ I ∧ I < 111 ∧ I % 3 = 2) : rgSt I.toNat = vv_full := by
  unfold rgSt
  rw [if_neg (by (first | decide +kernel | omega)), if_neg (by (first | decide +kernel | omega)), if_neg (by (first | decide +kernel | omega))]
theorem st_c {I : Int} (h : 112 ≤ I ∧ I < 144 ∧ I % 4 = 0) : rgSt I.toNat = (0, 15) := by
  unfold rgSt
  rw [if_neg (by (first | decide +kernel | omega)), if_neg (by (first | decide +kernel | omega)), if_pos (by (first | decide +kernel | omega))]
theorem st_d {I : Int} (h : 112 ≤ I ∧ I < 144 ∧ I % 4 ≠ 0) : rgSt I.toNat = vv_full := by
  unfold rgSt
  rw [if_neg (by (first | decide +kernel | omega)), if_neg (by (first | decide +kernel | omega)), if_neg (by (first | decide +kernel | omega))]
theorem st_per {I J : Int} (h : 0 ≤ I ∧ 0 ≤ J ∧ I % 144 = J % 144) : rgSt I.toNat = rgSt J.toNat := by
  have e : I.toNat % 144 = J.toNat % 144 := by (first | decide +kernel | omega)
  unfold rgSt
  rw [e]
def stOk (I X : Int) : Prop := ∃ lo hi : Int, rgSt I.toNat = (lo, hi) ∧ lo ≤ X ∧ X ≤ hi
theorem stOk_lo {I X : Int} {x : Int32} (hx : x.toInt = X) (h : 0 ≤ I ∧ I < 86) : stOk I X := ⟨_, _, st_lo h, by rw [← hx]; exact ti_lo x, by rw [← hx]; exact ti_hi x⟩
theorem stOk_8 {I X : Int} (h : I = 86 ∨ I = 111) (hx : 0 ≤ X ∧ X ≤ 8) : stOk I X := ⟨_, _, st_8 h, hx.1, hx.2⟩
theorem stOk_3 {I X : Int} (h : 0 ≤ X ∧ X ≤ 3) : stOk I X := by
  unfold stOk rgSt
  split
  · exact ⟨_, _, rfl, by (first | decide +kernel | omega)⟩
  · split
    · exact ⟨_, _, rfl, by (first | decide +kernel | omega)⟩
    · split
      · exact ⟨_, _, rfl, by (first | decide +kernel | omega)⟩
      · exact ⟨_, _, rfl, by (first | decide +kernel | omega)⟩
theorem inv_st {h h2 : Hp} {k : Nat} {I X : Int} {x : Int32} (hI : Inv h) (e : h2 = pI h k I.toNat x) (hk : k = 117 ∨ k = 119) (hx : x.toInt = X) (hs : stOk I X) : Inv h2 := by
  obtain ⟨lo, hi, h1, h2', h3⟩ := hs
  rcases hk with rfl | rfl
  · exact inv_put hI e (show rg 117 I.toNat = (lo, hi) from h1) hx ⟨h2', h3⟩
  · exact inv_put hI e (show rg 119 I.toNat = (lo, hi) from h1) hx ⟨h2', h3⟩
theorem stOk_of {h : Hp} {k : Nat} {I J X : Int} {x : Int32} (hI : Inv h) (hk : k = 117 ∨ k = 119) (hx : x.toInt = X) (e : x = h.1 k J.toNat) (hp : 0 ≤ I ∧ 0 ≤ J ∧ I % 144 = J % 144) : stOk I X := by
  have h1 := st_per hp
  have h2 := hI k J.toNat
  rcases hk with rfl | rfl
  · have h3 : (rgSt J.toNat).1 ≤ (h.1 117 J.toNat).toInt ∧ (h.1 117 J.toNat).toInt ≤ (rgSt J.toNat).2 := h2
    rw [← e, hx, ← h1] at h3
    exact ⟨_, _, rfl, h3⟩
  · have h3 : (rgSt J.toNat).1 ≤ (h.1 119 J.toNat).toInt ∧ (h.1 119 J.toNat).toInt ≤ (rgSt J.toNat).2 := h2
    rw [← e, hx, ← h1] at h3
    exact ⟨_, _, rfl, h3⟩
section VQ2
variable {own : String} {cc : ByteArray} {nL : Nat} {ret : Option FieldType} {F L : Nat} {post : Option Value → Hp → Prop} {h : Hp} {pc : Nat} {ls : Pl} {st : List Value}
theorem N_ialdK {k n : Nat} {i z : Int32} {I : Int} (hs : vv_sk[k]? = some (vv_ar n)) (ha : i.toInt = I) (hin : 0 ≤ I ∧ I < n) (d : decode cc pc = .ok (.iaload, 1)) (hk : h.1 k I.toNat = z) (kk : V own cc nL ret F L post h (pc + 1) ls (.int z :: st)) : V own cc nL ret F L post h pc ls (.int i :: .ref k :: st) := V_iald hs ha hin d (fun z' e => by rw [e, hk]; exact kk)
end VQ2
theorem V_drop {own : String} {cc : ByteArray} {nL : Nat} {ret : Option FieldType} {F L : Nat} {post : Option Value → Hp → Prop} {h : Hp} {pc : Nat} {ls : Pl} {st : List Value} (i : Nat) (ls1 : Pl) (h1 : ls.set i none = ls1) (k : V own cc nL ret F L post h pc ls1 st) : V own cc nL ret F L post h pc ls st := by
  refine V_ls ls1 (fun j v hj => ?_) k
  rw [← h1] at hj
  by_cases e : i = j
  · subst e
    by_cases hlt : i < ls.length
    · rw [List.getElem?_set_self hlt] at hj; cases hj
    · rw [List.getElem?_eq_none (by rw [List.length_set]; omega)] at hj; cases hj
  · rw [List.getElem?_set_ne e] at hj
    exact hj
theorem knL_put {h h2 : Hp} {k' i' : Nat} {x : Int32} {v : Int64} (e : h2 = pI h k' i' x) (hk : h.2 = v) : h2.2 = v := by subst e; exact hk
theorem knL_long {h h2 : Hp} {x : Int64} (e : h2 = pL h x) : h2.2 = x := by subst e; rfl
section VQ3
variable {own : String} {cc : ByteArray} {nL : Nat} {ret : Option FieldType} {F L : Nat} {post : Option Value → Hp → Prop} {h : Hp} {pc : Nat} {ls : Pl} {st : List Value}
theorem N_getLK {idx ci i k : Nat} {ss : List Sl} {z : Int64} (fa : FA own idx ci i) (hs : vv_sk[k]? = some (.inr (ci, ss))) (hi : ss[i]? = some (.inr true)) (d : decode cc pc = .ok (.getfield idx, 3)) (hk : h.2 = z) (kk : V own cc nL ret F L post h (pc + 3) ls (.long z :: st)) : V own cc nL ret F L post h pc ls (.ref k :: st) := V_getL fa hs hi d (by rw [hk]; exact kk)
end VQ3
theorem subw_ti {x y z : Int32} {A B Z : Int} (ha : x.toInt = A) (hb : y.toInt = B) (e : z = x - y) (hz : z.toInt = Z) : (Z = A - B ∨ Z = A - B + 4294967296 ∨ Z = A - B - 4294967296) ∧ -2147483648 ≤ A ∧ A ≤ 2147483647 ∧ -2147483648 ≤ Z ∧ Z ≤ 2147483647 := by
  have h1 := ti_lo x; have h2 := ti_hi x; have h3 := ti_lo z; have h4 := ti_hi z; have h5 := ti_lo y; have h6 := ti_hi y
  rw [ha] at h1 h2; rw [hz] at h3 h4; rw [hb] at h5 h6
  refine ⟨?_, h1, h2, h3, h4⟩
  have h7 : (A - B).bmod (2 ^ 32) = Z := by rw [← hz, e, Int32.toInt_sub, ha, hb]
  unfold Int.bmod at h7
  simp only [show ((2 ^ 32 : Nat) : Int) = 4294967296 from rfl] at h7
  split at h7 <;> omega
theorem t64_rem {x y : Int64} {A B : Int} (ha : x.toInt = A) (hb : y.toInt = B) (h0 : 0 ≤ A) (hB : 0 < B) : (x - x / y * y).toInt = A % B := by
  have h2 := x.toInt_lt
  have h3 := Int.mul_ediv_add_emod A B
  have h4 := Int.emod_nonneg A (Int.ne_of_gt hB)
  have h5 := Int.emod_lt_of_pos A hB
  have h6 : A / B * B = A - A % B := by rw [Int.mul_comm]; omega
  have h7 := Int.mul_nonneg (Int.ediv_nonneg h0 (Int.le_of_lt hB)) (Int.le_of_lt hB)
  have h8 := Int.ediv_le_self B h0
  have h9 := Int.ediv_nonneg h0 (Int.le_of_lt hB)
  have d1 : (x / y).toInt = A / B := by rw [Int64.toInt_div, ha, hb, Int.tdiv_eq_ediv_of_nonneg h0, Int.bmod_eq_of_le] <;> omega
  have d2 : (x / y * y).toInt = A / B * B := by rw [Int64.toInt_mul, d1, hb, Int.bmod_eq_of_le] <;> omega
  rw [Int64.toInt_sub, ha, d2, Int.bmod_eq_of_le] <;> omega
def zc (x : Int) : Int := if x = 0 then 1 else 0
theorem zc_b (x : Int) : 0 ≤ zc x ∧ zc x ≤ 1 := by unfold zc; split <;> omega
theorem zc_0 {x : Int} (h : x = 0) : zc x = 1 := if_pos h
theorem zc_n {x : Int} (h : x ≠ 0) : zc x = 0 := if_neg h
def rmN (w g c : Nat) : Nat := (((List.range 16).filter (fun i => decide (c ≤ i) && decide (i < w * g))).map (fun i => (w - 1 - i % w) + (g - 1 - i / w))).sum
def rm (w g c : Int) : Int := (rmN w.toNat g.toNat c.toNat : Nat)
theorem rmN_all : ∀ w, w < 5 → 2 ≤ w → ∀ g, g < 5 → 2 ≤ g → rmN w g 0 ≤ 48 ∧ ∀ c, c < w * g → rmN w g c = (w - 1 - c % w) + (g - 1 - c / w) + rmN w g (c + 1) := by decide +kernel
theorem rm_s {w g c M : Int} (hw : 2 ≤ w ∧ w ≤ 4) (hg : 2 ≤ g ∧ g ≤ 4) (hM : M = w * g) (hc : 0 ≤ c ∧ c < M) : rm w g c = (w - 1 - c % w) + (g - 1 - c / w) + rm w g (c + 1) ∧ 0 ≤ c / w ∧ c / w < g ∧ 0 ≤ c % w ∧ c % w < w := by
  obtain ⟨a, rfl⟩ := Int.eq_ofNat_of_zero_le (by (first | decide +kernel | omega) : 0 ≤ w)
  obtain ⟨b, rfl⟩ := Int.eq_ofNat_of_zero_le (by (first | decide +kernel | omega) : 0 ≤ g)
  obtain ⟨d, rfl⟩ := Int.eq_ofNat_of_zero_le hc.1
  have hd : d < a * b := by
    have h1 : (d : Int) < (a : Int) * (b : Int) := by rw [← hM]; exact hc.2
    exact_mod_cast h1
  have h1 := (rmN_all a (by (first | decide +kernel | omega)) (by (first | decide +kernel | omega)) b (by (first | decide +kernel | omega)) (by (first | decide +kernel | omega))).2 d hd
  have h2 : d / a < b := Nat.div_lt_of_lt_mul (by rw [Nat.mul_comm] at hd; rw [Nat.mul_comm]; exact hd)
  have h3 : d % a < a := Nat.mod_lt _ (by (first | decide +kernel | omega))
  have e1 : ((d : Int) / (a : Int)) = ((d / a : Nat) : Int) := (Int.natCast_ediv d a).symm
  have e2 : ((d : Int) % (a : Int)) = ((d % a : Nat) : Int) := (Int.natCast_emod d a).symm
  rw [e1, e2]
  unfold rm
  rw [show ((d : Int) + 1).toNat = d + 1 by (first | decide +kernel | omega)]
  simp only [Int.toNat_natCast]
  clear e1 e2
  generalize d / a = Q at *
  generalize d % a = Rr at *
  omega
/-- what is left of a search through rows of up to four cells -/
def plM (k a b c d : Int) : Int := if k < 0 then 0 else if k = 0 then (17 - a) * 6859 else if k = 1 then (17 - a) * 6859 + (17 - b) * 361 else if k = 2 then (17 - a) * 6859 + (17 - b) * 361 + (17 - c) * 19 else (17 - a) * 6859 + (17 - b) * 361 + (17 - c) * 19 + (17 - d)
theorem plM_m1 (a b c d : Int) : plM (-1) a b c d = 0 := by simp [plM]
theorem plM_0 (a b c d : Int) : plM 0 a b c d = (17 - a) * 6859 := by simp [plM]
theorem plM_1 (a b c d : Int) : plM 1 a b c d = (17 - a) * 6859 + (17 - b) * 361 := by simp [plM]
theorem plM_2 (a b c d : Int) : plM 2 a b c d = (17 - a) * 6859 + (17 - b) * 361 + (17 - c) * 19 := by simp [plM]
theorem plM_3 (a b c d : Int) : plM 3 a b c d = (17 - a) * 6859 + (17 - b) * 361 + (17 - c) * 19 + (17 - d) := by simp [plM]
theorem plM_p {k a b c d : Int} (ha : a ≤ 16) (hb : b ≤ 16) (hc : c ≤ 16) (hd : d ≤ 16) : 0 ≤ plM k a b c d := by
  unfold plM
  split
  · omega
  · split
    · omega
    · split
      · omega
      · split <;> omega
theorem t64_add {x y : Int64} {A B : Int} (ha : x.toInt = A) (hb : y.toInt = B) (h : -9223372036854775808 ≤ A + B ∧ A + B ≤ 9223372036854775807) : (x + y).toInt = A + B := by
  rw [Int64.toInt_add, ha, hb, Int.bmod_eq_of_le] <;> omega
end
section
theorem sk_0 : vv_sk[0]? = some (.inr (1, [.inl 1, .inl 7, .inl 12, .inr false, .inr false])) := by decide +kernel
theorem sk_1 : vv_sk[1]? = some (.inr (2, [.inr false, .inr false, .inr false, .inr false, .inl 2, .inl 3, .inl 4, .inl 5, .inl 6])) := by decide +kernel
theorem sk_2 : vv_sk[2]? = some (vv_ar 16) := by decide +kernel
theorem sk_3 : vv_sk[3]? = some (vv_ar 16) := by decide +kernel
theorem sk_4 : vv_sk[4]? = some (vv_ar 16) := by decide +kernel
theorem sk_5 : vv_sk[5]? = some (vv_ar 16) := by decide +kernel
theorem sk_6 : vv_sk[6]? = some (vv_ar 16) := by decide +kernel
theorem sk_7 : vv_sk[7]? = some (.inr (3, [.inl 8, .inl 9, .inl 10, .inl 11, .inr false])) := by decide +kernel
theorem sk_8 : vv_sk[8]? = some (vv_ar 4) := by decide +kernel
theorem sk_9 : vv_sk[9]? = some (vv_ar 8) := by decide +kernel
theorem sk_10 : vv_sk[10]? = some (vv_ar 8) := by decide +kernel
theorem sk_11 : vv_sk[11]? = some (vv_ar 8) := by decide +kernel
theorem sk_12 : vv_sk[12]? = some (.inr (7, [.inl 13, .inl 14, .inl 15, .inl 16, .inr false])) := by decide +kernel
theorem sk_13 : vv_sk[13]? = some (vv_ar 8) := by decide +kernel
theorem sk_14 : vv_sk[14]? = some (vv_ar 8) := by decide +kernel
theorem sk_15 : vv_sk[15]? = some (vv_ar 8) := by decide +kernel
theorem sk_16 : vv_sk[16]? = some (vv_ar 8) := by decide +kernel
theorem sk_17 : vv_sk[17]? = some (.inr (1, [.inl 18, .inl 24, .inl 29, .inr false, .inr false])) := by decide +kernel
theorem sk_18 : vv_sk[18]? = some (.inr (2, [.inr false, .inr false, .inr false, .inr false, .inl 19, .inl 20, .inl 21, .inl 22, .inl 23])) := by decide +kernel
theorem sk_19 : vv_sk[19]? = some (vv_ar 16) := by decide +kernel
theorem sk_20 : vv_sk[20]? = some (vv_ar 16) := by decide +kernel
theorem sk_21 : vv_sk[21]? = some (vv_ar 16) := by decide +kernel
theorem sk_22 : vv_sk[22]? = some (vv_ar 16) := by decide +kernel
theorem sk_23 : vv_sk[23]? = some (vv_ar 16) := by decide +kernel
theorem sk_24 : vv_sk[24]? = some (.inr (3, [.inl 25, .inl 26, .inl 27, .inl 28, .inr false])) := by decide +kernel
theorem sk_25 : vv_sk[25]? = some (vv_ar 4) := by decide +kernel
theorem sk_26 : vv_sk[26]? = some (vv_ar 8) := by decide +kernel
theorem sk_27 : vv_sk[27]? = some (vv_ar 8) := by decide +kernel
theorem sk_28 : vv_sk[28]? = some (vv_ar 8) := by decide +kernel
theorem sk_29 : vv_sk[29]? = some (.inr (7, [.inl 30, .inl 31, .inl 32, .inl 33, .inr false])) := by decide +kernel
theorem sk_30 : vv_sk[30]? = some (vv_ar 8) := by decide +kernel
theorem sk_31 : vv_sk[31]? = some (vv_ar 8) := by decide +kernel
theorem sk_32 : vv_sk[32]? = some (vv_ar 8) := by decide +kernel
theorem sk_33 : vv_sk[33]? = some (vv_ar 8) := by decide +kernel
theorem sk_34 : vv_sk[34]? = some (.inr (1, [.inl 35, .inl 41, .inl 46, .inr false, .inr false])) := by decide +kernel
theorem sk_35 : vv_sk[35]? = some (.inr (2, [.inr false, .inr false, .inr false, .inr false, .inl 36, .inl 37, .inl 38, .inl 39, .inl 40])) := by decide +kernel
theorem sk_36 : vv_sk[36]? = some (vv_ar 16) := by decide +kernel
theorem sk_37 : vv_sk[37]? = some (vv_ar 16) := by decide +kernel
theorem sk_38 : vv_sk[38]? = some (vv_ar 16) := by decide +kernel
theorem sk_39 : vv_sk[39]? = some (vv_ar 16) := by decide +kernel
theorem sk_40 : vv_sk[40]? = some (vv_ar 16) := by decide +kernel
theorem sk_41 : vv_sk[41]? = some (.inr (3, [.inl 42, .inl 43, .inl 44, .inl 45, .inr false])) := by decide +kernel
theorem sk_42 : vv_sk[42]? = some (vv_ar 4) := by decide +kernel
theorem sk_43 : vv_sk[43]? = some (vv_ar 8) := by decide +kernel
theorem sk_44 : vv_sk[44]? = some (vv_ar 8) := by decide +kernel
theorem sk_45 : vv_sk[45]? = some (vv_ar 8) := by decide +kernel
theorem sk_46 : vv_sk[46]? = some (.inr (7, [.inl 47, .inl 48, .inl 49, .inl 50, .inr false])) := by decide +kernel
theorem sk_47 : vv_sk[47]? = some (vv_ar 8) := by decide +kernel
theorem sk_48 : vv_sk[48]? = some (vv_ar 8) := by decide +kernel
theorem sk_49 : vv_sk[49]? = some (vv_ar 8) := by decide +kernel
theorem sk_50 : vv_sk[50]? = some (vv_ar 8) := by decide +kernel
theorem sk_51 : vv_sk[51]? = some (.inr (1, [.inl 52, .inl 58, .inl 63, .inr false, .inr false])) := by decide +kernel
theorem sk_52 : vv_sk[52]? = some (.inr (2, [.inr false, .inr false, .inr false, .inr false, .inl 53, .inl 54, .inl 55, .inl 56, .inl 57])) := by decide +kernel
theorem sk_53 : vv_sk[53]? = some (vv_ar 16) := by decide +kernel
theorem sk_54 : vv_sk[54]? = some (vv_ar 16) := by decide +kernel
theorem sk_55 : vv_sk[55]? = some (vv_ar 16) := by decide +kernel
theorem sk_56 : vv_sk[56]? = some (vv_ar 16) := by decide +kernel
theorem sk_57 : vv_sk[57]? = some (vv_ar 16) := by decide +kernel
theorem sk_58 : vv_sk[58]? = some (.inr (3, [.inl 59, .inl 60, .inl 61, .inl 62, .inr false])) := by decide +kernel
theorem sk_59 : vv_sk[59]? = some (vv_ar 4) := by decide +kernel
theorem sk_60 : vv_sk[60]? = some (vv_ar 8) := by decide +kernel
theorem sk_61 : vv_sk[61]? = some (vv_ar 8) := by decide +kernel
theorem sk_62 : vv_sk[62]? = some (vv_ar 8) := by decide +kernel
theorem sk_63 : vv_sk[63]? = some (.inr (7, [.inl 64, .inl 65, .inl 66, .inl 67, .inr false])) := by decide +kernel
theorem sk_64 : vv_sk[64]? = some (vv_ar 8) := by decide +kernel
theorem sk_65 : vv_sk[65]? = some (vv_ar 8) := by decide +kernel
theorem sk_66 : vv_sk[66]? = some (vv_ar 8) := by decide +kernel
theorem sk_67 : vv_sk[67]? = some (vv_ar 8) := by decide +kernel
theorem sk_68 : vv_sk[68]? = some (.inr (1, [.inl 69, .inl 75, .inl 80, .inr false, .inr false])) := by decide +kernel
theorem sk_69 : vv_sk[69]? = some (.inr (2, [.inr false, .inr false, .inr false, .inr false, .inl 70, .inl 71, .inl 72, .inl 73, .inl 74])) := by decide +kernel
theorem sk_70 : vv_sk[70]? = some (vv_ar 16) := by decide +kernel
theorem sk_71 : vv_sk[71]? = some (vv_ar 16) := by decide +kernel
theorem sk_72 : vv_sk[72]? = some (vv_ar 16) := by decide +kernel
theorem sk_73 : vv_sk[73]? = some (vv_ar 16) := by decide +kernel
theorem sk_74 : vv_sk[74]? = some (vv_ar 16) := by decide +kernel
theorem sk_75 : vv_sk[75]? = some (.inr (3, [.inl 76, .inl 77, .inl 78, .inl 79, .inr false])) := by decide +kernel
theorem sk_76 : vv_sk[76]? = some (vv_ar 4) := by decide +kernel
theorem sk_77 : vv_sk[77]? = some (vv_ar 8) := by decide +kernel
theorem sk_78 : vv_sk[78]? = some (vv_ar 8) := by decide +kernel
theorem sk_79 : vv_sk[79]? = some (vv_ar 8) := by decide +kernel
theorem sk_80 : vv_sk[80]? = some (.inr (7, [.inl 81, .inl 82, .inl 83, .inl 84, .inr false])) := by decide +kernel
theorem sk_81 : vv_sk[81]? = some (vv_ar 8) := by decide +kernel
theorem sk_82 : vv_sk[82]? = some (vv_ar 8) := by decide +kernel
theorem sk_83 : vv_sk[83]? = some (vv_ar 8) := by decide +kernel
theorem sk_84 : vv_sk[84]? = some (vv_ar 8) := by decide +kernel
theorem sk_85 : vv_sk[85]? = some (.inr (10, [.inl 0, .inl 17, .inl 86, .inl 87, .inl 88, .inl 89, .inl 93, .inl 102, .inl 104, .inl 107, .inr false])) := by decide +kernel
theorem sk_86 : vv_sk[86]? = some (.inl (3, 2, some [34, 51])) := by decide +kernel
theorem sk_87 : vv_sk[87]? = some (.inl (2, 2, none)) := by decide +kernel
theorem sk_88 : vv_sk[88]? = some (.inr (5, [.inl 89, .inl 68, .inl 91, .inl 92, .inr false, .inr false, .inr false])) := by decide +kernel
theorem sk_89 : vv_sk[89]? = some (.inr (8, [.inl 90, .inr false, .inr false, .inr false, .inr false, .inr false])) := by decide +kernel
theorem sk_90 : vv_sk[90]? = some (.inl (1, 160, none)) := by decide +kernel
theorem sk_91 : vv_sk[91]? = some (vv_ar 3) := by decide +kernel
theorem sk_92 : vv_sk[92]? = some (vv_ar 10) := by decide +kernel
theorem sk_93 : vv_sk[93]? = some (.inr (9, [.inl 94, .inl 101])) := by decide +kernel
theorem sk_94 : vv_sk[94]? = some (.inl (5, 6, some [95, 96, 97, 98, 99, 100])) := by decide +kernel
theorem sk_95 : vv_sk[95]? = some (vv_ar 16) := by decide +kernel
theorem sk_96 : vv_sk[96]? = some (vv_ar 16) := by decide +kernel
theorem sk_97 : vv_sk[97]? = some (vv_ar 16) := by decide +kernel
theorem sk_98 : vv_sk[98]? = some (vv_ar 16) := by decide +kernel
theorem sk_99 : vv_sk[99]? = some (vv_ar 16) := by decide +kernel
theorem sk_100 : vv_sk[100]? = some (vv_ar 16) := by decide +kernel
theorem sk_101 : vv_sk[101]? = some (vv_ar 6) := by decide +kernel
theorem sk_102 : vv_sk[102]? = some (.inr (4, [.inl 103, .inr false, .inr false])) := by decide +kernel
theorem sk_103 : vv_sk[103]? = some (vv_ar 4) := by decide +kernel
theorem sk_104 : vv_sk[104]? = some (.inr (0, [.inl 105, .inr false, .inl 106, .inr false, .inr false, .inr false, .inr false, .inr false])) := by decide +kernel
theorem sk_105 : vv_sk[105]? = some (vv_ar 48) := by decide +kernel
theorem sk_106 : vv_sk[106]? = some (vv_ar 10) := by decide +kernel
theorem sk_107 : vv_sk[107]? = some (.inl (4, 4, some [108, 110, 112, 114])) := by decide +kernel
theorem sk_108 : vv_sk[108]? = some (.inr (6, [.inl 109, .inr false, .inr false])) := by decide +kernel
theorem sk_109 : vv_sk[109]? = some (vv_ar 40) := by decide +kernel
theorem sk_110 : vv_sk[110]? = some (.inr (6, [.inl 111, .inr false, .inr false])) := by decide +kernel
theorem sk_111 : vv_sk[111]? = some (vv_ar 40) := by decide +kernel
theorem sk_112 : vv_sk[112]? = some (.inr (6, [.inl 113, .inr false, .inr false])) := by decide +kernel
theorem sk_113 : vv_sk[113]? = some (vv_ar 40) := by decide +kernel
theorem sk_114 : vv_sk[114]? = some (.inr (6, [.inl 115, .inr false, .inr false])) := by decide +kernel
theorem sk_115 : vv_sk[115]? = some (vv_ar 40) := by decide +kernel
theorem sk_116 : vv_sk[116]? = some (.inr (11, [.inl 117, .inl 118, .inr false, .inr false, .inr false, .inr false, .inl 119, .inr false, .inr false, .inr false, .inr false, .inr false, .inl 120, .inr false, .inl 121, .inr false, .inr false, .inr false, .inr false, .inr false, .inr false, .inr false, .inl 122, .inl 123, .inl 124, .inr false, .inr true, .inl 125, .inr false, .inl 126, .inr false, .inl 127, .inl 128, .inl 129, .inl 130, .inr false, .inl 131])) := by decide +kernel
theorem sk_117 : vv_sk[117]? = some (vv_ar 432) := by decide +kernel
theorem sk_118 : vv_sk[118]? = some (.inl (2, 2, none)) := by decide +kernel
theorem sk_119 : vv_sk[119]? = some (vv_ar 144) := by decide +kernel
theorem sk_120 : vv_sk[120]? = some (vv_ar 6) := by decide +kernel
theorem sk_121 : vv_sk[121]? = some (vv_ar 160) := by decide +kernel
theorem sk_122 : vv_sk[122]? = some (vv_ar 128) := by decide +kernel
theorem sk_123 : vv_sk[123]? = some (vv_ar 4) := by decide +kernel
theorem sk_124 : vv_sk[124]? = some (vv_ar 4) := by decide +kernel
theorem sk_125 : vv_sk[125]? = some (vv_ar 48) := by decide +kernel
theorem sk_126 : vv_sk[126]? = some (vv_ar 4) := by decide +kernel
theorem sk_127 : vv_sk[127]? = some (vv_ar 16) := by decide +kernel
theorem sk_128 : vv_sk[128]? = some (vv_ar 4) := by decide +kernel
theorem sk_129 : vv_sk[129]? = some (vv_ar 4) := by decide +kernel
theorem sk_130 : vv_sk[130]? = some (vv_ar 160) := by decide +kernel
theorem sk_131 : vv_sk[131]? = some (vv_ar 20) := by decide +kernel
theorem lo_116 : ∀ j : Nat, j ≠ 26 → ([.inl 117, .inl 118, .inr false, .inr false, .inr false, .inr false, .inl 119, .inr false, .inr false, .inr false, .inr false, .inr false, .inl 120, .inr false, .inl 121, .inr false, .inr false, .inr false, .inr false, .inr false, .inr false, .inr false, .inl 122, .inl 123, .inl 124, .inr false, .inr true, .inl 125, .inr false, .inl 126, .inr false, .inl 127, .inl 128, .inl 129, .inl 130, .inr false, .inl 131] : List Sl)[j]? ≠ some (.inr true) := by
  intro j hj
  by_cases h : j < 37
  · have : ∀ j, j < 37 → j ≠ 26 → ([.inl 117, .inl 118, .inr false, .inr false, .inr false, .inr false, .inl 119, .inr false, .inr false, .inr false, .inr false, .inr false, .inl 120, .inr false, .inl 121, .inr false, .inr false, .inr false, .inr false, .inr false, .inr false, .inr false, .inl 122, .inl 123, .inl 124, .inr false, .inr true, .inl 125, .inr false, .inl 126, .inr false, .inl 127, .inl 128, .inl 129, .inl 130, .inr false, .inl 131] : List Sl)[j]? ≠ some (.inr true) := by decide +kernel
    exact this j h hj
  · rw [List.getElem?_eq_none (by simp; omega)]; intro q; cases q
theorem wmax1 : Cond.static Lib.Math.max.name ∈ vv_G := vv_Gin (List.mem_append_right _ (List.mem_append_right _ (List.mem_append_right _ (List.mem_append_left _ (List.mem_of_getElem? (i := 175) (by decide +kernel)))))) (by decide +kernel)
theorem wmax3 : Cond.code Lib.Math.max.name Lib.Math.max.code 2 (some .int) ∈ vv_G := vv_Gin (List.mem_append_right _ (List.mem_append_right _ (List.mem_append_right _ (List.mem_append_left _ (List.mem_of_getElem? (i := 176) (by decide +kernel)))))) (by decide +kernel)
theorem wmin1 : Cond.static Lib.Math.min.name ∈ vv_G := vv_Gin (List.mem_append_right _ (List.mem_append_right _ (List.mem_append_right _ (List.mem_append_right _ (List.mem_append_left _ (List.mem_of_getElem? (i := 190) (by decide +kernel))))))) (by decide +kernel)
theorem wmin3 : Cond.code Lib.Math.min.name Lib.Math.min.code 2 (some .int) ∈ vv_G := vv_Gin (List.mem_append_right _ (List.mem_append_right _ (List.mem_append_right _ (List.mem_append_right _ (List.mem_append_left _ (List.mem_of_getElem? (i := 191) (by decide +kernel))))))) (by decide +kernel)
theorem wM2 : Cond.initialized "java/lang/Math" ∈ vv_G := vv_Gin (List.mem_append_right _ (List.mem_append_left _ (List.mem_of_getElem? (i := 19) (by decide +kernel)))) (by decide +kernel)
theorem wA1 : Cond.native arraycopyName ∈ vv_G := vv_Gin (List.mem_append_right _ (List.mem_append_right _ (List.mem_append_right _ (List.mem_append_left _ (List.mem_of_getElem? (i := 89) (by decide +kernel)))))) (by decide +kernel)
theorem wA2 : Cond.static arraycopyName ∈ vv_G := vv_Gin (List.mem_append_right _ (List.mem_append_right _ (List.mem_append_right _ (List.mem_append_left _ (List.mem_of_getElem? (i := 88) (by decide +kernel)))))) (by decide +kernel)
theorem wA3 : Cond.initialized "java/lang/System" ∈ vv_G := vv_Gin (List.mem_append_right _ (List.mem_append_left _ (List.mem_of_getElem? (i := 18) (by decide +kernel)))) (by decide +kernel)
theorem t64_lt {x y : Int64} {A B : Int} (ha : x.toInt = A) (hb : y.toInt = B) : x < y ↔ A < B := by rw [Int64.lt_iff_toInt_lt, ha, hb]
theorem t64_eq {x y : Int64} {A B : Int} (ha : x.toInt = A) (hb : y.toInt = B) : x = y ↔ A = B := by rw [← Int64.toInt_inj, ha, hb]
theorem lcmp_ti {x y : Int64} {A B : Int} {z : Int32} {Z : Int} (ha : x.toInt = A) (hb : y.toInt = B) (e : z = lg_cmp x y) (hz : z.toInt = Z) : Z = 1 ∧ B < A ∨ Z = 0 ∧ A = B ∨ Z = -1 ∧ A < B := by
  subst e
  unfold lg_cmp at hz
  split at hz
  · next h => exact Or.inl ⟨hz.symm.trans rfl, (t64_lt hb ha).mp h⟩
  · next h =>
    have h1 := fun q => h ((t64_lt hb ha).mpr q)
    split at hz
    · next h2 => exact Or.inr (Or.inl ⟨hz.symm.trans rfl, (t64_eq ha hb).mp h2⟩)
    · next h2 =>
      have h3 := fun q => h2 ((t64_eq ha hb).mpr q)
      refine Or.inr (Or.inr ⟨hz.symm.trans (by rfl), ?_⟩)
      rcases Int.lt_trichotomy A B with q | q | q
      · exact q
      · exact absurd q h3
      · exact absurd q h1
theorem gridAt {I : Int} (hI : 0 ≤ I ∧ I < 6) : ([95, 96, 97, 98, 99, 100] : List Nat)[I.toNat]? = some (95 + I.toNat) := by
  rcases (by (first | decide +kernel | omega) : I = 0 ∨ I = 1 ∨ I = 2 ∨ I = 3 ∨ I = 4 ∨ I = 5) with rfl | rfl | rfl | rfl | rfl | rfl <;> rfl
theorem gridSk {I : Int} (hI : 0 ≤ I ∧ I < 6) : vv_sk[95 + I.toNat]? = some (vv_ar 16) := by
  rcases (by (first | decide +kernel | omega) : I = 0 ∨ I = 1 ∨ I = 2 ∨ I = 3 ∨ I = 4 ∨ I = 5) with rfl | rfl | rfl | rfl | rfl | rfl
  · exact sk_95
  · exact sk_96
  · exact sk_97
  · exact sk_98
  · exact sk_99
  · exact sk_100
end
section
theorem tc_0 : (0 : Int32).toInt = 0 := rfl
theorem tc_1 : (1 : Int32).toInt = 1 := rfl
theorem fa_Mod_99 : FA R_Mod 99 11 15 := ⟨_, _, _, rfl, i_Mod, by decide, vv_Gin (List.mem_append_right _ (List.mem_append_right _ (List.mem_append_right _ (List.mem_append_right _ (List.mem_append_left _ (List.mem_of_getElem? (i := 238) rfl)))))) rfl⟩
theorem tc_m1 : ((-1) : Int32).toInt = (-1) := rfl
theorem fa_Mod_23 : FA R_Mod 23 11 14 := ⟨_, _, _, rfl, i_Mod, by decide, vv_Gin (List.mem_append_right _ (List.mem_append_right _ (List.mem_append_right _ (List.mem_append_right _ (List.mem_append_left _ (List.mem_of_getElem? (i := 237) rfl)))))) rfl⟩
theorem fa_Mod_81 : FA R_Mod 81 11 2 := ⟨_, _, _, rfl, i_Mod, by decide, vv_Gin (List.mem_append_right _ (List.mem_append_right _ (List.mem_append_right _ (List.mem_append_right _ (List.mem_append_left _ (List.mem_of_getElem? (i := 225) rfl)))))) rfl⟩
theorem fa_Mod_84 : FA R_Mod 84 11 3 := ⟨_, _, _, rfl, i_Mod, by decide, vv_Gin (List.mem_append_right _ (List.mem_append_right _ (List.mem_append_right _ (List.mem_append_right _ (List.mem_append_left _ (List.mem_of_getElem? (i := 226) rfl)))))) rfl⟩
theorem tl_0 : (0 : Int64).toInt = 0 := rfl
theorem cb_Mod_cellMany : CB y_Mod_cellMany b_Mod_cellMany 1 (some .int) 0 := ⟨vv_Gin (List.mem_append_right _ (List.mem_append_right _ (List.mem_append_right _ (List.mem_append_right _ (List.mem_append_right _ (List.mem_append_left _ (List.mem_of_getElem? (i := 198) rfl))))))) rfl, by decide +kernel, vv_Gin (List.mem_append_right _ (List.mem_append_left _ (List.mem_of_getElem? (i := 13) rfl))) rfl⟩
theorem im_Mod_cellMany : Cond.instanceMethod y_Mod_cellMany ∈ vv_G := vv_Gin (List.mem_append_right _ (List.mem_append_right _ (List.mem_append_right _ (List.mem_append_right _ (List.mem_append_right _ (List.mem_append_left _ (List.mem_of_getElem? (i := 197) rfl))))))) rfl
theorem se_Mod_cellMany : Cond.selects y_Mod_cellMany.cls y_Mod_cellMany y_Mod_cellMany ∈ vv_G := vv_Gin (List.mem_append_left _ (List.mem_of_getElem? (i := 36) rfl)) rfl
theorem cv_Mod_183 : CV R_Mod 183 y_Mod_cellMany b_Mod_cellMany 1 (some .int) 0 := ⟨cb_Mod_cellMany, im_Mod_cellMany, se_Mod_cellMany, vv_Gin (List.mem_append_right _ (List.mem_append_right _ (List.mem_append_right _ (List.mem_append_right _ (List.mem_append_right _ (List.mem_append_left _ (List.mem_of_getElem? (i := 195) rfl))))))) rfl⟩
theorem cb_Mod_in : CB y_Mod_in b_Mod_in 6 (some .boolean) 3 := ⟨vv_Gin (List.mem_append_right _ (List.mem_append_right _ (List.mem_append_right _ (List.mem_append_right _ (List.mem_append_right _ (List.mem_append_left _ (List.mem_of_getElem? (i := 102) rfl))))))) rfl, by decide +kernel, vv_Gin (List.mem_append_right _ (List.mem_append_left _ (List.mem_of_getElem? (i := 13) rfl))) rfl⟩
theorem st_Mod_in : Cond.static y_Mod_in ∈ vv_G := vv_Gin (List.mem_append_right _ (List.mem_append_right _ (List.mem_append_right _ (List.mem_append_right _ (List.mem_append_right _ (List.mem_append_left _ (List.mem_of_getElem? (i := 101) rfl))))))) rfl
theorem cs_Mod_95 : CS R_Mod 95 y_Mod_in b_Mod_in 6 (some .boolean) 3 := ⟨cb_Mod_in, st_Mod_in, Or.inl (vv_Gin (List.mem_append_right _ (List.mem_append_right _ (List.mem_append_right _ (List.mem_append_right _ (List.mem_append_right _ (List.mem_append_left _ (List.mem_of_getElem? (i := 100) rfl))))))) rfl)⟩
theorem wl_Mod_186 : Cond.constantLong R_Mod 186 3 ∈ vv_G := vv_Gin (List.mem_append_right _ (List.mem_append_right _ (List.mem_append_right _ (List.mem_append_right _ (List.mem_append_right _ (List.mem_append_left _ (List.mem_of_getElem? (i := 217) (by decide +kernel)))))))) (by decide +kernel)
theorem tl_3 : (3 : Int64).toInt = 3 := rfl
theorem fa_Mod_7 : FA R_Mod 7 11 0 := ⟨_, _, _, rfl, i_Mod, by decide, vv_Gin (List.mem_append_right _ (List.mem_append_right _ (List.mem_append_right _ (List.mem_append_right _ (List.mem_append_left _ (List.mem_of_getElem? (i := 223) rfl)))))) rfl⟩
theorem tc_64 : (64 : Int32).toInt = 64 := rfl
theorem cb_Mod_isWellBy : CB y_Mod_isWellBy b_Mod_isWellBy 2 (some .boolean) 2 := ⟨vv_Gin (List.mem_append_right _ (List.mem_append_right _ (List.mem_append_right _ (List.mem_append_right _ (List.mem_append_right _ (List.mem_append_left _ (List.mem_of_getElem? (i := 206) rfl))))))) rfl, by decide +kernel, vv_Gin (List.mem_append_right _ (List.mem_append_left _ (List.mem_of_getElem? (i := 13) rfl))) rfl⟩
theorem st_Mod_isWellBy : Cond.static y_Mod_isWellBy ∈ vv_G := vv_Gin (List.mem_append_right _ (List.mem_append_right _ (List.mem_append_right _ (List.mem_append_right _ (List.mem_append_right _ (List.mem_append_left _ (List.mem_of_getElem? (i := 205) rfl))))))) rfl
theorem cs_Mod_188 : CS R_Mod 188 y_Mod_isWellBy b_Mod_isWellBy 2 (some .boolean) 2 := ⟨cb_Mod_isWellBy, st_Mod_isWellBy, Or.inl (vv_Gin (List.mem_append_right _ (List.mem_append_right _ (List.mem_append_right _ (List.mem_append_right _ (List.mem_append_right _ (List.mem_append_left _ (List.mem_of_getElem? (i := 204) rfl))))))) rfl)⟩
theorem wl_Mod_93 : Cond.constantLong R_Mod 93 127 ∈ vv_G := vv_Gin (List.mem_append_right _ (List.mem_append_right _ (List.mem_append_right _ (List.mem_append_right _ (List.mem_append_right _ (List.mem_append_left _ (List.mem_of_getElem? (i := 99) (by decide +kernel)))))))) (by decide +kernel)
theorem tl_127 : (127 : Int64).toInt = 127 := rfl
theorem tc_160 : (160 : Int32).toInt = 160 := rfl
theorem fp_Mod_99 : FP R_Mod 99 11 15 .int := ⟨_, _, _, t_Mod, rfl, i_Mod, by decide, vv_Gin (List.mem_append_right _ (List.mem_append_right _ (List.mem_append_right _ (List.mem_append_right _ (List.mem_append_left _ (List.mem_of_getElem? (i := 238) rfl)))))) rfl, t_Mod_ok, n_Mod, rfl, t_Mod_ok 15 (by decide)⟩
theorem tc_m3 : ((-3) : Int32).toInt = (-3) := rfl
theorem fa_Mod_102 : FA R_Mod 102 11 20 := ⟨_, _, _, rfl, i_Mod, by decide, vv_Gin (List.mem_append_right _ (List.mem_append_right _ (List.mem_append_right _ (List.mem_append_right _ (List.mem_append_right _ (List.mem_append_left _ (List.mem_of_getElem? (i := 3) rfl))))))) rfl⟩
theorem fa_Mod_328 : FA R_Mod 328 11 35 := ⟨_, _, _, rfl, i_Mod, by decide, vv_Gin (List.mem_append_right _ (List.mem_append_right _ (List.mem_append_right _ (List.mem_append_right _ (List.mem_append_right _ (List.mem_append_left _ (List.mem_of_getElem? (i := 18) rfl))))))) rfl⟩
theorem fa_Mod_87 : FA R_Mod 87 11 4 := ⟨_, _, _, rfl, i_Mod, by decide, vv_Gin (List.mem_append_right _ (List.mem_append_right _ (List.mem_append_right _ (List.mem_append_right _ (List.mem_append_left _ (List.mem_of_getElem? (i := 227) rfl)))))) rfl⟩
theorem fa_Mod_90 : FA R_Mod 90 11 5 := ⟨_, _, _, rfl, i_Mod, by decide, vv_Gin (List.mem_append_right _ (List.mem_append_right _ (List.mem_append_right _ (List.mem_append_right _ (List.mem_append_left _ (List.mem_of_getElem? (i := 228) rfl)))))) rfl⟩
theorem tc_84 : (84 : Int32).toInt = 84 := rfl
theorem tc_85 : (85 : Int32).toInt = 85 := rfl
theorem tc_86 : (86 : Int32).toInt = 86 := rfl
theorem cb_Mod_isOwner : CB y_Mod_isOwner b_Mod_isOwner 1 (some .boolean) 1 := ⟨vv_Gin (List.mem_append_right _ (List.mem_append_right _ (List.mem_append_right _ (List.mem_append_right _ (List.mem_append_right _ (List.mem_append_left _ (List.mem_of_getElem? (i := 216) rfl))))))) rfl, by decide +kernel, vv_Gin (List.mem_append_right _ (List.mem_append_left _ (List.mem_of_getElem? (i := 13) rfl))) rfl⟩
theorem st_Mod_isOwner : Cond.static y_Mod_isOwner ∈ vv_G := vv_Gin (List.mem_append_right _ (List.mem_append_right _ (List.mem_append_right _ (List.mem_append_right _ (List.mem_append_right _ (List.mem_append_left _ (List.mem_of_getElem? (i := 215) rfl))))))) rfl
theorem cs_Mod_205 : CS R_Mod 205 y_Mod_isOwner b_Mod_isOwner 1 (some .boolean) 1 := ⟨cb_Mod_isOwner, st_Mod_isOwner, Or.inl (vv_Gin (List.mem_append_right _ (List.mem_append_right _ (List.mem_append_right _ (List.mem_append_right _ (List.mem_append_right _ (List.mem_append_left _ (List.mem_of_getElem? (i := 214) rfl))))))) rfl)⟩
theorem tc_80 : (80 : Int32).toInt = 80 := rfl
theorem d_Mod_in_0 : decode b_Mod_in 0 = .ok (.lload_n 0, 1) := dc_30 (by decide +kernel)
theorem d_Mod_in_1 : decode b_Mod_in 1 = .ok (.lload_n 2, 1) := dc_32 (by decide +kernel)
theorem d_Mod_in_2 : decode b_Mod_in 2 = .ok (.lcmp, 1) := dc_148 (by decide +kernel)
theorem d_Mod_in_3 : decode b_Mod_in 3 = .ok (.ifCond .lt 14, 3) := dc_155 (a := 0) (b := 14) (by decide +kernel) rfl
theorem d_Mod_in_6 : decode b_Mod_in 6 = .ok (.lload_n 0, 1) := dc_30 (by decide +kernel)
theorem d_Mod_in_7 : decode b_Mod_in 7 = .ok (.lload 4, 2) := dc_22 (a := 4) (by decide +kernel) rfl
theorem d_Mod_in_9 : decode b_Mod_in 9 = .ok (.lcmp, 1) := dc_148 (by decide +kernel)
theorem d_Mod_in_10 : decode b_Mod_in 10 = .ok (.ifCond .gt 7, 3) := dc_157 (a := 0) (b := 7) (by decide +kernel) rfl
theorem d_Mod_in_13 : decode b_Mod_in 13 = .ok (.iconst 1, 1) := dc_4 (by decide +kernel)
theorem d_Mod_in_14 : decode b_Mod_in 14 = .ok (.goto 4, 3) := dc_167 (a := 0) (b := 4) (by decide +kernel) rfl
theorem d_Mod_in_17 : decode b_Mod_in 17 = .ok (.iconst 0, 1) := dc_3 (by decide +kernel)
theorem d_Mod_in_18 : decode b_Mod_in 18 = .ok (.ireturn, 1) := dc_172 (by decide +kernel)
abbrev q_Mod_in (h : Hp) (v : Int64) (vZ : Int) (lo : Int64) (loZ : Int) (hi : Int64) (hiZ : Int) : Option Value → Hp → Prop := pInt (fun r h' => h = h' ∧ (r.toInt = 1 ∧ loZ ≤ vZ ∧ vZ ≤ hiZ ∨ r.toInt = 0 ∧ (vZ < loZ ∨ hiZ < vZ)))
set_option maxRecDepth 100000 in
theorem c_Mod_in (h : Hp) (v : Int64) (vZ : Int) (vE : v.toInt = vZ) (lo : Int64) (loZ : Int) (loE : lo.toInt = loZ) (hi : Int64) (hiZ : Int) (hiE : hi.toInt = hiZ) : Ct y_Mod_in b_Mod_in 6 (some .boolean) 0 0 [.long v, .long lo, .long hi] h (q_Mod_in h v vZ lo loZ hi hiZ) := by
  refine ct_ow R_Mod [some (.long v), none, some (.long lo), none, some (.long hi), none] rfl (by decide) rfl (Nat.le_of_ble_eq_true rfl) ?_
  have f0 : fr [] h h := fr_rf
  refine V_lload_n 0 d_Mod_in_0 rfl rfl ?_
  refine V_lload_n 2 d_Mod_in_1 rfl rfl ?_
  refine N_lcmp d_Mod_in_2 (fun z1 z1Z z1E z1e => ?_)
  have g2 := lcmp_ti vE loE z1e z1E
  refine V_if_lt 17 z1E d_Mod_in_3 (by decide) (fun c3 => ?_) (fun c3 => ?_)
  ·
    refine V_iconst 0 d_Mod_in_17 (by decide) ?_
    exact V_zret rfl (by decide) d_Mod_in_18 ⟨0, rfl, ⟨rfl, (by (try rw [show Int32.toInt 0 = 0 from rfl]); omega)⟩⟩
  ·
    refine V_lload_n 0 d_Mod_in_6 rfl rfl ?_
    refine V_lload d_Mod_in_7 rfl ?_
    refine N_lcmp d_Mod_in_9 (fun z4 z4Z z4E z4e => ?_)
    have g5 := lcmp_ti vE hiE z4e z4E
    refine V_if_gt 17 z4E d_Mod_in_10 (by decide) (fun c6 => ?_) (fun c6 => ?_)
    ·
      refine V_iconst 0 d_Mod_in_17 (by decide) ?_
      exact V_zret rfl (by decide) d_Mod_in_18 ⟨0, rfl, ⟨rfl, (by (try rw [show Int32.toInt 0 = 0 from rfl]); omega)⟩⟩
    ·
      refine V_iconst 1 d_Mod_in_13 (by decide) ?_
      refine V_goto 18 d_Mod_in_14 (by decide) ?_
      exact V_zret rfl (by decide) d_Mod_in_18 ⟨1, rfl, ⟨rfl, (by (try rw [show Int32.toInt 1 = 1 from rfl]); omega)⟩⟩
theorem d_Mod_flag_0 : decode b_Mod_flag 0 = .ok (.iload_n 0, 1) := dc_26 (by decide +kernel)
theorem d_Mod_flag_1 : decode b_Mod_flag 1 = .ok (.ifCond .eq 7, 3) := dc_153 (a := 0) (b := 7) (by decide +kernel) rfl
theorem d_Mod_flag_4 : decode b_Mod_flag 4 = .ok (.iconst 1, 1) := dc_4 (by decide +kernel)
theorem d_Mod_flag_5 : decode b_Mod_flag 5 = .ok (.goto 4, 3) := dc_167 (a := 0) (b := 4) (by decide +kernel) rfl
theorem d_Mod_flag_8 : decode b_Mod_flag 8 = .ok (.iconst 0, 1) := dc_3 (by decide +kernel)
theorem d_Mod_flag_9 : decode b_Mod_flag 9 = .ok (.ireturn, 1) := dc_172 (by decide +kernel)
abbrev q_Mod_flag (h : Hp) (b : Int32) (bZ : Int) : Option Value → Hp → Prop := pInt (fun r h' => h = h' ∧ (bZ ≠ 0 ∧ r.toInt = 1 ∨ bZ = 0 ∧ r.toInt = 0))
set_option maxRecDepth 100000 in
theorem c_Mod_flag (h : Hp) (b : Int32) (bZ : Int) (bE : b.toInt = bZ) : Ct y_Mod_flag b_Mod_flag 1 (some .int) 0 0 [.int b] h (q_Mod_flag h b bZ) := by
  refine ct_ow R_Mod [some (.int b)] rfl (by decide) rfl (Nat.le_of_ble_eq_true rfl) ?_
  have f0 : fr [] h h := fr_rf
  refine V_iload_n 0 d_Mod_flag_0 rfl rfl ?_
  refine V_if_eq 8 bE d_Mod_flag_1 (by decide) (fun c1 => ?_) (fun c1 => ?_)
  ·
    refine V_iconst 0 d_Mod_flag_8 (by decide) ?_
    exact V_iret rfl d_Mod_flag_9 ⟨0, rfl, ⟨rfl, (by (try rw [show Int32.toInt 0 = 0 from rfl]); omega)⟩⟩
  ·
    refine V_iconst 1 d_Mod_flag_4 (by decide) ?_
    refine V_goto 9 d_Mod_flag_5 (by decide) ?_
    exact V_iret rfl d_Mod_flag_9 ⟨1, rfl, ⟨rfl, (by (try rw [show Int32.toInt 1 = 1 from rfl]); omega)⟩⟩
theorem d_Mod_look_0 : decode b_Mod_look 0 = .ok (.iload_n 1, 1) := dc_27 (by decide +kernel)
theorem d_Mod_look_1 : decode b_Mod_look 1 = .ok (.aload_n 0, 1) := dc_42 (by decide +kernel)
theorem d_Mod_look_2 : decode b_Mod_look 2 = .ok (.getfield 99, 3) := dc_180 (a := 0) (b := 99) (by decide +kernel) rfl
theorem d_Mod_look_5 : decode b_Mod_look 5 = .ok (.if_icmp .ge 12, 3) := dc_162 (a := 0) (b := 12) (by decide +kernel) rfl
theorem d_Mod_look_8 : decode b_Mod_look 8 = .ok (.aload_n 0, 1) := dc_42 (by decide +kernel)
theorem d_Mod_look_9 : decode b_Mod_look 9 = .ok (.getfield 23, 3) := dc_180 (a := 0) (b := 23) (by decide +kernel) rfl
theorem d_Mod_look_12 : decode b_Mod_look 12 = .ok (.iload_n 1, 1) := dc_27 (by decide +kernel)
theorem d_Mod_look_13 : decode b_Mod_look 13 = .ok (.iaload, 1) := dc_46 (by decide +kernel)
theorem d_Mod_look_14 : decode b_Mod_look 14 = .ok (.goto 4, 3) := dc_167 (a := 0) (b := 4) (by decide +kernel) rfl
theorem d_Mod_look_17 : decode b_Mod_look 17 = .ok (.iconst (-1), 1) := dc_2 (by decide +kernel)
theorem d_Mod_look_18 : decode b_Mod_look 18 = .ok (.ireturn, 1) := dc_172 (by decide +kernel)
theorem d_Mod_cellMany_0 : decode b_Mod_cellMany 0 = .ok (.aload_n 0, 1) := dc_42 (by decide +kernel)
theorem d_Mod_cellMany_1 : decode b_Mod_cellMany 1 = .ok (.getfield 81, 3) := dc_180 (a := 0) (b := 81) (by decide +kernel) rfl
theorem d_Mod_cellMany_4 : decode b_Mod_cellMany 4 = .ok (.aload_n 0, 1) := dc_42 (by decide +kernel)
theorem d_Mod_cellMany_5 : decode b_Mod_cellMany 5 = .ok (.getfield 84, 3) := dc_180 (a := 0) (b := 84) (by decide +kernel) rfl
theorem d_Mod_cellMany_8 : decode b_Mod_cellMany 8 = .ok (.imul, 1) := dc_104 (by decide +kernel)
theorem d_Mod_cellMany_9 : decode b_Mod_cellMany 9 = .ok (.ireturn, 1) := dc_172 (by decide +kernel)
abbrev q_Mod_cellMany (h : Hp) (w : Int32) (wZ : Int) (g : Int32) (gZ : Int) : Option Value → Hp → Prop := pInt (fun r h' => h = h' ∧ (4 ≤ r.toInt ∧ r.toInt ≤ 16 ∧ r.toInt = wZ * gZ))
set_option maxRecDepth 100000 in
theorem c_Mod_cellMany (h : Hp) (hI : Inv h) (w : Int32) (wZ : Int) (wE : w.toInt = wZ) (wK : h.1 116 2 = w) (g : Int32) (gZ : Int) (gE : g.toInt = gZ) (gK : h.1 116 3 = g) : Ct y_Mod_cellMany b_Mod_cellMany 1 (some .int) 0 0 [.ref 116] h (q_Mod_cellMany h w wZ g gZ) := by
  refine ct_ow R_Mod [some (.ref 116)] rfl (by decide) rfl (Nat.le_of_ble_eq_true rfl) ?_
  have f0 : fr [] h h := fr_rf
  have g1 : 2 ≤ wZ ∧ wZ ≤ 4 := inv_at hI wE wK.symm rfl
  have g2 : 2 ≤ gZ ∧ gZ ≤ 4 := inv_at hI gE gK.symm rfl
  refine V_aload_n 0 d_Mod_cellMany_0 rfl rfl ?_
  refine N_getK fa_Mod_81 sk_116 rfl d_Mod_cellMany_1 wK ?_
  refine V_aload_n 0 d_Mod_cellMany_4 rfl rfl ?_
  refine N_getK fa_Mod_84 sk_116 rfl d_Mod_cellMany_5 gK ?_
  refine N_mul24 wE gE (by (first | decide +kernel | omega)) (by (first | decide +kernel | omega)) d_Mod_cellMany_8 (fun z3 z3Z z3E z3e z3r z3m => ?_)
  exact V_iret rfl d_Mod_cellMany_9 ⟨z3, rfl, ⟨rfl, (by (try rw [z3E]); omega)⟩⟩
theorem d_Mod_isCell_0 : decode b_Mod_isCell 0 = .ok (.iload_n 1, 1) := dc_27 (by decide +kernel)
theorem d_Mod_isCell_1 : decode b_Mod_isCell 1 = .ok (.i2l, 1) := dc_133 (by decide +kernel)
theorem d_Mod_isCell_2 : decode b_Mod_isCell 2 = .ok (.lconst 0, 1) := dc_9 (by decide +kernel)
theorem d_Mod_isCell_3 : decode b_Mod_isCell 3 = .ok (.aload_n 0, 1) := dc_42 (by decide +kernel)
theorem d_Mod_isCell_4 : decode b_Mod_isCell 4 = .ok (.invokevirtual 183, 3) := dc_182 (a := 0) (b := 183) (by decide +kernel) rfl
theorem d_Mod_isCell_7 : decode b_Mod_isCell 7 = .ok (.iconst 1, 1) := dc_4 (by decide +kernel)
theorem d_Mod_isCell_8 : decode b_Mod_isCell 8 = .ok (.isub, 1) := dc_100 (by decide +kernel)
theorem d_Mod_isCell_9 : decode b_Mod_isCell 9 = .ok (.i2l, 1) := dc_133 (by decide +kernel)
theorem d_Mod_isCell_10 : decode b_Mod_isCell 10 = .ok (.invokestatic 95, 3) := dc_184 (a := 0) (b := 95) (by decide +kernel) rfl
theorem d_Mod_isCell_13 : decode b_Mod_isCell 13 = .ok (.ireturn, 1) := dc_172 (by decide +kernel)
theorem d_Mod_isOwner_0 : decode b_Mod_isOwner 0 = .ok (.iload_n 0, 1) := dc_26 (by decide +kernel)
theorem d_Mod_isOwner_1 : decode b_Mod_isOwner 1 = .ok (.i2l, 1) := dc_133 (by decide +kernel)
theorem d_Mod_isOwner_2 : decode b_Mod_isOwner 2 = .ok (.lconst 0, 1) := dc_9 (by decide +kernel)
theorem d_Mod_isOwner_3 : decode b_Mod_isOwner 3 = .ok (.ldc2_w 186, 3) := dc_20 (a := 0) (b := 186) (by decide +kernel) rfl
theorem d_Mod_isOwner_6 : decode b_Mod_isOwner 6 = .ok (.invokestatic 95, 3) := dc_184 (a := 0) (b := 95) (by decide +kernel) rfl
theorem d_Mod_isOwner_9 : decode b_Mod_isOwner 9 = .ok (.ireturn, 1) := dc_172 (by decide +kernel)
abbrev q_Mod_isOwner (h : Hp) (o : Int32) (oZ : Int) : Option Value → Hp → Prop := pInt (fun r h' => h = h' ∧ (r.toInt = 1 ∧ 0 ≤ oZ ∧ oZ ≤ 3 ∨ r.toInt = 0 ∧ (oZ < 0 ∨ 3 < oZ)))
set_option maxRecDepth 100000 in
theorem c_Mod_isOwner (h : Hp) (o : Int32) (oZ : Int) (oE : o.toInt = oZ) : Ct y_Mod_isOwner b_Mod_isOwner 1 (some .boolean) 1 25 [.int o] h (q_Mod_isOwner h o oZ) := by
  refine ct_ow R_Mod [some (.int o)] rfl (by decide) rfl (Nat.le_of_ble_eq_true rfl) ?_
  have f0 : fr [] h h := fr_rf
  refine V_iload_n 0 d_Mod_isOwner_0 rfl rfl ?_
  refine V_i2l d_Mod_isOwner_1 (fun z1 z1e z1E => ?_)
  have z1F : z1.toInt = oZ := z1E.trans oE
  refine V_lconst 0 d_Mod_isOwner_2 (by decide) ?_
  refine V_ldc2 d_Mod_isOwner_3 wl_Mod_186 ?_
  refine N_callSI [.long z1, .long 0, .long 3] [] cs_Mod_95 d_Mod_isOwner_6 rfl (Nat.le_of_ble_eq_true rfl) (by decide) (by decide) (c_Mod_in h z1 oZ z1F 0 0 tl_0 3 3 tl_3) (fun z2 h3 z2Z z2E p4 => ?_)
  obtain ⟨eh3, p4⟩ := p4
  subst eh3
  exact V_zret rfl (by rw [z2E]; omega) d_Mod_isOwner_9 ⟨z2, rfl, ⟨rfl, (by (try rw [z2E]); omega)⟩⟩
theorem d_Mod_isWellBy_0 : decode b_Mod_isWellBy 0 = .ok (.iload_n 0, 1) := dc_26 (by decide +kernel)
theorem d_Mod_isWellBy_1 : decode b_Mod_isWellBy 1 = .ok (.ifCond .le 12, 3) := dc_158 (a := 0) (b := 12) (by decide +kernel) rfl
theorem d_Mod_isWellBy_4 : decode b_Mod_isWellBy 4 = .ok (.iload_n 0, 1) := dc_26 (by decide +kernel)
theorem d_Mod_isWellBy_5 : decode b_Mod_isWellBy 5 = .ok (.iload_n 1, 1) := dc_27 (by decide +kernel)
theorem d_Mod_isWellBy_6 : decode b_Mod_isWellBy 6 = .ok (.if_icmp .gt 7, 3) := dc_163 (a := 0) (b := 7) (by decide +kernel) rfl
theorem d_Mod_isWellBy_9 : decode b_Mod_isWellBy 9 = .ok (.iconst 1, 1) := dc_4 (by decide +kernel)
theorem d_Mod_isWellBy_10 : decode b_Mod_isWellBy 10 = .ok (.goto 4, 3) := dc_167 (a := 0) (b := 4) (by decide +kernel) rfl
theorem d_Mod_isWellBy_13 : decode b_Mod_isWellBy 13 = .ok (.iconst 0, 1) := dc_3 (by decide +kernel)
theorem d_Mod_isWellBy_14 : decode b_Mod_isWellBy 14 = .ok (.ireturn, 1) := dc_172 (by decide +kernel)
theorem d_Mod_isWell_0 : decode b_Mod_isWell 0 = .ok (.aload_n 0, 1) := dc_42 (by decide +kernel)
theorem d_Mod_isWell_1 : decode b_Mod_isWell 1 = .ok (.getfield 7, 3) := dc_180 (a := 0) (b := 7) (by decide +kernel) rfl
theorem d_Mod_isWell_4 : decode b_Mod_isWell 4 = .ok (.iconst 0, 1) := dc_3 (by decide +kernel)
theorem d_Mod_isWell_5 : decode b_Mod_isWell 5 = .ok (.iload_n 1, 1) := dc_27 (by decide +kernel)
theorem d_Mod_isWell_6 : decode b_Mod_isWell 6 = .ok (.iadd, 1) := dc_96 (by decide +kernel)
theorem d_Mod_isWell_7 : decode b_Mod_isWell 7 = .ok (.iaload, 1) := dc_46 (by decide +kernel)
theorem d_Mod_isWell_8 : decode b_Mod_isWell 8 = .ok (.aload_n 0, 1) := dc_42 (by decide +kernel)
theorem d_Mod_isWell_9 : decode b_Mod_isWell 9 = .ok (.getfield 7, 3) := dc_180 (a := 0) (b := 7) (by decide +kernel) rfl
theorem d_Mod_isWell_12 : decode b_Mod_isWell 12 = .ok (.bipush 64, 2) := dc_16 (a := 64) (by decide +kernel) rfl
theorem d_Mod_isWell_14 : decode b_Mod_isWell 14 = .ok (.iload_n 1, 1) := dc_27 (by decide +kernel)
theorem d_Mod_isWell_15 : decode b_Mod_isWell 15 = .ok (.iadd, 1) := dc_96 (by decide +kernel)
theorem d_Mod_isWell_16 : decode b_Mod_isWell 16 = .ok (.iaload, 1) := dc_46 (by decide +kernel)
theorem d_Mod_isWell_17 : decode b_Mod_isWell 17 = .ok (.invokestatic 188, 3) := dc_184 (a := 0) (b := 188) (by decide +kernel) rfl
theorem d_Mod_isWell_20 : decode b_Mod_isWell 20 = .ok (.ireturn, 1) := dc_172 (by decide +kernel)
theorem d_Mod_feed_0 : decode b_Mod_feed 0 = .ok (.iload_n 1, 1) := dc_27 (by decide +kernel)
theorem d_Mod_feed_1 : decode b_Mod_feed 1 = .ok (.i2l, 1) := dc_133 (by decide +kernel)
theorem d_Mod_feed_2 : decode b_Mod_feed 2 = .ok (.lconst 0, 1) := dc_9 (by decide +kernel)
theorem d_Mod_feed_3 : decode b_Mod_feed 3 = .ok (.ldc2_w 93, 3) := dc_20 (a := 0) (b := 93) (by decide +kernel) rfl
theorem d_Mod_feed_6 : decode b_Mod_feed 6 = .ok (.invokestatic 95, 3) := dc_184 (a := 0) (b := 95) (by decide +kernel) rfl
theorem d_Mod_feed_9 : decode b_Mod_feed 9 = .ok (.ifCond .ne 5, 3) := dc_154 (a := 0) (b := 5) (by decide +kernel) rfl
theorem d_Mod_feed_12 : decode b_Mod_feed 12 = .ok (.iconst (-1), 1) := dc_2 (by decide +kernel)
theorem d_Mod_feed_13 : decode b_Mod_feed 13 = .ok (.ireturn, 1) := dc_172 (by decide +kernel)
theorem d_Mod_feed_14 : decode b_Mod_feed 14 = .ok (.aload_n 0, 1) := dc_42 (by decide +kernel)
theorem d_Mod_feed_15 : decode b_Mod_feed 15 = .ok (.getfield 99, 3) := dc_180 (a := 0) (b := 99) (by decide +kernel) rfl
theorem d_Mod_feed_18 : decode b_Mod_feed 18 = .ok (.sipush 160, 3) := dc_17 (a := 0) (b := 160) (by decide +kernel) rfl
theorem d_Mod_feed_21 : decode b_Mod_feed 21 = .ok (.if_icmp .ne 6, 3) := dc_160 (a := 0) (b := 6) (by decide +kernel) rfl
theorem d_Mod_feed_24 : decode b_Mod_feed 24 = .ok (.bipush (-3), 2) := dc_16 (a := 253) (by decide +kernel) rfl
theorem d_Mod_feed_26 : decode b_Mod_feed 26 = .ok (.ireturn, 1) := dc_172 (by decide +kernel)
theorem d_Mod_feed_27 : decode b_Mod_feed 27 = .ok (.aload_n 0, 1) := dc_42 (by decide +kernel)
theorem d_Mod_feed_28 : decode b_Mod_feed 28 = .ok (.getfield 23, 3) := dc_180 (a := 0) (b := 23) (by decide +kernel) rfl
theorem d_Mod_feed_31 : decode b_Mod_feed 31 = .ok (.aload_n 0, 1) := dc_42 (by decide +kernel)
theorem d_Mod_feed_32 : decode b_Mod_feed 32 = .ok (.getfield 99, 3) := dc_180 (a := 0) (b := 99) (by decide +kernel) rfl
theorem d_Mod_feed_35 : decode b_Mod_feed 35 = .ok (.iload_n 1, 1) := dc_27 (by decide +kernel)
theorem d_Mod_feed_36 : decode b_Mod_feed 36 = .ok (.iastore, 1) := dc_79 (by decide +kernel)
theorem d_Mod_feed_37 : decode b_Mod_feed 37 = .ok (.aload_n 0, 1) := dc_42 (by decide +kernel)
theorem d_Mod_feed_38 : decode b_Mod_feed 38 = .ok (.dup, 1) := dc_89 (by decide +kernel)
theorem d_Mod_feed_39 : decode b_Mod_feed 39 = .ok (.getfield 99, 3) := dc_180 (a := 0) (b := 99) (by decide +kernel) rfl
theorem d_Mod_feed_42 : decode b_Mod_feed 42 = .ok (.iconst 1, 1) := dc_4 (by decide +kernel)
theorem d_Mod_feed_43 : decode b_Mod_feed 43 = .ok (.iadd, 1) := dc_96 (by decide +kernel)
theorem d_Mod_feed_44 : decode b_Mod_feed 44 = .ok (.putfield 99, 3) := dc_181 (a := 0) (b := 99) (by decide +kernel) rfl
theorem d_Mod_feed_47 : decode b_Mod_feed 47 = .ok (.aload_n 0, 1) := dc_42 (by decide +kernel)
theorem d_Mod_feed_48 : decode b_Mod_feed 48 = .ok (.getfield 99, 3) := dc_180 (a := 0) (b := 99) (by decide +kernel) rfl
theorem d_Mod_feed_51 : decode b_Mod_feed 51 = .ok (.ireturn, 1) := dc_172 (by decide +kernel)
theorem d_Mod_end_0 : decode b_Mod_end 0 = .ok (.iload_n 1, 1) := dc_27 (by decide +kernel)
theorem d_Mod_end_1 : decode b_Mod_end 1 = .ok (.i2l, 1) := dc_133 (by decide +kernel)
theorem d_Mod_end_2 : decode b_Mod_end 2 = .ok (.lconst 0, 1) := dc_9 (by decide +kernel)
theorem d_Mod_end_3 : decode b_Mod_end 3 = .ok (.aload_n 0, 1) := dc_42 (by decide +kernel)
theorem d_Mod_end_4 : decode b_Mod_end 4 = .ok (.getfield 99, 3) := dc_180 (a := 0) (b := 99) (by decide +kernel) rfl
theorem d_Mod_end_7 : decode b_Mod_end 7 = .ok (.i2l, 1) := dc_133 (by decide +kernel)
theorem d_Mod_end_8 : decode b_Mod_end 8 = .ok (.invokestatic 95, 3) := dc_184 (a := 0) (b := 95) (by decide +kernel) rfl
theorem d_Mod_end_11 : decode b_Mod_end 11 = .ok (.ifCond .ne 5, 3) := dc_154 (a := 0) (b := 5) (by decide +kernel) rfl
theorem d_Mod_end_14 : decode b_Mod_end 14 = .ok (.iconst (-1), 1) := dc_2 (by decide +kernel)
theorem d_Mod_end_15 : decode b_Mod_end 15 = .ok (.ireturn, 1) := dc_172 (by decide +kernel)
theorem d_Mod_end_16 : decode b_Mod_end 16 = .ok (.aload_n 0, 1) := dc_42 (by decide +kernel)
theorem d_Mod_end_17 : decode b_Mod_end 17 = .ok (.getfield 99, 3) := dc_180 (a := 0) (b := 99) (by decide +kernel) rfl
theorem d_Mod_end_20 : decode b_Mod_end 20 = .ok (.istore_n 2, 1) := dc_61 (by decide +kernel)
theorem d_Mod_end_21 : decode b_Mod_end 21 = .ok (.aload_n 0, 1) := dc_42 (by decide +kernel)
theorem d_Mod_end_22 : decode b_Mod_end 22 = .ok (.iload_n 1, 1) := dc_27 (by decide +kernel)
theorem d_Mod_end_23 : decode b_Mod_end 23 = .ok (.putfield 99, 3) := dc_181 (a := 0) (b := 99) (by decide +kernel) rfl
theorem d_Mod_end_26 : decode b_Mod_end 26 = .ok (.iload_n 2, 1) := dc_28 (by decide +kernel)
theorem d_Mod_end_27 : decode b_Mod_end 27 = .ok (.ireturn, 1) := dc_172 (by decide +kernel)
def S_Mod_end : List (Nat × Option Nat) := [(116, some 15)]
abbrev q_Mod_end (h : Hp) (n : Int32) (nZ : Int) (t : Int32) (tZ : Int) : Option Value → Hp → Prop := pInt (fun r h' => Inv h' ∧ fr S_Mod_end h h' ∧ ∃ (u : Int32) (uZ : Int), u.toInt = uZ ∧ h'.1 116 15 = u ∧ (0 ≤ nZ ∧ nZ ≤ tZ ∧ uZ = nZ ∧ r.toInt = tZ ∨ (nZ < 0 ∨ tZ < nZ) ∧ uZ = tZ ∧ r.toInt = -1))
set_option maxRecDepth 100000 in
theorem c_Mod_end (h : Hp) (hI : Inv h) (n : Int32) (nZ : Int) (nE : n.toInt = nZ) (t : Int32) (tZ : Int) (tE : t.toInt = tZ) (tK : h.1 116 15 = t) : Ct y_Mod_end b_Mod_end 3 (some .int) 1 25 [.ref 116, .int n] h (q_Mod_end h n nZ t tZ) := by
  refine ct_ow R_Mod [some (.ref 116), some (.int n), none] rfl (by decide) rfl (Nat.le_of_ble_eq_true rfl) ?_
  have f0 : fr S_Mod_end h h := fr_rf
  have g1 : 0 ≤ tZ ∧ tZ ≤ 160 := inv_at hI tE tK.symm rfl
  refine V_iload_n 1 d_Mod_end_0 rfl rfl ?_
  refine V_i2l d_Mod_end_1 (fun z2 z2e z2E => ?_)
  have z2F : z2.toInt = nZ := z2E.trans nE
  refine V_lconst 0 d_Mod_end_2 (by decide) ?_
  refine V_aload_n 0 d_Mod_end_3 rfl rfl ?_
  refine N_getK fa_Mod_99 sk_116 rfl d_Mod_end_4 tK ?_
  refine V_i2l d_Mod_end_7 (fun z3 z3e z3E => ?_)
  have z3F : z3.toInt = tZ := z3E.trans tE
  refine N_callSI [.long z2, .long 0, .long z3] [] cs_Mod_95 d_Mod_end_8 rfl (Nat.le_of_ble_eq_true rfl) (by decide) (by decide) (c_Mod_in h z2 nZ z2F 0 0 tl_0 z3 tZ z3F) (fun z4 h5 z4Z z4E p6 => ?_)
  obtain ⟨eh5, p6⟩ := p6
  subst eh5
  refine V_if_ne 16 z4E d_Mod_end_11 (by decide) (fun c7 => ?_) (fun c7 => ?_)
  ·
    refine V_aload_n 0 d_Mod_end_16 rfl rfl ?_
    refine N_getK fa_Mod_99 sk_116 rfl d_Mod_end_17 tK ?_
    refine V_istore_n 2 [some (.ref 116), some (.int n), some (.int t)] d_Mod_end_20 rfl (by decide) rfl rfl ?_
    refine V_aload_n 0 d_Mod_end_21 rfl rfl ?_
    refine V_iload_n 1 d_Mod_end_22 rfl rfl ?_
    refine N_putI fp_Mod_99 sk_116 rfl d_Mod_end_23 (fun h8 eh8 => ?_)
    have hI9 : Inv h8 := inv_put (lo := 0) (hi := 160) hI eh8 rfl nE (by (first | decide +kernel | omega))
    have f10 : fr S_Mod_end h h8 := fr_put f0 eh8 rfl
    refine V_iload_n 2 d_Mod_end_26 rfl rfl ?_
    exact V_iret rfl d_Mod_end_27 ⟨t, rfl, ⟨hI9, f10, n, nZ, nE, (kn_put eh8), (by (try rw [tE]); omega)⟩⟩
  ·
    refine V_iconst (-1) d_Mod_end_14 (by decide) ?_
    exact V_iret rfl d_Mod_end_15 ⟨(-1), rfl, ⟨hI, f0, t, tZ, tE, tK, (by (try rw [show Int32.toInt (-1) = (-1) from rfl]); omega)⟩⟩
theorem d_Mod_fault_0 : decode b_Mod_fault 0 = .ok (.aload_n 0, 1) := dc_42 (by decide +kernel)
theorem d_Mod_fault_1 : decode b_Mod_fault 1 = .ok (.getfield 102, 3) := dc_180 (a := 0) (b := 102) (by decide +kernel) rfl
theorem d_Mod_fault_4 : decode b_Mod_fault 4 = .ok (.ireturn, 1) := dc_172 (by decide +kernel)
theorem d_Mod_torn_0 : decode b_Mod_torn 0 = .ok (.aload_n 0, 1) := dc_42 (by decide +kernel)
theorem d_Mod_torn_1 : decode b_Mod_torn 1 = .ok (.getfield 328, 3) := dc_180 (a := 1) (b := 72) (by decide +kernel) rfl
theorem d_Mod_torn_4 : decode b_Mod_torn 4 = .ok (.ireturn, 1) := dc_172 (by decide +kernel)
abbrev q_Mod_torn (h : Hp)  : Option Value → Hp → Prop := pInt (fun r h' => h = h')
set_option maxRecDepth 100000 in
theorem c_Mod_torn (h : Hp) (hI : Inv h) : Ct y_Mod_torn b_Mod_torn 1 (some .int) 0 0 [.ref 116] h (q_Mod_torn h ) := by
  refine ct_ow R_Mod [some (.ref 116)] rfl (by decide) rfl (Nat.le_of_ble_eq_true rfl) ?_
  have f0 : fr [] h h := fr_rf
  refine V_aload_n 0 d_Mod_torn_0 rfl rfl ?_
  refine N_getI fa_Mod_328 sk_116 rfl d_Mod_torn_1 (fun z1 z1Z z1E z1e => ?_)
  exact V_iret rfl d_Mod_torn_4 ⟨z1, rfl, rfl⟩
theorem d_Mod_rule_0 : decode b_Mod_rule 0 = .ok (.iload_n 1, 1) := dc_27 (by decide +kernel)
theorem d_Mod_rule_1 : decode b_Mod_rule 1 = .ok (.tableswitch 87 0 6 #[43, 48, 53, 58, 63, 71, 79], 43) := by decide +kernel
theorem d_Mod_rule_44 : decode b_Mod_rule 44 = .ok (.aload_n 0, 1) := dc_42 (by decide +kernel)
theorem d_Mod_rule_45 : decode b_Mod_rule 45 = .ok (.getfield 81, 3) := dc_180 (a := 0) (b := 81) (by decide +kernel) rfl
theorem d_Mod_rule_48 : decode b_Mod_rule 48 = .ok (.ireturn, 1) := dc_172 (by decide +kernel)
theorem d_Mod_rule_49 : decode b_Mod_rule 49 = .ok (.aload_n 0, 1) := dc_42 (by decide +kernel)
theorem d_Mod_rule_50 : decode b_Mod_rule 50 = .ok (.getfield 84, 3) := dc_180 (a := 0) (b := 84) (by decide +kernel) rfl
theorem d_Mod_rule_53 : decode b_Mod_rule 53 = .ok (.ireturn, 1) := dc_172 (by decide +kernel)
theorem d_Mod_rule_54 : decode b_Mod_rule 54 = .ok (.aload_n 0, 1) := dc_42 (by decide +kernel)
theorem d_Mod_rule_55 : decode b_Mod_rule 55 = .ok (.getfield 87, 3) := dc_180 (a := 0) (b := 87) (by decide +kernel) rfl
theorem d_Mod_rule_58 : decode b_Mod_rule 58 = .ok (.ireturn, 1) := dc_172 (by decide +kernel)
theorem d_Mod_rule_59 : decode b_Mod_rule 59 = .ok (.aload_n 0, 1) := dc_42 (by decide +kernel)
theorem d_Mod_rule_60 : decode b_Mod_rule 60 = .ok (.getfield 90, 3) := dc_180 (a := 0) (b := 90) (by decide +kernel) rfl
theorem d_Mod_rule_63 : decode b_Mod_rule 63 = .ok (.ireturn, 1) := dc_172 (by decide +kernel)
theorem d_Mod_rule_64 : decode b_Mod_rule 64 = .ok (.aload_n 0, 1) := dc_42 (by decide +kernel)
theorem d_Mod_rule_65 : decode b_Mod_rule 65 = .ok (.getfield 7, 3) := dc_180 (a := 0) (b := 7) (by decide +kernel) rfl
theorem d_Mod_rule_68 : decode b_Mod_rule 68 = .ok (.bipush 84, 2) := dc_16 (a := 84) (by decide +kernel) rfl
theorem d_Mod_rule_70 : decode b_Mod_rule 70 = .ok (.iaload, 1) := dc_46 (by decide +kernel)
theorem d_Mod_rule_71 : decode b_Mod_rule 71 = .ok (.ireturn, 1) := dc_172 (by decide +kernel)
theorem d_Mod_rule_72 : decode b_Mod_rule 72 = .ok (.aload_n 0, 1) := dc_42 (by decide +kernel)
theorem d_Mod_rule_73 : decode b_Mod_rule 73 = .ok (.getfield 7, 3) := dc_180 (a := 0) (b := 7) (by decide +kernel) rfl
theorem d_Mod_rule_76 : decode b_Mod_rule 76 = .ok (.bipush 85, 2) := dc_16 (a := 85) (by decide +kernel) rfl
theorem d_Mod_rule_78 : decode b_Mod_rule 78 = .ok (.iaload, 1) := dc_46 (by decide +kernel)
theorem d_Mod_rule_79 : decode b_Mod_rule 79 = .ok (.ireturn, 1) := dc_172 (by decide +kernel)
theorem d_Mod_rule_80 : decode b_Mod_rule 80 = .ok (.aload_n 0, 1) := dc_42 (by decide +kernel)
theorem d_Mod_rule_81 : decode b_Mod_rule 81 = .ok (.getfield 7, 3) := dc_180 (a := 0) (b := 7) (by decide +kernel) rfl
theorem d_Mod_rule_84 : decode b_Mod_rule 84 = .ok (.bipush 86, 2) := dc_16 (a := 86) (by decide +kernel) rfl
theorem d_Mod_rule_86 : decode b_Mod_rule 86 = .ok (.iaload, 1) := dc_46 (by decide +kernel)
theorem d_Mod_rule_87 : decode b_Mod_rule 87 = .ok (.ireturn, 1) := dc_172 (by decide +kernel)
theorem d_Mod_rule_88 : decode b_Mod_rule 88 = .ok (.iconst (-1), 1) := dc_2 (by decide +kernel)
theorem d_Mod_rule_89 : decode b_Mod_rule 89 = .ok (.ireturn, 1) := dc_172 (by decide +kernel)
theorem d_Mod_purse_0 : decode b_Mod_purse 0 = .ok (.iload_n 1, 1) := dc_27 (by decide +kernel)
theorem d_Mod_purse_1 : decode b_Mod_purse 1 = .ok (.invokestatic 205, 3) := dc_184 (a := 0) (b := 205) (by decide +kernel) rfl
theorem d_Mod_purse_4 : decode b_Mod_purse 4 = .ok (.ifCond .eq 15, 3) := dc_153 (a := 0) (b := 15) (by decide +kernel) rfl
theorem d_Mod_purse_7 : decode b_Mod_purse 7 = .ok (.aload_n 0, 1) := dc_42 (by decide +kernel)
theorem d_Mod_purse_8 : decode b_Mod_purse 8 = .ok (.getfield 7, 3) := dc_180 (a := 0) (b := 7) (by decide +kernel) rfl
theorem d_Mod_purse_11 : decode b_Mod_purse 11 = .ok (.bipush 80, 2) := dc_16 (a := 80) (by decide +kernel) rfl
theorem d_Mod_purse_13 : decode b_Mod_purse 13 = .ok (.iload_n 1, 1) := dc_27 (by decide +kernel)
theorem d_Mod_purse_14 : decode b_Mod_purse 14 = .ok (.iadd, 1) := dc_96 (by decide +kernel)
theorem d_Mod_purse_15 : decode b_Mod_purse 15 = .ok (.iaload, 1) := dc_46 (by decide +kernel)
theorem d_Mod_purse_16 : decode b_Mod_purse 16 = .ok (.goto 4, 3) := dc_167 (a := 0) (b := 4) (by decide +kernel) rfl
theorem d_Mod_purse_19 : decode b_Mod_purse 19 = .ok (.iconst (-1), 1) := dc_2 (by decide +kernel)
theorem d_Mod_purse_20 : decode b_Mod_purse 20 = .ok (.ireturn, 1) := dc_172 (by decide +kernel)
end
