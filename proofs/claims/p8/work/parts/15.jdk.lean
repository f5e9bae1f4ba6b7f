section VJ
variable {own : String} {cc : ByteArray} {nL : Nat} {ret : Option FieldType} {F L : Nat} {post : Option Value → Hp → Prop} {h : Hp} {pc : Nat} {ls : Pl} {st : List Value}
theorem V_gets {Cn nm de : String} {idx : Nat} {v : Value} (hz : ∀ (X : Xc) (A : Nat → Prop) (U : State) (H : Heap), Ro X A U H → va_Z Cn nm de (rv X.2.1 v) A U H) (hl : Cond.fieldLink own idx Cn nm de ∈ vv_G) (d : decode cc pc = .ok (.getstatic idx, 3)) (kk : V own cc nL ret F L post h (pc + 3) ls (v :: st)) : V own cc nL ret F L post h pc ls st := fun p l e s m args below meth c X A H locs lsA C hP hS hl' =>
  va_gets C.1 C.2.1 (hz X A s s.heap C.2.2.2.2.2.2.2.2.2.2) hS C.2.2.2.1 (C.2.2.2.2.1 _ hl) (fun _ q => q) d (kk p l e s m args below meth c X A H locs lsA C hP hS hl')
theorem V_getsF {idx : Nat} (hl : Cond.fieldLink own idx "jdk/internal/util/Preconditions" "SIOOBE_FORMATTER" "Ljava/util/function/BiFunction;" ∈ vv_G) (d : decode cc pc = .ok (.getstatic idx, 3)) (k1 : V own cc nL ret F L post h (pc + 3) ls (.null :: st)) (k2 : V own cc nL ret F L post h (pc + 3) ls (.ref 163 :: st)) : V own cc nL ret F L post h pc ls st := fun p l e s m args below meth c X A H locs lsA C hP hS hl' => by
  rcases C.2.2.2.2.2.2.2.2.2.2.2.2.2.2.1 with q | q
  · exact va_gets C.1 C.2.1 q hS C.2.2.2.1 (C.2.2.2.2.1 _ hl) (fun _ q => q) d (k1 p l e s m args below meth c X A H locs lsA C hP hS hl')
  · exact va_gets C.1 C.2.1 q hS C.2.2.2.1 (C.2.2.2.2.1 _ hl) (fun _ q => q) d (k2 p l e s m args below meth c X A H locs lsA C hP hS hl')
theorem V_tald {k : Nat} {l0 : List Int32} {nm : String} {i : Int32} {I : Int} (hz : ∀ (X : Xc) (A : Nat → Prop) (U : State) (H : Heap), Ro X A U H → vv_ro X A U H nm k l0) (ha : i.toInt = I) (hin : 0 ≤ I ∧ I < (l0.length : Int)) (d : decode cc pc = .ok (.iaload, 1)) (kk : ∀ (z : Int32) (Z : Int), z.toInt = Z → z = l0.getD I.toNat 0 → V own cc nL ret F L post h (pc + 1) ls (.int z :: st)) : V own cc nL ret F L post h pc ls (.int i :: .ref k :: st) := fun p l e s m args below meth c X A H locs lsA C hP hS hl' =>
  va_ti C.1 C.2.1 (hz X A s s.heap C.2.2.2.2.2.2.2.2.2.2).2 hS (vp_in_of_ti ha hin) (v := .int (l0.getD I.toNat 0)) (by rw [ti_cl, ha]) d (kk _ _ rfl rfl p l e s m args below meth c X A H locs lsA C hP hS hl')
theorem V_ldcS {idx i : Nat} (hi : i < 14) (ho : own = R_Reader) (hx : vv_txI.getD i 0 = idx) (d : decode cc pc = .ok (.ldc idx, 2)) (kk : V own cc nL ret F L post h (pc + 2) ls (.ref (135 + i) :: st)) : V own cc nL ret F L post h pc ls st := fun p l e s m args below meth c X A H locs lsA C hP hS hl' => by
  subst ho
  subst hx
  exact va_ldcS C.1 C.2.1 C.2.2.2.1 (C.2.2.2.2.2.2.2.2.2.2.2.2.2.2.2.2.1 i hi) d (kk p l e s m args below meth c X A H locs lsA C hP hS hl')
theorem V_sgetC {idx i : Nat} (hi : i < 14) (hl : Cond.fieldLink own idx "java/lang/String" "coder" "B" ∈ vv_G) (d : decode cc pc = .ok (.getfield idx, 3)) (kk : V own cc nL ret F L post h (pc + 3) ls (.int 0 :: st)) : V own cc nL ret F L post h pc ls (.ref (135 + i) :: st) := fun p l e s m args below meth c X A H locs lsA C hP hS hl' =>
  vk_getf C.1 C.2.1 ((C.2.2.2.2.2.2.2.2.2.2.2.2.2.2.2.1).1 i hi).2.1 hS C.2.2.2.1 (C.2.2.2.2.1 _ hl) (fun _ q => q) d (kk p l e s m args below meth c X A H locs lsA C hP hS hl')
theorem V_sgetV {idx i : Nat} (hi : i < 14) (hl : Cond.fieldLink own idx "java/lang/String" "value" "[B" ∈ vv_G) (d : decode cc pc = .ok (.getfield idx, 3)) (kk : V own cc nL ret F L post h (pc + 3) ls (.ref (149 + i) :: st)) : V own cc nL ret F L post h pc ls (.ref (135 + i) :: st) := fun p l e s m args below meth c X A H locs lsA C hP hS hl' =>
  vk_getf C.1 C.2.1 ((C.2.2.2.2.2.2.2.2.2.2.2.2.2.2.2.1).1 i hi).2.2.1 hS C.2.2.2.1 (C.2.2.2.2.1 _ hl) (fun _ q => q) d (kk p l e s m args below meth c X A H locs lsA C hP hS hl')
theorem V_slen {i : Nat} (hi : i < 14) (d : decode cc pc = .ok (.arraylength, 1)) (kk : V own cc nL ret F L post h (pc + 1) ls (.int (Int32.ofNat (vv_txL.getD i 0)) :: st)) : V own cc nL ret F L post h pc ls (.ref (149 + i) :: st) := fun p l e s m args below meth c X A H locs lsA C hP hS hl' =>
  va_tlen C.1 C.2.1 ((C.2.2.2.2.2.2.2.2.2.2.2.2.2.2.2.1).1 i hi).2.2.2 hS rfl d (kk p l e s m args below meth c X A H locs lsA C hP hS hl')
theorem V_sbald {i : Nat} (hi : i < 14) {j : Int32} {J : Int} (ha : j.toInt = J) (hin : 0 ≤ J ∧ J < (vv_txL.getD i 0 : Nat)) (d : decode cc pc = .ok (.baload, 1)) (kk : V own cc nL ret F L post h (pc + 1) ls (.int ((vv_txB.getD i []).getD J.toNat 0) :: st)) : V own cc nL ret F L post h pc ls (.int j :: .ref (149 + i) :: st) := fun p l e s m args below meth c X A H locs lsA C hP hS hl' =>
  va_tb C.1 C.2.1 ((C.2.2.2.2.2.2.2.2.2.2.2.2.2.2.2.1).1 i hi).2.2.2 hS (vp_in_of_ti ha hin) (v := .int ((vv_txB.getD i []).getD J.toNat 0)) (by rw [ti_cl, ha]) d (kk p l e s m args below meth c X A H locs lsA C hP hS hl')
theorem V_i2c {x : Int32} (d : decode cc pc = .ok (.i2c, 1)) (k : ∀ z : Int32, z = (x.toUInt32 % 65536).toInt32 → V own cc nL ret F L post h (pc + 1) ls (.int z :: st)) : V own cc nL ret F L post h pc ls (.int x :: st) := fun p l e s m args below meth c X A H locs lsA C hP hS hl => lv_i2c C.1 C.2.1 d rfl (k _ rfl p l e s m args below meth c X A H locs lsA C hP hS hl)
theorem V_callVS {y : MethodName} {cc' : ByteArray} {nL' : Nat} {ret' : Option FieldType} {F' L' idx i : Nat} {post' : Option Value → Hp → Prop} (As rest : List Value) (cv : CV own idx y cc' nL' ret' As.length) (hi : i < 14) (hcl : "java/lang/String" = y.cls) (d : decode cc pc = .ok (.invokevirtual idx, 3)) (hst : st = As.reverse ++ .ref (135 + i) :: rest) (hrm : (rest.map fun v => v.category).sum ≤ 8) (hF : F' + 1 ≤ F) (hL : 8 + (nL' + 11) + L' ≤ L)
    (ct : Ct y cc' nL' ret' F' L' (.ref (135 + i) :: As) h post') (kk : ∀ (r : Option Value) (h' : Hp), post' r h' → V own cc nL ret F L post h' (pc + 3) ls (r.toList ++ rest)) : V own cc nL ret F L post h pc ls st := fun p l e s m args below meth c X A H locs lsA C hP hS hl => by
  obtain ⟨⟨q1, q2, q3⟩, q4, q5, q6⟩ := cv
  have hts := C.2.2.2.2.1
  obtain ⟨b1, b2⟩ := vv_pre C hP hS (.ref (135 + i) :: As)
  have hrecv := vk_recv (C.2.2.2.2.2.2.2.2.2.2.2.2.2.2.2.1) hi hS
  rw [hcl] at hrecv
  refine vv_after (rest := rest) (va_runV (Ts := vv_G) (As := As.map (rv X.2.1)) (b := X.2.1 (135 + i)) (C := y.cls) (n := As.length) ⟨C.1, C.2.1, C.2.2.1, C.2.2.2.1, hts⟩ (ct l X H.size) ⟨callB_of As.length hts (vv_good q1) rfl rfl rfl (hts _ q3) (hts _ q6) q2 ⟨hF, hL⟩, hts _ q4, hts _ q5⟩ ⟨b1, hrecv, b2⟩ rfl (List.length_map _) hl.1 ?_ (lv_room (vv_room _ hrm)) d ⟨Nat.le_refl _, Nat.le_refl _⟩) C hS hl kk
  rw [hst]
  simp [rv]
theorem N_callVSI {y : MethodName} {cc' : ByteArray} {nL' : Nat} {ret' : Option FieldType} {F' L' idx i : Nat} {P : Int32 → Hp → Prop} (As rest : List Value) (cv : CV own idx y cc' nL' ret' As.length) (hi : i < 14) (hcl : "java/lang/String" = y.cls) (d : decode cc pc = .ok (.invokevirtual idx, 3)) (hst : st = As.reverse ++ .ref (135 + i) :: rest) (hrm : (rest.map fun v => v.category).sum ≤ 8) (hF : F' + 1 ≤ F) (hL : 8 + (nL' + 11) + L' ≤ L)
    (ct : Ct y cc' nL' ret' F' L' (.ref (135 + i) :: As) h (pInt P)) (kk : ∀ (x : Int32) (h' : Hp) (X : Int), x.toInt = X → P x h' → V own cc nL ret F L post h' (pc + 3) ls (.int x :: rest)) : V own cc nL ret F L post h pc ls st := V_callVS As rest cv hi hcl d hst hrm hF hL ct (fun r h' hp => by obtain ⟨x, rfl, hx⟩ := hp; exact kk x h' _ rfl hx)
end VJ
def R_Str : String := "java/lang/String"
def R_Lat : String := "java/lang/StringLatin1"
def R_Pre : String := "jdk/internal/util/Preconditions"
def R_Arr : String := "java/util/Arrays"
def R_Int : String := "java/lang/Integer"
abbrev b_Arr_fill : ByteArray := prog_20_method_103_code
def y_Arr_fill : MethodName := ⟨R_Arr, "fill", "([II)V"⟩
abbrev b_Int_bitCount : ByteArray := prog_14_method_49_code
def y_Int_bitCount : MethodName := ⟨R_Int, "bitCount", "(I)I"⟩
abbrev b_Str_length : ByteArray := prog_16_method_54_code
def y_Str_length : MethodName := ⟨R_Str, "length", "()I"⟩
abbrev b_Str_coder : ByteArray := prog_16_method_152_code
def y_Str_coder : MethodName := ⟨R_Str, "coder", "()B"⟩
abbrev b_Str_charAt : ByteArray := prog_16_method_56_code
def y_Str_charAt : MethodName := ⟨R_Str, "charAt", "(I)C"⟩
abbrev b_Str_isLatin1 : ByteArray := prog_16_method_154_code
def y_Str_isLatin1 : MethodName := ⟨R_Str, "isLatin1", "()Z"⟩
abbrev b_Lat_charAt : ByteArray := prog_17_method_2_code
def y_Lat_charAt : MethodName := ⟨R_Lat, "charAt", "([BI)C"⟩
abbrev b_Str_checkIndex : ByteArray := prog_16_method_155_code
def y_Str_checkIndex : MethodName := ⟨R_Str, "checkIndex", "(II)V"⟩
abbrev b_Pre_checkIndex : ByteArray := prog_21_method_11_code
def y_Pre_checkIndex : MethodName := ⟨R_Pre, "checkIndex", "(IILjava/util/function/BiFunction;)I"⟩
theorem roN : ∀ (X : Xc) (A : Nat → Prop) (U : State) (H : Heap), Ro X A U H → vv_ro X A U H "NUMBERS" 132 vv_numL := fun _ _ _ _ h => h.1
theorem roL : ∀ (X : Xc) (A : Nat → Prop) (U : State) (H : Heap), Ro X A U H → vv_ro X A U H "LEAST" 133 vv_leastL := fun _ _ _ _ h => h.2.1
theorem roM : ∀ (X : Xc) (A : Nat → Prop) (U : State) (H : Heap), Ro X A U H → vv_ro X A U H "MOST" 134 vv_mostL := fun _ _ _ _ h => h.2.2.1
theorem zN : ∀ (X : Xc) (A : Nat → Prop) (U : State) (H : Heap), Ro X A U H → va_Z R_Reader "NUMBERS" "[I" (rv X.2.1 (.ref 132)) A U H := fun _ _ _ _ h => h.1.1
theorem zL : ∀ (X : Xc) (A : Nat → Prop) (U : State) (H : Heap), Ro X A U H → va_Z R_Reader "LEAST" "[I" (rv X.2.1 (.ref 133)) A U H := fun _ _ _ _ h => h.2.1.1
theorem zM : ∀ (X : Xc) (A : Nat → Prop) (U : State) (H : Heap), Ro X A U H → va_Z R_Reader "MOST" "[I" (rv X.2.1 (.ref 134)) A U H := fun _ _ _ _ h => h.2.2.1.1
theorem zC : ∀ (X : Xc) (A : Nat → Prop) (U : State) (H : Heap), Ro X A U H → va_Z "java/lang/String" "COMPACT_STRINGS" "Z" (rv X.2.1 (.int 1)) A U H := fun _ _ _ _ h => h.2.2.2.1
theorem wS38 : Cond.fieldLink R_Str 38 "java/lang/String" "COMPACT_STRINGS" "Z" ∈ vv_G := vv_Gin (List.mem_append_right _ (List.mem_append_right _ (List.mem_append_left _ (List.mem_of_getElem? (i := 228) (by decide +kernel))))) (by decide +kernel)
theorem wS15 : Cond.fieldLink R_Str 15 "java/lang/String" "coder" "B" ∈ vv_G := vv_Gin (List.mem_append_right _ (List.mem_append_right _ (List.mem_append_right _ (List.mem_append_right _ (List.mem_append_right _ (List.mem_append_right _ (List.mem_of_getElem? (i := 203) (by decide +kernel)))))))) (by decide +kernel)
theorem wS9 : Cond.fieldLink R_Str 9 "java/lang/String" "value" "[B" ∈ vv_G := vv_Gin (List.mem_append_right _ (List.mem_append_right _ (List.mem_append_right _ (List.mem_append_right _ (List.mem_append_right _ (List.mem_append_right _ (List.mem_of_getElem? (i := 202) (by decide +kernel)))))))) (by decide +kernel)
theorem wS1053 : Cond.fieldLink R_Str 1053 "jdk/internal/util/Preconditions" "SIOOBE_FORMATTER" "Ljava/util/function/BiFunction;" ∈ vv_G := vv_Gin (List.mem_append_right _ (List.mem_append_right _ (List.mem_append_right _ (List.mem_append_left _ (List.mem_of_getElem? (i := 4) (by decide +kernel)))))) (by decide +kernel)
theorem cv_Str_335 : CV R_Str 335 y_Str_coder b_Str_coder 1 (some .byte) 0 := ⟨⟨vv_Gin (List.mem_append_right _ (List.mem_append_right _ (List.mem_append_left _ (List.mem_of_getElem? (i := 227) (by decide +kernel))))) (by decide +kernel), by decide +kernel, vv_Gin (List.mem_append_right _ (List.mem_append_left _ (List.mem_of_getElem? (i := 14) (by decide +kernel)))) (by decide +kernel)⟩, vv_Gin (List.mem_append_right _ (List.mem_append_right _ (List.mem_append_left _ (List.mem_of_getElem? (i := 225) (by decide +kernel))))) (by decide +kernel), vv_Gin (List.mem_append_right _ (List.mem_append_right _ (List.mem_append_left _ (List.mem_of_getElem? (i := 226) (by decide +kernel))))) (by decide +kernel), vv_Gin (List.mem_append_right _ (List.mem_append_right _ (List.mem_append_left _ (List.mem_of_getElem? (i := 224) (by decide +kernel))))) (by decide +kernel)⟩
theorem cv_Str_492 : CV R_Str 492 y_Str_isLatin1 b_Str_isLatin1 1 (some .boolean) 0 := ⟨⟨vv_Gin (List.mem_append_right _ (List.mem_append_right _ (List.mem_append_left _ (List.mem_of_getElem? (i := 237) (by decide +kernel))))) (by decide +kernel), by decide +kernel, vv_Gin (List.mem_append_right _ (List.mem_append_left _ (List.mem_of_getElem? (i := 14) (by decide +kernel)))) (by decide +kernel)⟩, vv_Gin (List.mem_append_right _ (List.mem_append_right _ (List.mem_append_left _ (List.mem_of_getElem? (i := 235) (by decide +kernel))))) (by decide +kernel), vv_Gin (List.mem_append_right _ (List.mem_append_right _ (List.mem_append_left _ (List.mem_of_getElem? (i := 236) (by decide +kernel))))) (by decide +kernel), vv_Gin (List.mem_append_right _ (List.mem_append_right _ (List.mem_append_left _ (List.mem_of_getElem? (i := 234) (by decide +kernel))))) (by decide +kernel)⟩
theorem cs_Str_495 : CS R_Str 495 y_Lat_charAt b_Lat_charAt 2 (some .char) 2 := ⟨⟨vv_Gin (List.mem_append_right _ (List.mem_append_right _ (List.mem_append_right _ (List.mem_append_left _ (List.mem_of_getElem? (i := 0) (by decide +kernel)))))) (by decide +kernel), by decide +kernel, vv_Gin (List.mem_append_right _ (List.mem_append_left _ (List.mem_of_getElem? (i := 15) (by decide +kernel)))) (by decide +kernel)⟩, vv_Gin (List.mem_append_right _ (List.mem_append_right _ (List.mem_append_left _ (List.mem_of_getElem? (i := 239) (by decide +kernel))))) (by decide +kernel), Or.inl (vv_Gin (List.mem_append_right _ (List.mem_append_right _ (List.mem_append_left _ (List.mem_of_getElem? (i := 238) (by decide +kernel))))) (by decide +kernel))⟩
theorem cs_Lat_9 : CS R_Lat 9 y_Str_checkIndex b_Str_checkIndex 2 none 2 := ⟨⟨vv_Gin (List.mem_append_right _ (List.mem_append_right _ (List.mem_append_right _ (List.mem_append_left _ (List.mem_of_getElem? (i := 3) (by decide +kernel)))))) (by decide +kernel), by decide +kernel, vv_Gin (List.mem_append_right _ (List.mem_append_left _ (List.mem_of_getElem? (i := 14) (by decide +kernel)))) (by decide +kernel)⟩, vv_Gin (List.mem_append_right _ (List.mem_append_right _ (List.mem_append_right _ (List.mem_append_left _ (List.mem_of_getElem? (i := 2) (by decide +kernel)))))) (by decide +kernel), Or.inl (vv_Gin (List.mem_append_right _ (List.mem_append_right _ (List.mem_append_right _ (List.mem_append_left _ (List.mem_of_getElem? (i := 1) (by decide +kernel)))))) (by decide +kernel))⟩
theorem cs_Str_1059 : CS R_Str 1059 y_Pre_checkIndex b_Pre_checkIndex 3 (some .int) 3 := ⟨⟨vv_Gin (List.mem_append_right _ (List.mem_append_right _ (List.mem_append_right _ (List.mem_append_left _ (List.mem_of_getElem? (i := 8) (by decide +kernel)))))) (by decide +kernel), by decide +kernel, vv_Gin (List.mem_append_right _ (List.mem_append_left _ (List.mem_of_getElem? (i := 16) (by decide +kernel)))) (by decide +kernel)⟩, vv_Gin (List.mem_append_right _ (List.mem_append_right _ (List.mem_append_right _ (List.mem_append_left _ (List.mem_of_getElem? (i := 7) (by decide +kernel)))))) (by decide +kernel), Or.inl (vv_Gin (List.mem_append_right _ (List.mem_append_right _ (List.mem_append_right _ (List.mem_append_left _ (List.mem_of_getElem? (i := 6) (by decide +kernel)))))) (by decide +kernel))⟩
theorem d_sc0 : decode b_Str_coder 0 = .ok (.getstatic 38, 3) := dc_178 (a := 0) (b := 38) (by decide +kernel) rfl
theorem d_sc3 : decode b_Str_coder 3 = .ok (.ifCond .eq 10, 3) := dc_153 (a := 0) (b := 10) (by decide +kernel) rfl
theorem d_sc6 : decode b_Str_coder 6 = .ok (.aload_n 0, 1) := dc_42 (by decide +kernel)
theorem d_sc7 : decode b_Str_coder 7 = .ok (.getfield 15, 3) := dc_180 (a := 0) (b := 15) (by decide +kernel) rfl
theorem d_sc10 : decode b_Str_coder 10 = .ok (.goto 4, 3) := dc_167 (a := 0) (b := 4) (by decide +kernel) rfl
theorem d_sc14 : decode b_Str_coder 14 = .ok (.ireturn, 1) := dc_172 (by decide +kernel)
theorem c_Str_coder (h : Hp) (i : Nat) (hi : i < 14) : Ct y_Str_coder b_Str_coder 1 (some .byte) 0 0 [.ref (135 + i)] h (pInt (fun r h' => h = h' ∧ r = 0)) := by
  refine ct_ow R_Str [some (.ref (135 + i))] rfl (by decide) rfl (Nat.le_of_ble_eq_true rfl) ?_
  refine V_gets (v := .int 1) zC wS38 d_sc0 ?_
  refine V_if_eq 13 (show Int32.toInt 1 = 1 from rfl) d_sc3 (by decide) (fun c => absurd c (by decide)) (fun _ => ?_)
  refine V_aload_n 0 d_sc6 rfl rfl ?_
  refine V_sgetC hi wS15 d_sc7 ?_
  refine V_goto 14 d_sc10 (by decide) ?_
  exact V_nret rfl rfl d_sc14 ⟨0, rfl, rfl, rfl⟩
theorem d_sl0 : decode b_Str_isLatin1 0 = .ok (.getstatic 38, 3) := dc_178 (a := 0) (b := 38) (by decide +kernel) rfl
theorem d_sl3 : decode b_Str_isLatin1 3 = .ok (.ifCond .eq 14, 3) := dc_153 (a := 0) (b := 14) (by decide +kernel) rfl
theorem d_sl6 : decode b_Str_isLatin1 6 = .ok (.aload_n 0, 1) := dc_42 (by decide +kernel)
theorem d_sl7 : decode b_Str_isLatin1 7 = .ok (.getfield 15, 3) := dc_180 (a := 0) (b := 15) (by decide +kernel) rfl
theorem d_sl10 : decode b_Str_isLatin1 10 = .ok (.ifCond .ne 7, 3) := dc_154 (a := 0) (b := 7) (by decide +kernel) rfl
theorem d_sl13 : decode b_Str_isLatin1 13 = .ok (.iconst 1, 1) := dc_4 (by decide +kernel)
theorem d_sl14 : decode b_Str_isLatin1 14 = .ok (.goto 4, 3) := dc_167 (a := 0) (b := 4) (by decide +kernel) rfl
theorem d_sl18 : decode b_Str_isLatin1 18 = .ok (.ireturn, 1) := dc_172 (by decide +kernel)
theorem c_Str_isLatin1 (h : Hp) (i : Nat) (hi : i < 14) : Ct y_Str_isLatin1 b_Str_isLatin1 1 (some .boolean) 0 0 [.ref (135 + i)] h (pInt (fun r h' => h = h' ∧ r = 1)) := by
  refine ct_ow R_Str [some (.ref (135 + i))] rfl (by decide) rfl (Nat.le_of_ble_eq_true rfl) ?_
  refine V_gets (v := .int 1) zC wS38 d_sl0 ?_
  refine V_if_eq 17 (show Int32.toInt 1 = 1 from rfl) d_sl3 (by decide) (fun c => absurd c (by decide)) (fun _ => ?_)
  refine V_aload_n 0 d_sl6 rfl rfl ?_
  refine V_sgetC hi wS15 d_sl7 ?_
  refine V_if_ne 17 ti_0 d_sl10 (by decide) (fun c => absurd rfl c) (fun _ => ?_)
  refine V_iconst 1 d_sl13 (by decide) ?_
  refine V_goto 18 d_sl14 (by decide) ?_
  exact V_zret rfl (by decide) d_sl18 ⟨1, rfl, rfl, rfl⟩
theorem d_se0 : decode b_Str_length 0 = .ok (.aload_n 0, 1) := dc_42 (by decide +kernel)
theorem d_se1 : decode b_Str_length 1 = .ok (.getfield 9, 3) := dc_180 (a := 0) (b := 9) (by decide +kernel) rfl
theorem d_se4 : decode b_Str_length 4 = .ok (.arraylength, 1) := dc_190 (by decide +kernel)
theorem d_se5 : decode b_Str_length 5 = .ok (.aload_n 0, 1) := dc_42 (by decide +kernel)
theorem d_se6 : decode b_Str_length 6 = .ok (.invokevirtual 335, 3) := dc_182 (a := 1) (b := 79) (by decide +kernel) rfl
theorem d_se9 : decode b_Str_length 9 = .ok (.ishr, 1) := dc_122 (by decide +kernel)
theorem d_se10 : decode b_Str_length 10 = .ok (.ireturn, 1) := dc_172 (by decide +kernel)
theorem txL_sh : ∀ i, i < 14 → (Int32.ofNat (vv_txL.getD i 0) >>> ((0 : Int32) &&& 31)).toInt = (vv_txL.getD i 0 : Nat) := by decide +kernel
theorem txL_b : ∀ i, i < 14 → 3 ≤ vv_txL.getD i 0 ∧ vv_txL.getD i 0 ≤ 6 := by decide +kernel
theorem c_Str_length (h : Hp) (i : Nat) (hi : i < 14) : Ct y_Str_length b_Str_length 1 (some .int) 1 20 [.ref (135 + i)] h (pInt (fun r h' => h = h' ∧ r.toInt = (vv_txL.getD i 0 : Nat))) := by
  refine ct_ow R_Str [some (.ref (135 + i))] rfl (by decide) rfl (Nat.le_of_ble_eq_true rfl) ?_
  refine V_aload_n 0 d_se0 rfl rfl ?_
  refine V_sgetV hi wS9 d_se1 ?_
  refine V_slen hi d_se4 ?_
  refine V_aload_n 0 d_se5 rfl rfl ?_
  refine N_callVSI [] [.int (Int32.ofNat (vv_txL.getD i 0))] cv_Str_335 hi rfl d_se6 rfl (Nat.le_of_ble_eq_true rfl) (by decide) (by decide) (c_Str_coder h i hi) (fun x h' X hX hp => ?_)
  obtain ⟨e, rfl⟩ := hp
  subst e
  refine N_ishr d_se9 (fun z Z hz e => ?_)
  exact V_iret rfl d_se10 ⟨z, rfl, rfl, by rw [e]; exact txL_sh i hi⟩
theorem d_pc0 : decode b_Pre_checkIndex 0 = .ok (.iload_n 0, 1) := dc_26 (by decide +kernel)
theorem d_pc1 : decode b_Pre_checkIndex 1 = .ok (.ifCond .lt 8, 3) := dc_155 (a := 0) (b := 8) (by decide +kernel) rfl
theorem d_pc4 : decode b_Pre_checkIndex 4 = .ok (.iload_n 0, 1) := dc_26 (by decide +kernel)
theorem d_pc5 : decode b_Pre_checkIndex 5 = .ok (.iload_n 1, 1) := dc_27 (by decide +kernel)
theorem d_pc6 : decode b_Pre_checkIndex 6 = .ok (.if_icmp .lt 10, 3) := dc_161 (a := 0) (b := 10) (by decide +kernel) rfl
theorem d_pc16 : decode b_Pre_checkIndex 16 = .ok (.iload_n 0, 1) := dc_26 (by decide +kernel)
theorem d_pc17 : decode b_Pre_checkIndex 17 = .ok (.ireturn, 1) := dc_172 (by decide +kernel)
theorem c_Pre_checkIndex0 (h : Hp) (a b : Int32) (A B : Int) (ha : a.toInt = A) (hb : b.toInt = B) (hr : 0 ≤ A ∧ A < B) : Ct y_Pre_checkIndex b_Pre_checkIndex 3 (some .int) 0 0 [.int a, .int b, .null] h (pInt (fun r h' => h = h')) := by
  refine ct_ow R_Pre [some (.int a), some (.int b), some .null] rfl (by decide) rfl (Nat.le_of_ble_eq_true rfl) ?_
  refine V_iload_n 0 d_pc0 rfl rfl ?_
  refine V_if_lt 9 ha d_pc1 (by decide) (fun c => absurd c (by (first | decide +kernel | omega))) (fun _ => ?_)
  refine V_iload_n 0 d_pc4 rfl rfl ?_
  refine V_iload_n 1 d_pc5 rfl rfl ?_
  refine V_icmp_lt 16 ha hb d_pc6 (by decide) (fun _ => ?_) (fun c => absurd c (by (first | decide +kernel | omega)))
  refine V_iload_n 0 d_pc16 rfl rfl ?_
  exact V_iret rfl d_pc17 ⟨a, rfl, rfl⟩
theorem c_Pre_checkIndex1 (h : Hp) (a b : Int32) (A B : Int) (ha : a.toInt = A) (hb : b.toInt = B) (hr : 0 ≤ A ∧ A < B) : Ct y_Pre_checkIndex b_Pre_checkIndex 3 (some .int) 0 0 [.int a, .int b, .ref 163] h (pInt (fun r h' => h = h')) := by
  refine ct_ow R_Pre [some (.int a), some (.int b), some (.ref 163)] rfl (by decide) rfl (Nat.le_of_ble_eq_true rfl) ?_
  refine V_iload_n 0 d_pc0 rfl rfl ?_
  refine V_if_lt 9 ha d_pc1 (by decide) (fun c => absurd c (by (first | decide +kernel | omega))) (fun _ => ?_)
  refine V_iload_n 0 d_pc4 rfl rfl ?_
  refine V_iload_n 1 d_pc5 rfl rfl ?_
  refine V_icmp_lt 16 ha hb d_pc6 (by decide) (fun _ => ?_) (fun c => absurd c (by (first | decide +kernel | omega)))
  refine V_iload_n 0 d_pc16 rfl rfl ?_
  exact V_iret rfl d_pc17 ⟨a, rfl, rfl⟩
theorem d_si0 : decode b_Str_checkIndex 0 = .ok (.iload_n 0, 1) := dc_26 (by decide +kernel)
theorem d_si1 : decode b_Str_checkIndex 1 = .ok (.iload_n 1, 1) := dc_27 (by decide +kernel)
theorem d_si2 : decode b_Str_checkIndex 2 = .ok (.getstatic 1053, 3) := dc_178 (a := 4) (b := 29) (by decide +kernel) rfl
theorem d_si5 : decode b_Str_checkIndex 5 = .ok (.invokestatic 1059, 3) := dc_184 (a := 4) (b := 35) (by decide +kernel) rfl
theorem d_si8 : decode b_Str_checkIndex 8 = .ok (.pop, 1) := dc_87 (by decide +kernel)
theorem d_si9 : decode b_Str_checkIndex 9 = .ok (.return_, 1) := dc_177 (by decide +kernel)
theorem c_Str_checkIndex (h : Hp) (a b : Int32) (A B : Int) (ha : a.toInt = A) (hb : b.toInt = B) (hr : 0 ≤ A ∧ A < B) : Ct y_Str_checkIndex b_Str_checkIndex 2 none 1 22 [.int a, .int b] h (pVd (fun h' => h = h')) := by
  refine ct_ow R_Str [some (.int a), some (.int b)] rfl (by decide) rfl (Nat.le_of_ble_eq_true rfl) ?_
  refine V_iload_n 0 d_si0 rfl rfl ?_
  refine V_iload_n 1 d_si1 rfl rfl ?_
  refine V_getsF wS1053 d_si2 ?_ ?_
  · refine N_callSI [.int a, .int b, .null] [] cs_Str_1059 d_si5 rfl (Nat.le_of_ble_eq_true rfl) (by decide) (by decide) (c_Pre_checkIndex0 h a b A B ha hb hr) (fun x h' X hX hp => ?_)
    subst hp
    refine V_pop d_si8 rfl ?_
    exact V_vret rfl d_si9 ⟨rfl, rfl⟩
  · refine N_callSI [.int a, .int b, .ref 163] [] cs_Str_1059 d_si5 rfl (Nat.le_of_ble_eq_true rfl) (by decide) (by decide) (c_Pre_checkIndex1 h a b A B ha hb hr) (fun x h' X hX hp => ?_)
    subst hp
    refine V_pop d_si8 rfl ?_
    exact V_vret rfl d_si9 ⟨rfl, rfl⟩
theorem d_lc0 : decode b_Lat_charAt 0 = .ok (.iload_n 1, 1) := dc_27 (by decide +kernel)
theorem d_lc1 : decode b_Lat_charAt 1 = .ok (.aload_n 0, 1) := dc_42 (by decide +kernel)
theorem d_lc2 : decode b_Lat_charAt 2 = .ok (.arraylength, 1) := dc_190 (by decide +kernel)
theorem d_lc3 : decode b_Lat_charAt 3 = .ok (.invokestatic 9, 3) := dc_184 (a := 0) (b := 9) (by decide +kernel) rfl
theorem d_lc6 : decode b_Lat_charAt 6 = .ok (.aload_n 0, 1) := dc_42 (by decide +kernel)
theorem d_lc7 : decode b_Lat_charAt 7 = .ok (.iload_n 1, 1) := dc_27 (by decide +kernel)
theorem d_lc8 : decode b_Lat_charAt 8 = .ok (.baload, 1) := dc_51 (by decide +kernel)
theorem d_lc9 : decode b_Lat_charAt 9 = .ok (.sipush 255, 3) := dc_17 (a := 0) (b := 255) (by decide +kernel) rfl
theorem d_lc12 : decode b_Lat_charAt 12 = .ok (.iand, 1) := dc_126 (by decide +kernel)
theorem d_lc13 : decode b_Lat_charAt 13 = .ok (.i2c, 1) := dc_146 (by decide +kernel)
theorem d_lc14 : decode b_Lat_charAt 14 = .ok (.ireturn, 1) := dc_172 (by decide +kernel)
theorem txL_n : ∀ i, i < 14 → (Int32.ofNat (vv_txL.getD i 0)).toInt = (vv_txL.getD i 0 : Nat) := by decide +kernel
theorem txB_c : ∀ i, i < 14 → ∀ j, j < 6 → ((((vv_txB.getD i []).getD j 0) &&& 255).toUInt32 % 65536).toInt32 = (vv_txB.getD i []).getD j 0 := by decide +kernel
theorem c_Lat_charAt (h : Hp) (i : Nat) (hi : i < 14) (j : Int32) (J : Int) (hj : j.toInt = J) (hr : 0 ≤ J ∧ J < (vv_txL.getD i 0 : Nat)) : Ct y_Lat_charAt b_Lat_charAt 2 (some .char) 2 43 [.ref (149 + i), .int j] h (pInt (fun r h' => h = h' ∧ r = (vv_txB.getD i []).getD J.toNat 0)) := by
  refine ct_ow R_Lat [some (.ref (149 + i)), some (.int j)] rfl (by decide) rfl (Nat.le_of_ble_eq_true rfl) ?_
  have hb := txL_b i hi
  refine V_iload_n 1 d_lc0 rfl rfl ?_
  refine V_aload_n 0 d_lc1 rfl rfl ?_
  refine V_slen hi d_lc2 ?_
  refine N_callSV [.int j, .int (Int32.ofNat (vv_txL.getD i 0))] [] cs_Lat_9 d_lc3 rfl (Nat.le_of_ble_eq_true rfl) (by decide) (by decide) (c_Str_checkIndex h j _ J _ hj (txL_n i hi) hr) (fun h' hp => ?_)
  subst hp
  refine V_aload_n 0 d_lc6 rfl rfl ?_
  refine V_iload_n 1 d_lc7 rfl rfl ?_
  refine V_sbald hi hj hr d_lc8 ?_
  refine V_sipush 255 d_lc9 (by decide) ?_
  refine V_iand d_lc12 (fun z e => ?_)
  refine V_i2c d_lc13 (fun y e2 => ?_)
  exact V_nret rfl (by rw [e2]; exact pk_nc z) d_lc14 ⟨y, rfl, rfl, by rw [e2, e]; exact txB_c i hi J.toNat (by (first | decide +kernel | omega))⟩
theorem d_ch0 : decode b_Str_charAt 0 = .ok (.aload_n 0, 1) := dc_42 (by decide +kernel)
theorem d_ch1 : decode b_Str_charAt 1 = .ok (.invokevirtual 492, 3) := dc_182 (a := 1) (b := 236) (by decide +kernel) rfl
theorem d_ch4 : decode b_Str_charAt 4 = .ok (.ifCond .eq 12, 3) := dc_153 (a := 0) (b := 12) (by decide +kernel) rfl
theorem d_ch7 : decode b_Str_charAt 7 = .ok (.aload_n 0, 1) := dc_42 (by decide +kernel)
theorem d_ch8 : decode b_Str_charAt 8 = .ok (.getfield 9, 3) := dc_180 (a := 0) (b := 9) (by decide +kernel) rfl
theorem d_ch11 : decode b_Str_charAt 11 = .ok (.iload_n 1, 1) := dc_27 (by decide +kernel)
theorem d_ch12 : decode b_Str_charAt 12 = .ok (.invokestatic 495, 3) := dc_184 (a := 1) (b := 239) (by decide +kernel) rfl
theorem d_ch15 : decode b_Str_charAt 15 = .ok (.ireturn, 1) := dc_172 (by decide +kernel)
theorem txB_n : ∀ i, i < 14 → ∀ j, j < 6 → narrow .char (.int ((vv_txB.getD i []).getD j 0)) = .int ((vv_txB.getD i []).getD j 0) := by decide +kernel
theorem c_Str_charAt (h : Hp) (i : Nat) (hi : i < 14) (j : Int32) (J : Int) (hj : j.toInt = J) (hr : 0 ≤ J ∧ J < (vv_txL.getD i 0 : Nat)) : Ct y_Str_charAt b_Str_charAt 2 (some .char) 3 64 [.ref (135 + i), .int j] h (pInt (fun r h' => h = h' ∧ r = (vv_txB.getD i []).getD J.toNat 0)) := by
  refine ct_ow R_Str [some (.ref (135 + i)), some (.int j)] rfl (by decide) rfl (Nat.le_of_ble_eq_true rfl) ?_
  have hb := txL_b i hi
  refine V_aload_n 0 d_ch0 rfl rfl ?_
  refine N_callVSI [] [] cv_Str_492 hi rfl d_ch1 rfl (Nat.le_of_ble_eq_true rfl) (by decide) (by decide) (c_Str_isLatin1 h i hi) (fun x h' X hX hp => ?_)
  obtain ⟨e, rfl⟩ := hp
  subst e
  refine V_if_eq 16 (show Int32.toInt 1 = 1 from rfl) d_ch4 (by decide) (fun c => absurd c (by decide)) (fun _ => ?_)
  refine V_aload_n 0 d_ch7 rfl rfl ?_
  refine V_sgetV hi wS9 d_ch8 ?_
  refine V_iload_n 1 d_ch11 rfl rfl ?_
  refine N_callSI [.ref (149 + i), .int j] [] cs_Str_495 d_ch12 rfl (Nat.le_of_ble_eq_true rfl) (by decide) (by decide) (c_Lat_charAt h i hi j J hj hr) (fun x h' X hX hp => ?_)
  obtain ⟨e, rfl⟩ := hp
  subst e
  exact V_nret rfl (txB_n i hi J.toNat (by (first | decide +kernel | omega))) d_ch15 ⟨_, rfl, rfl, rfl⟩
