section
theorem tc_122 : (122 : Int32).toInt = 122 := rfl
theorem tc_57 : (57 : Int32).toInt = 57 := rfl
theorem fp_Tape_15 : FP R_Tape 15 8 4 .int := ⟨_, _, _, t_Tape, rfl, i_Tape, by decide, vv_Gin (List.mem_append_right _ (List.mem_append_left _ (List.mem_of_getElem? (i := 219) rfl))) rfl, t_Tape_ok, n_Tape, rfl, t_Tape_ok 4 (by decide)⟩
theorem fa_Tape_15 : FA R_Tape 15 8 4 := ⟨_, _, _, rfl, i_Tape, by decide, vv_Gin (List.mem_append_right _ (List.mem_append_left _ (List.mem_of_getElem? (i := 219) rfl))) rfl⟩
theorem fa_Tape_22 : FA R_Tape 22 8 1 := ⟨_, _, _, rfl, i_Tape, by decide, vv_Gin (List.mem_append_right _ (List.mem_append_left _ (List.mem_of_getElem? (i := 214) rfl))) rfl⟩
theorem fa_Tape_9 : FA R_Tape 9 8 0 := ⟨_, _, _, rfl, i_Tape, by decide, vv_Gin (List.mem_append_right _ (List.mem_append_left _ (List.mem_of_getElem? (i := 210) rfl))) rfl⟩
theorem cb_Tape_isLetter : CB y_Tape_isLetter b_Tape_isLetter 1 (some .boolean) 1 := ⟨vv_Gin (List.mem_append_right _ (List.mem_append_right _ (List.mem_append_left _ (List.mem_of_getElem? (i := 175) rfl)))) rfl, by decide +kernel, vv_Gin (List.mem_append_right _ (List.mem_append_left _ (List.mem_of_getElem? (i := 8) rfl))) rfl⟩
theorem st_Tape_isLetter : Cond.static y_Tape_isLetter ∈ vv_G := vv_Gin (List.mem_append_right _ (List.mem_append_right _ (List.mem_append_left _ (List.mem_of_getElem? (i := 174) rfl)))) rfl
theorem cs_Tape_28 : CS R_Tape 28 y_Tape_isLetter b_Tape_isLetter 1 (some .boolean) 1 := ⟨cb_Tape_isLetter, st_Tape_isLetter, Or.inl (vv_Gin (List.mem_append_right _ (List.mem_append_right _ (List.mem_append_left _ (List.mem_of_getElem? (i := 173) rfl)))) rfl)⟩
theorem fp_Tape_51 : FP R_Tape 51 8 5 .int := ⟨_, _, _, t_Tape, rfl, i_Tape, by decide, vv_Gin (List.mem_append_right _ (List.mem_append_left _ (List.mem_of_getElem? (i := 220) rfl))) rfl, t_Tape_ok, n_Tape, rfl, t_Tape_ok 5 (by decide)⟩
theorem cb_Tape_isFigure : CB y_Tape_isFigure b_Tape_isFigure 1 (some .boolean) 1 := ⟨vv_Gin (List.mem_append_right _ (List.mem_append_right _ (List.mem_append_left _ (List.mem_of_getElem? (i := 182) rfl)))) rfl, by decide +kernel, vv_Gin (List.mem_append_right _ (List.mem_append_left _ (List.mem_of_getElem? (i := 8) rfl))) rfl⟩
theorem st_Tape_isFigure : Cond.static y_Tape_isFigure ∈ vv_G := vv_Gin (List.mem_append_right _ (List.mem_append_right _ (List.mem_append_left _ (List.mem_of_getElem? (i := 181) rfl)))) rfl
theorem cs_Tape_35 : CS R_Tape 35 y_Tape_isFigure b_Tape_isFigure 1 (some .boolean) 1 := ⟨cb_Tape_isFigure, st_Tape_isFigure, Or.inl (vv_Gin (List.mem_append_right _ (List.mem_append_right _ (List.mem_append_left _ (List.mem_of_getElem? (i := 180) rfl)))) rfl)⟩
theorem fa_Tape_51 : FA R_Tape 51 8 5 := ⟨_, _, _, rfl, i_Tape, by decide, vv_Gin (List.mem_append_right _ (List.mem_append_left _ (List.mem_of_getElem? (i := 220) rfl))) rfl⟩
theorem fp_Tape_19 : FP R_Tape 19 8 3 .int := ⟨_, _, _, t_Tape, rfl, i_Tape, by decide, vv_Gin (List.mem_append_right _ (List.mem_append_left _ (List.mem_of_getElem? (i := 217) rfl))) rfl, t_Tape_ok, n_Tape, rfl, t_Tape_ok 3 (by decide)⟩
theorem fa_Tape_19 : FA R_Tape 19 8 3 := ⟨_, _, _, rfl, i_Tape, by decide, vv_Gin (List.mem_append_right _ (List.mem_append_left _ (List.mem_of_getElem? (i := 217) rfl))) rfl⟩
theorem fp_Tape_25 : FP R_Tape 25 8 2 .int := ⟨_, _, _, t_Tape, rfl, i_Tape, by decide, vv_Gin (List.mem_append_right _ (List.mem_append_left _ (List.mem_of_getElem? (i := 216) rfl))) rfl, t_Tape_ok, n_Tape, rfl, t_Tape_ok 2 (by decide)⟩
theorem cb_Tape_passFigures : CB y_Tape_passFigures b_Tape_passFigures 1 none 0 := ⟨vv_Gin (List.mem_append_right _ (List.mem_append_right _ (List.mem_append_left _ (List.mem_of_getElem? (i := 186) rfl)))) rfl, by decide +kernel, vv_Gin (List.mem_append_right _ (List.mem_append_left _ (List.mem_of_getElem? (i := 8) rfl))) rfl⟩
theorem im_Tape_passFigures : Cond.instanceMethod y_Tape_passFigures ∈ vv_G := vv_Gin (List.mem_append_right _ (List.mem_append_right _ (List.mem_append_left _ (List.mem_of_getElem? (i := 185) rfl)))) rfl
theorem se_Tape_passFigures : Cond.selects y_Tape_passFigures.cls y_Tape_passFigures y_Tape_passFigures ∈ vv_G := vv_Gin (List.mem_append_left _ (List.mem_of_getElem? (i := 1) rfl)) rfl
theorem cv_Tape_38 : CV R_Tape 38 y_Tape_passFigures b_Tape_passFigures 1 none 0 := ⟨cb_Tape_passFigures, im_Tape_passFigures, se_Tape_passFigures, vv_Gin (List.mem_append_right _ (List.mem_append_right _ (List.mem_append_left _ (List.mem_of_getElem? (i := 183) rfl)))) rfl⟩
theorem cb_Tape_passLetters : CB y_Tape_passLetters b_Tape_passLetters 1 none 0 := ⟨vv_Gin (List.mem_append_right _ (List.mem_append_right _ (List.mem_append_left _ (List.mem_of_getElem? (i := 179) rfl)))) rfl, by decide +kernel, vv_Gin (List.mem_append_right _ (List.mem_append_left _ (List.mem_of_getElem? (i := 8) rfl))) rfl⟩
theorem im_Tape_passLetters : Cond.instanceMethod y_Tape_passLetters ∈ vv_G := vv_Gin (List.mem_append_right _ (List.mem_append_right _ (List.mem_append_left _ (List.mem_of_getElem? (i := 178) rfl)))) rfl
theorem se_Tape_passLetters : Cond.selects y_Tape_passLetters.cls y_Tape_passLetters y_Tape_passLetters ∈ vv_G := vv_Gin (List.mem_append_left _ (List.mem_of_getElem? (i := 0) rfl)) rfl
theorem cv_Tape_32 : CV R_Tape 32 y_Tape_passLetters b_Tape_passLetters 1 none 0 := ⟨cb_Tape_passLetters, im_Tape_passLetters, se_Tape_passLetters, vv_Gin (List.mem_append_right _ (List.mem_append_right _ (List.mem_append_left _ (List.mem_of_getElem? (i := 176) rfl)))) rfl⟩
theorem cv_Tape_41 : CV R_Tape 41 y_Str_length b_Str_length 1 (some .int) 0 := ⟨⟨vv_Gin (List.mem_append_right _ (List.mem_append_right _ (List.mem_append_left _ (List.mem_of_getElem? (i := 223) (by decide +kernel))))) (by decide +kernel), by decide +kernel, vv_Gin (List.mem_append_right _ (List.mem_append_left _ (List.mem_of_getElem? (i := 14) (by decide +kernel)))) (by decide +kernel)⟩, vv_Gin (List.mem_append_right _ (List.mem_append_right _ (List.mem_append_left _ (List.mem_of_getElem? (i := 221) (by decide +kernel))))) (by decide +kernel), vv_Gin (List.mem_append_right _ (List.mem_append_right _ (List.mem_append_left _ (List.mem_of_getElem? (i := 222) (by decide +kernel))))) (by decide +kernel), vv_Gin (List.mem_append_right _ (List.mem_append_right _ (List.mem_append_left _ (List.mem_of_getElem? (i := 220) (by decide +kernel))))) (by decide +kernel)⟩
theorem fa_Tape_25 : FA R_Tape 25 8 2 := ⟨_, _, _, rfl, i_Tape, by decide, vv_Gin (List.mem_append_right _ (List.mem_append_left _ (List.mem_of_getElem? (i := 216) rfl))) rfl⟩
theorem cv_Tape_47 : CV R_Tape 47 y_Str_charAt b_Str_charAt 2 (some .char) 1 := ⟨⟨vv_Gin (List.mem_append_right _ (List.mem_append_right _ (List.mem_append_left _ (List.mem_of_getElem? (i := 233) (by decide +kernel))))) (by decide +kernel), by decide +kernel, vv_Gin (List.mem_append_right _ (List.mem_append_left _ (List.mem_of_getElem? (i := 14) (by decide +kernel)))) (by decide +kernel)⟩, vv_Gin (List.mem_append_right _ (List.mem_append_right _ (List.mem_append_left _ (List.mem_of_getElem? (i := 231) (by decide +kernel))))) (by decide +kernel), vv_Gin (List.mem_append_right _ (List.mem_append_right _ (List.mem_append_left _ (List.mem_of_getElem? (i := 232) (by decide +kernel))))) (by decide +kernel), vv_Gin (List.mem_append_right _ (List.mem_append_right _ (List.mem_append_left _ (List.mem_of_getElem? (i := 230) (by decide +kernel))))) (by decide +kernel)⟩
theorem fa_Reader_12 : FA R_Reader 12 5 0 := ⟨_, _, _, rfl, i_Reader, by decide, vv_Gin (List.mem_append_right _ (List.mem_append_left _ (List.mem_of_getElem? (i := 239) rfl))) rfl⟩
theorem cb_Reader_lineName : CB y_Reader_lineName b_Reader_lineName 1 (some (.object "java/lang/String")) 1 := ⟨vv_Gin (List.mem_append_right _ (List.mem_append_right _ (List.mem_append_left _ (List.mem_of_getElem? (i := 205) rfl)))) rfl, by decide +kernel, vv_Gin (List.mem_append_right _ (List.mem_append_left _ (List.mem_of_getElem? (i := 7) rfl))) rfl⟩
theorem st_Reader_lineName : Cond.static y_Reader_lineName ∈ vv_G := vv_Gin (List.mem_append_right _ (List.mem_append_right _ (List.mem_append_left _ (List.mem_of_getElem? (i := 204) rfl)))) rfl
theorem cs_Reader_171 : CS R_Reader 171 y_Reader_lineName b_Reader_lineName 1 (some (.object "java/lang/String")) 1 := ⟨cb_Reader_lineName, st_Reader_lineName, Or.inl (vv_Gin (List.mem_append_right _ (List.mem_append_right _ (List.mem_append_left _ (List.mem_of_getElem? (i := 203) rfl)))) rfl)⟩
theorem cb_Tape_isName : CB y_Tape_isName b_Tape_isName 4 (some .boolean) 1 := ⟨vv_Gin (List.mem_append_right _ (List.mem_append_right _ (List.mem_append_left _ (List.mem_of_getElem? (i := 219) rfl)))) rfl, by decide +kernel, vv_Gin (List.mem_append_right _ (List.mem_append_left _ (List.mem_of_getElem? (i := 8) rfl))) rfl⟩
theorem im_Tape_isName : Cond.instanceMethod y_Tape_isName ∈ vv_G := vv_Gin (List.mem_append_right _ (List.mem_append_right _ (List.mem_append_left _ (List.mem_of_getElem? (i := 217) rfl)))) rfl
theorem se_Tape_isName : Cond.selects y_Tape_isName.cls y_Tape_isName y_Tape_isName ∈ vv_G := vv_Gin (List.mem_append_right _ (List.mem_append_right _ (List.mem_append_left _ (List.mem_of_getElem? (i := 218) rfl)))) rfl
theorem cv_Reader_175 : CV R_Reader 175 y_Tape_isName b_Tape_isName 4 (some .boolean) 1 := ⟨cb_Tape_isName, im_Tape_isName, se_Tape_isName, vv_Gin (List.mem_append_right _ (List.mem_append_right _ (List.mem_append_left _ (List.mem_of_getElem? (i := 216) rfl)))) rfl⟩
theorem cb_Reader_natureName : CB y_Reader_natureName b_Reader_natureName 1 (some (.object "java/lang/String")) 1 := ⟨vv_Gin (List.mem_append_right _ (List.mem_append_right _ (List.mem_append_right _ (List.mem_append_left _ (List.mem_of_getElem? (i := 41) rfl))))) rfl, by decide +kernel, vv_Gin (List.mem_append_right _ (List.mem_append_left _ (List.mem_of_getElem? (i := 7) rfl))) rfl⟩
theorem st_Reader_natureName : Cond.static y_Reader_natureName ∈ vv_G := vv_Gin (List.mem_append_right _ (List.mem_append_right _ (List.mem_append_right _ (List.mem_append_left _ (List.mem_of_getElem? (i := 40) rfl))))) rfl
theorem cs_Reader_179 : CS R_Reader 179 y_Reader_natureName b_Reader_natureName 1 (some (.object "java/lang/String")) 1 := ⟨cb_Reader_natureName, st_Reader_natureName, Or.inl (vv_Gin (List.mem_append_right _ (List.mem_append_right _ (List.mem_append_right _ (List.mem_append_left _ (List.mem_of_getElem? (i := 39) rfl))))) rfl)⟩
theorem fp_Reader_41 : FP R_Reader 41 5 6 .int := ⟨_, _, _, t_Reader, rfl, i_Reader, by decide, vv_Gin (List.mem_append_right _ (List.mem_append_right _ (List.mem_append_left _ (List.mem_of_getElem? (i := 7) rfl)))) rfl, t_Reader_ok, n_Reader, rfl, t_Reader_ok 6 (by decide)⟩
theorem fp_Reader_68 : FP R_Reader 68 5 5 .int := ⟨_, _, _, t_Reader, rfl, i_Reader, by decide, vv_Gin (List.mem_append_right _ (List.mem_append_right _ (List.mem_append_left _ (List.mem_of_getElem? (i := 6) rfl)))) rfl, t_Reader_ok, n_Reader, rfl, t_Reader_ok 5 (by decide)⟩
theorem fa_Reader_51 : FA R_Reader 51 8 2 := ⟨_, _, _, rfl, i_Tape, by decide, vv_Gin (List.mem_append_right _ (List.mem_append_left _ (List.mem_of_getElem? (i := 215) rfl))) rfl⟩
theorem fa_Reader_81 : FA R_Reader 81 8 3 := ⟨_, _, _, rfl, i_Tape, by decide, vv_Gin (List.mem_append_right _ (List.mem_append_left _ (List.mem_of_getElem? (i := 218) rfl))) rfl⟩
theorem cb_Reader_isRefused : CB y_Reader_isRefused b_Reader_isRefused 3 (some .boolean) 2 := ⟨vv_Gin (List.mem_append_right _ (List.mem_append_right _ (List.mem_append_left _ (List.mem_of_getElem? (i := 198) rfl)))) rfl, by decide +kernel, vv_Gin (List.mem_append_right _ (List.mem_append_left _ (List.mem_of_getElem? (i := 7) rfl))) rfl⟩
theorem im_Reader_isRefused : Cond.instanceMethod y_Reader_isRefused ∈ vv_G := vv_Gin (List.mem_append_right _ (List.mem_append_right _ (List.mem_append_left _ (List.mem_of_getElem? (i := 197) rfl)))) rfl
theorem se_Reader_isRefused : Cond.selects y_Reader_isRefused.cls y_Reader_isRefused y_Reader_isRefused ∈ vv_G := vv_Gin (List.mem_append_left _ (List.mem_of_getElem? (i := 4) rfl)) rfl
theorem cv_Reader_64 : CV R_Reader 64 y_Reader_isRefused b_Reader_isRefused 3 (some .boolean) 2 := ⟨cb_Reader_isRefused, im_Reader_isRefused, se_Reader_isRefused, vv_Gin (List.mem_append_right _ (List.mem_append_right _ (List.mem_append_left _ (List.mem_of_getElem? (i := 195) rfl)))) rfl⟩
theorem cb_Tape_advance : CB y_Tape_advance b_Tape_advance 1 none 0 := ⟨vv_Gin (List.mem_append_right _ (List.mem_append_right _ (List.mem_append_left _ (List.mem_of_getElem? (i := 172) rfl)))) rfl, by decide +kernel, vv_Gin (List.mem_append_right _ (List.mem_append_left _ (List.mem_of_getElem? (i := 8) rfl))) rfl⟩
theorem im_Tape_advance : Cond.instanceMethod y_Tape_advance ∈ vv_G := vv_Gin (List.mem_append_right _ (List.mem_append_right _ (List.mem_append_left _ (List.mem_of_getElem? (i := 170) rfl)))) rfl
theorem se_Tape_advance : Cond.selects y_Tape_advance.cls y_Tape_advance y_Tape_advance ∈ vv_G := vv_Gin (List.mem_append_right _ (List.mem_append_right _ (List.mem_append_left _ (List.mem_of_getElem? (i := 171) rfl)))) rfl
theorem cv_Reader_48 : CV R_Reader 48 y_Tape_advance b_Tape_advance 1 none 0 := ⟨cb_Tape_advance, im_Tape_advance, se_Tape_advance, vv_Gin (List.mem_append_right _ (List.mem_append_right _ (List.mem_append_left _ (List.mem_of_getElem? (i := 169) rfl)))) rfl⟩
theorem cb_Reader_isKind : CB y_Reader_isKind b_Reader_isKind 2 (some .boolean) 1 := ⟨vv_Gin (List.mem_append_right _ (List.mem_append_right _ (List.mem_append_left _ (List.mem_of_getElem? (i := 194) rfl)))) rfl, by decide +kernel, vv_Gin (List.mem_append_right _ (List.mem_append_left _ (List.mem_of_getElem? (i := 7) rfl))) rfl⟩
theorem im_Reader_isKind : Cond.instanceMethod y_Reader_isKind ∈ vv_G := vv_Gin (List.mem_append_right _ (List.mem_append_right _ (List.mem_append_left _ (List.mem_of_getElem? (i := 193) rfl)))) rfl
theorem se_Reader_isKind : Cond.selects y_Reader_isKind.cls y_Reader_isKind y_Reader_isKind ∈ vv_G := vv_Gin (List.mem_append_left _ (List.mem_of_getElem? (i := 3) rfl)) rfl
theorem cv_Reader_84 : CV R_Reader 84 y_Reader_isKind b_Reader_isKind 2 (some .boolean) 1 := ⟨cb_Reader_isKind, im_Reader_isKind, se_Reader_isKind, vv_Gin (List.mem_append_right _ (List.mem_append_right _ (List.mem_append_left _ (List.mem_of_getElem? (i := 191) rfl)))) rfl⟩
theorem cb_Reader_natureNamed : CB y_Reader_natureNamed b_Reader_natureNamed 2 (some .int) 0 := ⟨vv_Gin (List.mem_append_right _ (List.mem_append_right _ (List.mem_append_right _ (List.mem_append_left _ (List.mem_of_getElem? (i := 38) rfl))))) rfl, by decide +kernel, vv_Gin (List.mem_append_right _ (List.mem_append_left _ (List.mem_of_getElem? (i := 7) rfl))) rfl⟩
theorem im_Reader_natureNamed : Cond.instanceMethod y_Reader_natureNamed ∈ vv_G := vv_Gin (List.mem_append_right _ (List.mem_append_right _ (List.mem_append_right _ (List.mem_append_left _ (List.mem_of_getElem? (i := 37) rfl))))) rfl
theorem se_Reader_natureNamed : Cond.selects y_Reader_natureNamed.cls y_Reader_natureNamed y_Reader_natureNamed ∈ vv_G := vv_Gin (List.mem_append_left _ (List.mem_of_getElem? (i := 7) rfl)) rfl
theorem cv_Reader_116 : CV R_Reader 116 y_Reader_natureNamed b_Reader_natureNamed 2 (some .int) 0 := ⟨cb_Reader_natureNamed, im_Reader_natureNamed, se_Reader_natureNamed, vv_Gin (List.mem_append_right _ (List.mem_append_right _ (List.mem_append_right _ (List.mem_append_left _ (List.mem_of_getElem? (i := 35) rfl))))) rfl⟩
theorem fp_Reader_119 : FP R_Reader 119 5 4 .int := ⟨_, _, _, t_Reader, rfl, i_Reader, by decide, vv_Gin (List.mem_append_right _ (List.mem_append_right _ (List.mem_append_left _ (List.mem_of_getElem? (i := 5) rfl)))) rfl, t_Reader_ok, n_Reader, rfl, t_Reader_ok 4 (by decide)⟩
theorem fa_Reader_119 : FA R_Reader 119 5 4 := ⟨_, _, _, rfl, i_Reader, by decide, vv_Gin (List.mem_append_right _ (List.mem_append_right _ (List.mem_append_left _ (List.mem_of_getElem? (i := 5) rfl)))) rfl⟩
theorem fa_Reader_122 : FA R_Reader 122 8 5 := ⟨_, _, _, rfl, i_Tape, by decide, vv_Gin (List.mem_append_right _ (List.mem_append_left _ (List.mem_of_getElem? (i := 221) rfl))) rfl⟩
theorem ws_Reader_125 : Cond.fieldLink R_Reader 125 R_Reader "LEAST" "[I" ∈ vv_G := vv_Gin (List.mem_append_right _ (List.mem_append_right _ (List.mem_append_right _ (List.mem_append_left _ (List.mem_of_getElem? (i := 52) (by decide +kernel)))))) (by decide +kernel)
theorem ws_Reader_128 : Cond.fieldLink R_Reader 128 R_Reader "MOST" "[I" ∈ vv_G := vv_Gin (List.mem_append_right _ (List.mem_append_right _ (List.mem_append_right _ (List.mem_append_left _ (List.mem_of_getElem? (i := 54) (by decide +kernel)))))) (by decide +kernel)
theorem fa_Reader_25 : FA R_Reader 25 5 2 := ⟨_, _, _, rfl, i_Reader, by decide, vv_Gin (List.mem_append_right _ (List.mem_append_right _ (List.mem_append_left _ (List.mem_of_getElem? (i := 3) rfl)))) rfl⟩
theorem cb_Reader_isOfOne : CB y_Reader_isOfOne b_Reader_isOfOne 1 (some .boolean) 1 := ⟨vv_Gin (List.mem_append_right _ (List.mem_append_right _ (List.mem_append_right _ (List.mem_append_left _ (List.mem_of_getElem? (i := 58) rfl))))) rfl, by decide +kernel, vv_Gin (List.mem_append_right _ (List.mem_append_left _ (List.mem_of_getElem? (i := 7) rfl))) rfl⟩
theorem st_Reader_isOfOne : Cond.static y_Reader_isOfOne ∈ vv_G := vv_Gin (List.mem_append_right _ (List.mem_append_right _ (List.mem_append_right _ (List.mem_append_left _ (List.mem_of_getElem? (i := 57) rfl))))) rfl
theorem cs_Reader_131 : CS R_Reader 131 y_Reader_isOfOne b_Reader_isOfOne 1 (some .boolean) 1 := ⟨cb_Reader_isOfOne, st_Reader_isOfOne, Or.inl (vv_Gin (List.mem_append_right _ (List.mem_append_right _ (List.mem_append_right _ (List.mem_append_left _ (List.mem_of_getElem? (i := 56) rfl))))) rfl)⟩
theorem fa_Reader_29 : FA R_Reader 29 5 3 := ⟨_, _, _, rfl, i_Reader, by decide, vv_Gin (List.mem_append_right _ (List.mem_append_right _ (List.mem_append_left _ (List.mem_of_getElem? (i := 4) rfl)))) rfl⟩
theorem tc_12 : (12 : Int32).toInt = 12 := rfl
theorem tc_13 : (13 : Int32).toInt = 13 := rfl
theorem tc_24 : (24 : Int32).toInt = 24 := rfl
theorem tc_27 : (27 : Int32).toInt = 27 := rfl
theorem tc_28 : (28 : Int32).toInt = 28 := rfl
theorem tc_29 : (29 : Int32).toInt = 29 := rfl
theorem fa_Reader_21 : FA R_Reader 21 5 1 := ⟨_, _, _, rfl, i_Reader, by decide, vv_Gin (List.mem_append_right _ (List.mem_append_right _ (List.mem_append_left _ (List.mem_of_getElem? (i := 1) rfl)))) rfl⟩
theorem fa_Reader_71 : FA R_Reader 71 1 0 := ⟨_, _, _, rfl, i_County, by decide, vv_Gin (List.mem_append_right _ (List.mem_append_left _ (List.mem_of_getElem? (i := 173) rfl))) rfl⟩
theorem fp_Reader_134 : FP R_Reader 134 2 0 .int := ⟨_, _, _, t_Land, rfl, i_Land, by decide, vv_Gin (List.mem_append_right _ (List.mem_append_left _ (List.mem_of_getElem? (i := 44) rfl))) rfl, t_Land_ok, n_Land, rfl, t_Land_ok 0 (by decide)⟩
theorem fp_Reader_137 : FP R_Reader 137 2 1 .int := ⟨_, _, _, t_Land, rfl, i_Land, by decide, vv_Gin (List.mem_append_right _ (List.mem_append_left _ (List.mem_of_getElem? (i := 48) rfl))) rfl, t_Land_ok, n_Land, rfl, t_Land_ok 1 (by decide)⟩
theorem fa_Reader_140 : FA R_Reader 140 2 4 := ⟨_, _, _, rfl, i_Land, by decide, vv_Gin (List.mem_append_right _ (List.mem_append_left _ (List.mem_of_getElem? (i := 63) rfl))) rfl⟩
theorem fa_Reader_143 : FA R_Reader 143 2 5 := ⟨_, _, _, rfl, i_Land, by decide, vv_Gin (List.mem_append_right _ (List.mem_append_left _ (List.mem_of_getElem? (i := 66) rfl))) rfl⟩
theorem fa_Reader_146 : FA R_Reader 146 2 6 := ⟨_, _, _, rfl, i_Land, by decide, vv_Gin (List.mem_append_right _ (List.mem_append_left _ (List.mem_of_getElem? (i := 70) rfl))) rfl⟩
theorem fa_Reader_149 : FA R_Reader 149 2 7 := ⟨_, _, _, rfl, i_Land, by decide, vv_Gin (List.mem_append_right _ (List.mem_append_left _ (List.mem_of_getElem? (i := 75) rfl))) rfl⟩
theorem fa_Reader_94 : FA R_Reader 94 1 1 := ⟨_, _, _, rfl, i_County, by decide, vv_Gin (List.mem_append_right _ (List.mem_append_left _ (List.mem_of_getElem? (i := 176) rfl))) rfl⟩
theorem fa_Reader_152 : FA R_Reader 152 3 0 := ⟨_, _, _, rfl, i_Ledger, by decide, vv_Gin (List.mem_append_right _ (List.mem_append_left _ (List.mem_of_getElem? (i := 109) rfl))) rfl⟩
theorem fp_Reader_155 : FP R_Reader 155 2 2 .int := ⟨_, _, _, t_Land, rfl, i_Land, by decide, vv_Gin (List.mem_append_right _ (List.mem_append_left _ (List.mem_of_getElem? (i := 53) rfl))) rfl, t_Land_ok, n_Land, rfl, t_Land_ok 2 (by decide)⟩
theorem fp_Reader_158 : FP R_Reader 158 2 3 .int := ⟨_, _, _, t_Land, rfl, i_Land, by decide, vv_Gin (List.mem_append_right _ (List.mem_append_left _ (List.mem_of_getElem? (i := 58) rfl))) rfl, t_Land_ok, n_Land, rfl, t_Land_ok 3 (by decide)⟩
theorem fp_Reader_161 : FP R_Reader 161 1 3 .int := ⟨_, _, _, t_County, rfl, i_County, by decide, vv_Gin (List.mem_append_right _ (List.mem_append_left _ (List.mem_of_getElem? (i := 182) rfl))) rfl, t_County_ok, n_County, rfl, t_County_ok 3 (by decide)⟩
theorem fp_Reader_164 : FP R_Reader 164 1 4 .int := ⟨_, _, _, t_County, rfl, i_County, by decide, vv_Gin (List.mem_append_right _ (List.mem_append_left _ (List.mem_of_getElem? (i := 185) rfl))) rfl, t_County_ok, n_County, rfl, t_County_ok 4 (by decide)⟩
theorem cb_Ledger_addDebt : CB y_Ledger_addDebt b_Ledger_addDebt 4 none 3 := ⟨vv_Gin (List.mem_append_right _ (List.mem_append_right _ (List.mem_append_right _ (List.mem_append_left _ (List.mem_of_getElem? (i := 66) rfl))))) rfl, by decide +kernel, vv_Gin (List.mem_append_right _ (List.mem_append_left _ (List.mem_of_getElem? (i := 4) rfl))) rfl⟩
theorem im_Ledger_addDebt : Cond.instanceMethod y_Ledger_addDebt ∈ vv_G := vv_Gin (List.mem_append_right _ (List.mem_append_right _ (List.mem_append_right _ (List.mem_append_left _ (List.mem_of_getElem? (i := 64) rfl))))) rfl
theorem se_Ledger_addDebt : Cond.selects y_Ledger_addDebt.cls y_Ledger_addDebt y_Ledger_addDebt ∈ vv_G := vv_Gin (List.mem_append_right _ (List.mem_append_right _ (List.mem_append_right _ (List.mem_append_left _ (List.mem_of_getElem? (i := 65) rfl))))) rfl
theorem cv_Reader_167 : CV R_Reader 167 y_Ledger_addDebt b_Ledger_addDebt 4 none 3 := ⟨cb_Ledger_addDebt, im_Ledger_addDebt, se_Ledger_addDebt, vv_Gin (List.mem_append_right _ (List.mem_append_right _ (List.mem_append_right _ (List.mem_append_left _ (List.mem_of_getElem? (i := 63) rfl))))) rfl⟩
theorem cb_Reader_lineBegun : CB y_Reader_lineBegun b_Reader_lineBegun 2 (some .int) 0 := ⟨vv_Gin (List.mem_append_right _ (List.mem_append_right _ (List.mem_append_left _ (List.mem_of_getElem? (i := 202) rfl)))) rfl, by decide +kernel, vv_Gin (List.mem_append_right _ (List.mem_append_left _ (List.mem_of_getElem? (i := 7) rfl))) rfl⟩
theorem im_Reader_lineBegun : Cond.instanceMethod y_Reader_lineBegun ∈ vv_G := vv_Gin (List.mem_append_right _ (List.mem_append_right _ (List.mem_append_left _ (List.mem_of_getElem? (i := 201) rfl)))) rfl
theorem se_Reader_lineBegun : Cond.selects y_Reader_lineBegun.cls y_Reader_lineBegun y_Reader_lineBegun ∈ vv_G := vv_Gin (List.mem_append_left _ (List.mem_of_getElem? (i := 5) rfl)) rfl
theorem cv_Reader_88 : CV R_Reader 88 y_Reader_lineBegun b_Reader_lineBegun 2 (some .int) 0 := ⟨cb_Reader_lineBegun, im_Reader_lineBegun, se_Reader_lineBegun, vv_Gin (List.mem_append_right _ (List.mem_append_right _ (List.mem_append_left _ (List.mem_of_getElem? (i := 199) rfl)))) rfl⟩
theorem cb_Reader_isOnceOnly : CB y_Reader_isOnceOnly b_Reader_isOnceOnly 1 (some .boolean) 1 := ⟨vv_Gin (List.mem_append_right _ (List.mem_append_right _ (List.mem_append_right _ (List.mem_append_left _ (List.mem_of_getElem? (i := 30) rfl))))) rfl, by decide +kernel, vv_Gin (List.mem_append_right _ (List.mem_append_left _ (List.mem_of_getElem? (i := 7) rfl))) rfl⟩
theorem st_Reader_isOnceOnly : Cond.static y_Reader_isOnceOnly ∈ vv_G := vv_Gin (List.mem_append_right _ (List.mem_append_right _ (List.mem_append_right _ (List.mem_append_left _ (List.mem_of_getElem? (i := 29) rfl))))) rfl
theorem cs_Reader_91 : CS R_Reader 91 y_Reader_isOnceOnly b_Reader_isOnceOnly 1 (some .boolean) 1 := ⟨cb_Reader_isOnceOnly, st_Reader_isOnceOnly, Or.inl (vv_Gin (List.mem_append_right _ (List.mem_append_right _ (List.mem_append_right _ (List.mem_append_left _ (List.mem_of_getElem? (i := 28) rfl))))) rfl)⟩
theorem ws_Reader_106 : Cond.fieldLink R_Reader 106 R_Reader "NUMBERS" "[I" ∈ vv_G := vv_Gin (List.mem_append_right _ (List.mem_append_right _ (List.mem_append_right _ (List.mem_append_left _ (List.mem_of_getElem? (i := 46) (by decide +kernel)))))) (by decide +kernel)
theorem cb_Reader_readNumber : CB y_Reader_readNumber b_Reader_readNumber 6 (some .boolean) 2 := ⟨vv_Gin (List.mem_append_right _ (List.mem_append_right _ (List.mem_append_right _ (List.mem_append_left _ (List.mem_of_getElem? (i := 51) rfl))))) rfl, by decide +kernel, vv_Gin (List.mem_append_right _ (List.mem_append_left _ (List.mem_of_getElem? (i := 7) rfl))) rfl⟩
theorem im_Reader_readNumber : Cond.instanceMethod y_Reader_readNumber ∈ vv_G := vv_Gin (List.mem_append_right _ (List.mem_append_right _ (List.mem_append_right _ (List.mem_append_left _ (List.mem_of_getElem? (i := 50) rfl))))) rfl
theorem se_Reader_readNumber : Cond.selects y_Reader_readNumber.cls y_Reader_readNumber y_Reader_readNumber ∈ vv_G := vv_Gin (List.mem_append_left _ (List.mem_of_getElem? (i := 8) rfl)) rfl
theorem cv_Reader_109 : CV R_Reader 109 y_Reader_readNumber b_Reader_readNumber 6 (some .boolean) 2 := ⟨cb_Reader_readNumber, im_Reader_readNumber, se_Reader_readNumber, vv_Gin (List.mem_append_right _ (List.mem_append_right _ (List.mem_append_right _ (List.mem_append_left _ (List.mem_of_getElem? (i := 48) rfl))))) rfl⟩
theorem cb_Reader_tellLine : CB y_Reader_tellLine b_Reader_tellLine 5 none 1 := ⟨vv_Gin (List.mem_append_right _ (List.mem_append_right _ (List.mem_append_right _ (List.mem_append_left _ (List.mem_of_getElem? (i := 62) rfl))))) rfl, by decide +kernel, vv_Gin (List.mem_append_right _ (List.mem_append_left _ (List.mem_of_getElem? (i := 7) rfl))) rfl⟩
theorem im_Reader_tellLine : Cond.instanceMethod y_Reader_tellLine ∈ vv_G := vv_Gin (List.mem_append_right _ (List.mem_append_right _ (List.mem_append_right _ (List.mem_append_left _ (List.mem_of_getElem? (i := 61) rfl))))) rfl
theorem se_Reader_tellLine : Cond.selects y_Reader_tellLine.cls y_Reader_tellLine y_Reader_tellLine ∈ vv_G := vv_Gin (List.mem_append_left _ (List.mem_of_getElem? (i := 9) rfl)) rfl
theorem cv_Reader_112 : CV R_Reader 112 y_Reader_tellLine b_Reader_tellLine 5 none 1 := ⟨cb_Reader_tellLine, im_Reader_tellLine, se_Reader_tellLine, vv_Gin (List.mem_append_right _ (List.mem_append_right _ (List.mem_append_right _ (List.mem_append_left _ (List.mem_of_getElem? (i := 59) rfl))))) rfl⟩
theorem cb_Reader_readNature : CB y_Reader_readNature b_Reader_readNature 1 (some .boolean) 0 := ⟨vv_Gin (List.mem_append_right _ (List.mem_append_right _ (List.mem_append_right _ (List.mem_append_left _ (List.mem_of_getElem? (i := 34) rfl))))) rfl, by decide +kernel, vv_Gin (List.mem_append_right _ (List.mem_append_left _ (List.mem_of_getElem? (i := 7) rfl))) rfl⟩
theorem im_Reader_readNature : Cond.instanceMethod y_Reader_readNature ∈ vv_G := vv_Gin (List.mem_append_right _ (List.mem_append_right _ (List.mem_append_right _ (List.mem_append_left _ (List.mem_of_getElem? (i := 33) rfl))))) rfl
theorem se_Reader_readNature : Cond.selects y_Reader_readNature.cls y_Reader_readNature y_Reader_readNature ∈ vv_G := vv_Gin (List.mem_append_left _ (List.mem_of_getElem? (i := 6) rfl)) rfl
theorem cv_Reader_103 : CV R_Reader 103 y_Reader_readNature b_Reader_readNature 1 (some .boolean) 0 := ⟨cb_Reader_readNature, im_Reader_readNature, se_Reader_readNature, vv_Gin (List.mem_append_right _ (List.mem_append_right _ (List.mem_append_right _ (List.mem_append_left _ (List.mem_of_getElem? (i := 31) rfl))))) rfl⟩
theorem fa_Reader_98 : FA R_Reader 98 3 4 := ⟨_, _, _, rfl, i_Ledger, by decide, vv_Gin (List.mem_append_right _ (List.mem_append_left _ (List.mem_of_getElem? (i := 114) rfl))) rfl⟩
theorem cb_Land_allBits : CB y_Land_allBits b_Land_allBits 1 (some .int) 0 := ⟨vv_Gin (List.mem_append_right _ (List.mem_append_right _ (List.mem_append_right _ (List.mem_append_left _ (List.mem_of_getElem? (i := 74) rfl))))) rfl, by decide +kernel, vv_Gin (List.mem_append_right _ (List.mem_append_left _ (List.mem_of_getElem? (i := 3) rfl))) rfl⟩
theorem im_Land_allBits : Cond.instanceMethod y_Land_allBits ∈ vv_G := vv_Gin (List.mem_append_right _ (List.mem_append_right _ (List.mem_append_right _ (List.mem_append_left _ (List.mem_of_getElem? (i := 72) rfl))))) rfl
theorem se_Land_allBits : Cond.selects y_Land_allBits.cls y_Land_allBits y_Land_allBits ∈ vv_G := vv_Gin (List.mem_append_right _ (List.mem_append_right _ (List.mem_append_right _ (List.mem_append_left _ (List.mem_of_getElem? (i := 73) rfl))))) rfl
theorem cv_Reader_75 : CV R_Reader 75 y_Land_allBits b_Land_allBits 1 (some .int) 0 := ⟨cb_Land_allBits, im_Land_allBits, se_Land_allBits, vv_Gin (List.mem_append_right _ (List.mem_append_right _ (List.mem_append_right _ (List.mem_append_left _ (List.mem_of_getElem? (i := 71) rfl))))) rfl⟩
theorem cb_County_reset : CB y_County_reset b_County_reset 1 none 0 := ⟨vv_Gin (List.mem_append_right _ (List.mem_append_left _ (List.mem_of_getElem? (i := 158) rfl))) rfl, by decide +kernel, vv_Gin (List.mem_append_right _ (List.mem_append_left _ (List.mem_of_getElem? (i := 2) rfl))) rfl⟩
theorem im_County_reset : Cond.instanceMethod y_County_reset ∈ vv_G := vv_Gin (List.mem_append_right _ (List.mem_append_left _ (List.mem_of_getElem? (i := 156) rfl))) rfl
theorem se_County_reset : Cond.selects y_County_reset.cls y_County_reset y_County_reset ∈ vv_G := vv_Gin (List.mem_append_right _ (List.mem_append_left _ (List.mem_of_getElem? (i := 157) rfl))) rfl
theorem cv_Reader_32 : CV R_Reader 32 y_County_reset b_County_reset 1 none 0 := ⟨cb_County_reset, im_County_reset, se_County_reset, vv_Gin (List.mem_append_right _ (List.mem_append_right _ (List.mem_append_left _ (List.mem_of_getElem? (i := 163) rfl)))) rfl⟩
theorem cs_Reader_35 : CS R_Reader 35 y_Arr_fill b_Arr_fill 4 none 2 := ⟨cb_Arr_fill, st_Arr_fill, Or.inl (vv_Gin (List.mem_append_right _ (List.mem_append_right _ (List.mem_append_left _ (List.mem_of_getElem? (i := 164) rfl)))) rfl)⟩
theorem cb_Tape_rewind : CB y_Tape_rewind b_Tape_rewind 1 none 0 := ⟨vv_Gin (List.mem_append_right _ (List.mem_append_right _ (List.mem_append_left _ (List.mem_of_getElem? (i := 168) rfl)))) rfl, by decide +kernel, vv_Gin (List.mem_append_right _ (List.mem_append_left _ (List.mem_of_getElem? (i := 8) rfl))) rfl⟩
theorem im_Tape_rewind : Cond.instanceMethod y_Tape_rewind ∈ vv_G := vv_Gin (List.mem_append_right _ (List.mem_append_right _ (List.mem_append_left _ (List.mem_of_getElem? (i := 166) rfl)))) rfl
theorem se_Tape_rewind : Cond.selects y_Tape_rewind.cls y_Tape_rewind y_Tape_rewind ∈ vv_G := vv_Gin (List.mem_append_right _ (List.mem_append_right _ (List.mem_append_left _ (List.mem_of_getElem? (i := 167) rfl)))) rfl
theorem cv_Reader_45 : CV R_Reader 45 y_Tape_rewind b_Tape_rewind 1 none 0 := ⟨cb_Tape_rewind, im_Tape_rewind, se_Tape_rewind, vv_Gin (List.mem_append_right _ (List.mem_append_right _ (List.mem_append_left _ (List.mem_of_getElem? (i := 165) rfl)))) rfl⟩
theorem fa_Reader_41 : FA R_Reader 41 5 6 := ⟨_, _, _, rfl, i_Reader, by decide, vv_Gin (List.mem_append_right _ (List.mem_append_right _ (List.mem_append_left _ (List.mem_of_getElem? (i := 7) rfl)))) rfl⟩
theorem fa_Reader_68 : FA R_Reader 68 5 5 := ⟨_, _, _, rfl, i_Reader, by decide, vv_Gin (List.mem_append_right _ (List.mem_append_right _ (List.mem_append_left _ (List.mem_of_getElem? (i := 6) rfl)))) rfl⟩
theorem cb_Reader_tellsBeyondCounty : CB y_Reader_tellsBeyondCounty b_Reader_tellsBeyondCounty 2 (some .boolean) 0 := ⟨vv_Gin (List.mem_append_right _ (List.mem_append_right _ (List.mem_append_right _ (List.mem_append_left _ (List.mem_of_getElem? (i := 70) rfl))))) rfl, by decide +kernel, vv_Gin (List.mem_append_right _ (List.mem_append_left _ (List.mem_of_getElem? (i := 7) rfl))) rfl⟩
theorem im_Reader_tellsBeyondCounty : Cond.instanceMethod y_Reader_tellsBeyondCounty ∈ vv_G := vv_Gin (List.mem_append_right _ (List.mem_append_right _ (List.mem_append_right _ (List.mem_append_left _ (List.mem_of_getElem? (i := 69) rfl))))) rfl
theorem se_Reader_tellsBeyondCounty : Cond.selects y_Reader_tellsBeyondCounty.cls y_Reader_tellsBeyondCounty y_Reader_tellsBeyondCounty ∈ vv_G := vv_Gin (List.mem_append_left _ (List.mem_of_getElem? (i := 10) rfl)) rfl
theorem cv_Reader_58 : CV R_Reader 58 y_Reader_tellsBeyondCounty b_Reader_tellsBeyondCounty 2 (some .boolean) 0 := ⟨cb_Reader_tellsBeyondCounty, im_Reader_tellsBeyondCounty, se_Reader_tellsBeyondCounty, vv_Gin (List.mem_append_right _ (List.mem_append_right _ (List.mem_append_right _ (List.mem_append_left _ (List.mem_of_getElem? (i := 67) rfl))))) rfl⟩
theorem fa_Reader_61 : FA R_Reader 61 8 1 := ⟨_, _, _, rfl, i_Tape, by decide, vv_Gin (List.mem_append_right _ (List.mem_append_left _ (List.mem_of_getElem? (i := 213) rfl))) rfl⟩
theorem cb_Reader_readLine : CB y_Reader_readLine b_Reader_readLine 3 (some .boolean) 0 := ⟨vv_Gin (List.mem_append_right _ (List.mem_append_right _ (List.mem_append_left _ (List.mem_of_getElem? (i := 190) rfl)))) rfl, by decide +kernel, vv_Gin (List.mem_append_right _ (List.mem_append_left _ (List.mem_of_getElem? (i := 7) rfl))) rfl⟩
theorem im_Reader_readLine : Cond.instanceMethod y_Reader_readLine ∈ vv_G := vv_Gin (List.mem_append_right _ (List.mem_append_right _ (List.mem_append_left _ (List.mem_of_getElem? (i := 189) rfl)))) rfl
theorem se_Reader_readLine : Cond.selects y_Reader_readLine.cls y_Reader_readLine y_Reader_readLine ∈ vv_G := vv_Gin (List.mem_append_left _ (List.mem_of_getElem? (i := 2) rfl)) rfl
theorem cv_Reader_54 : CV R_Reader 54 y_Reader_readLine b_Reader_readLine 3 (some .boolean) 0 := ⟨cb_Reader_readLine, im_Reader_readLine, se_Reader_readLine, vv_Gin (List.mem_append_right _ (List.mem_append_right _ (List.mem_append_left _ (List.mem_of_getElem? (i := 187) rfl)))) rfl⟩
theorem cb_County_twitches : CB y_County_twitches b_County_twitches 4 (some .boolean) 3 := ⟨vv_Gin (List.mem_append_right _ (List.mem_append_right _ (List.mem_append_right _ (List.mem_append_left _ (List.mem_of_getElem? (i := 203) rfl))))) rfl, by decide +kernel, vv_Gin (List.mem_append_right _ (List.mem_append_left _ (List.mem_of_getElem? (i := 2) rfl))) rfl⟩
theorem im_County_twitches : Cond.instanceMethod y_County_twitches ∈ vv_G := vv_Gin (List.mem_append_right _ (List.mem_append_right _ (List.mem_append_right _ (List.mem_append_left _ (List.mem_of_getElem? (i := 201) rfl))))) rfl
theorem se_County_twitches : Cond.selects y_County_twitches.cls y_County_twitches y_County_twitches ∈ vv_G := vv_Gin (List.mem_append_right _ (List.mem_append_right _ (List.mem_append_right _ (List.mem_append_left _ (List.mem_of_getElem? (i := 202) rfl))))) rfl
theorem cv_Walks_40 : CV R_Walks 40 y_County_twitches b_County_twitches 4 (some .boolean) 3 := ⟨cb_County_twitches, im_County_twitches, se_County_twitches, vv_Gin (List.mem_append_right _ (List.mem_append_right _ (List.mem_append_right _ (List.mem_append_right _ (List.mem_append_left _ (List.mem_of_getElem? (i := 38) rfl)))))) rfl⟩
theorem fa_Walks_20 : FA R_Walks 20 1 0 := ⟨_, _, _, rfl, i_County, by decide, vv_Gin (List.mem_append_right _ (List.mem_append_left _ (List.mem_of_getElem? (i := 172) rfl))) rfl⟩
theorem fa_Walks_44 : FA R_Walks 44 2 4 := ⟨_, _, _, rfl, i_Land, by decide, vv_Gin (List.mem_append_right _ (List.mem_append_left _ (List.mem_of_getElem? (i := 60) rfl))) rfl⟩
theorem cb_Land_beside : CB y_Land_beside b_Land_beside 4 (some .int) 2 := ⟨vv_Gin (List.mem_append_right _ (List.mem_append_right _ (List.mem_append_right _ (List.mem_append_right _ (List.mem_append_left _ (List.mem_of_getElem? (i := 33) rfl)))))) rfl, by decide +kernel, vv_Gin (List.mem_append_right _ (List.mem_append_left _ (List.mem_of_getElem? (i := 3) rfl))) rfl⟩
theorem im_Land_beside : Cond.instanceMethod y_Land_beside ∈ vv_G := vv_Gin (List.mem_append_right _ (List.mem_append_right _ (List.mem_append_right _ (List.mem_append_right _ (List.mem_append_left _ (List.mem_of_getElem? (i := 31) rfl)))))) rfl
theorem se_Land_beside : Cond.selects y_Land_beside.cls y_Land_beside y_Land_beside ∈ vv_G := vv_Gin (List.mem_append_right _ (List.mem_append_right _ (List.mem_append_right _ (List.mem_append_right _ (List.mem_append_left _ (List.mem_of_getElem? (i := 32) rfl)))))) rfl
theorem cv_Walks_47 : CV R_Walks 47 y_Land_beside b_Land_beside 4 (some .int) 2 := ⟨cb_Land_beside, im_Land_beside, se_Land_beside, vv_Gin (List.mem_append_right _ (List.mem_append_right _ (List.mem_append_right _ (List.mem_append_right _ (List.mem_append_left _ (List.mem_of_getElem? (i := 30) rfl)))))) rfl⟩
theorem fa_Walks_11 : FA R_Walks 11 9 0 := ⟨_, _, _, rfl, i_Walks, by decide, vv_Gin (List.mem_append_right _ (List.mem_append_right _ (List.mem_append_left _ (List.mem_of_getElem? (i := 32) rfl)))) rfl⟩
theorem fa_Walks_16 : FA R_Walks 16 9 1 := ⟨_, _, _, rfl, i_Walks, by decide, vv_Gin (List.mem_append_right _ (List.mem_append_right _ (List.mem_append_left _ (List.mem_of_getElem? (i := 33) rfl)))) rfl⟩
theorem cb_Walks_bestBeside : CB y_Walks_bestBeside b_Walks_bestBeside 7 (some .int) 3 := ⟨vv_Gin (List.mem_append_right _ (List.mem_append_right _ (List.mem_append_right _ (List.mem_append_right _ (List.mem_append_left _ (List.mem_of_getElem? (i := 29) rfl)))))) rfl, by decide +kernel, vv_Gin (List.mem_append_right _ (List.mem_append_left _ (List.mem_of_getElem? (i := 9) rfl))) rfl⟩
theorem im_Walks_bestBeside : Cond.instanceMethod y_Walks_bestBeside ∈ vv_G := vv_Gin (List.mem_append_right _ (List.mem_append_right _ (List.mem_append_right _ (List.mem_append_right _ (List.mem_append_left _ (List.mem_of_getElem? (i := 28) rfl)))))) rfl
theorem se_Walks_bestBeside : Cond.selects y_Walks_bestBeside.cls y_Walks_bestBeside y_Walks_bestBeside ∈ vv_G := vv_Gin (List.mem_append_left _ (List.mem_of_getElem? (i := 12) rfl)) rfl
theorem cv_Walks_32 : CV R_Walks 32 y_Walks_bestBeside b_Walks_bestBeside 7 (some .int) 3 := ⟨cb_Walks_bestBeside, im_Walks_bestBeside, se_Walks_bestBeside, vv_Gin (List.mem_append_right _ (List.mem_append_right _ (List.mem_append_right _ (List.mem_append_right _ (List.mem_append_left _ (List.mem_of_getElem? (i := 26) rfl)))))) rfl⟩
theorem cv_Walks_26 : CV R_Walks 26 y_Land_cells b_Land_cells 1 (some .int) 0 := ⟨cb_Land_cells, im_Land_cells, se_Land_cells, vv_Gin (List.mem_append_right _ (List.mem_append_right _ (List.mem_append_right _ (List.mem_append_right _ (List.mem_append_left _ (List.mem_of_getElem? (i := 25) rfl)))))) rfl⟩
theorem cb_Walks_shownIn : CB y_Walks_shownIn b_Walks_shownIn 5 (some .int) 4 := ⟨vv_Gin (List.mem_append_right _ (List.mem_append_right _ (List.mem_append_right _ (List.mem_append_right _ (List.mem_append_left _ (List.mem_of_getElem? (i := 37) rfl)))))) rfl, by decide +kernel, vv_Gin (List.mem_append_right _ (List.mem_append_left _ (List.mem_of_getElem? (i := 9) rfl))) rfl⟩
theorem st_Walks_shownIn : Cond.static y_Walks_shownIn ∈ vv_G := vv_Gin (List.mem_append_right _ (List.mem_append_right _ (List.mem_append_right _ (List.mem_append_right _ (List.mem_append_left _ (List.mem_of_getElem? (i := 36) rfl)))))) rfl
theorem cs_Walks_36 : CS R_Walks 36 y_Walks_shownIn b_Walks_shownIn 5 (some .int) 4 := ⟨cb_Walks_shownIn, st_Walks_shownIn, Or.inl (vv_Gin (List.mem_append_right _ (List.mem_append_right _ (List.mem_append_right _ (List.mem_append_right _ (List.mem_append_left _ (List.mem_of_getElem? (i := 35) rfl)))))) rfl)⟩
theorem cv_Plans_41 : CV R_Plans 41 y_Land_cells b_Land_cells 1 (some .int) 0 := ⟨cb_Land_cells, im_Land_cells, se_Land_cells, vv_Gin (List.mem_append_right _ (List.mem_append_right _ (List.mem_append_right _ (List.mem_append_right _ (List.mem_append_left _ (List.mem_of_getElem? (i := 72) rfl)))))) rfl⟩
theorem fa_Plans_44 : FA R_Plans 44 2 7 := ⟨_, _, _, rfl, i_Land, by decide, vv_Gin (List.mem_append_right _ (List.mem_append_left _ (List.mem_of_getElem? (i := 72) rfl))) rfl⟩
theorem fa_Plans_47 : FA R_Plans 47 2 8 := ⟨_, _, _, rfl, i_Land, by decide, vv_Gin (List.mem_append_right _ (List.mem_append_left _ (List.mem_of_getElem? (i := 77) rfl))) rfl⟩
theorem fa_Plans_26 : FA R_Plans 26 2 6 := ⟨_, _, _, rfl, i_Land, by decide, vv_Gin (List.mem_append_right _ (List.mem_append_left _ (List.mem_of_getElem? (i := 68) rfl))) rfl⟩
theorem fp_Plans_15 : FP R_Plans 15 4 1 .int := ⟨_, _, _, t_Plans, rfl, i_Plans, by decide, vv_Gin (List.mem_append_right _ (List.mem_append_right _ (List.mem_append_left _ (List.mem_of_getElem? (i := 48) rfl)))) rfl, t_Plans_ok, n_Plans, rfl, t_Plans_ok 1 (by decide)⟩
theorem fp_Plans_19 : FP R_Plans 19 4 2 .int := ⟨_, _, _, t_Plans, rfl, i_Plans, by decide, vv_Gin (List.mem_append_right _ (List.mem_append_right _ (List.mem_append_left _ (List.mem_of_getElem? (i := 50) rfl)))) rfl, t_Plans_ok, n_Plans, rfl, t_Plans_ok 2 (by decide)⟩
theorem tc_1000 : (1000 : Int32).toInt = 1000 := rfl
theorem cb_Plans_likeliest : CB y_Plans_likeliest b_Plans_likeliest 6 (some .int) 3 := ⟨vv_Gin (List.mem_append_right _ (List.mem_append_right _ (List.mem_append_right _ (List.mem_append_right _ (List.mem_append_left _ (List.mem_of_getElem? (i := 71) rfl)))))) rfl, by decide +kernel, vv_Gin (List.mem_append_right _ (List.mem_append_left _ (List.mem_of_getElem? (i := 10) rfl))) rfl⟩
theorem st_Plans_likeliest : Cond.static y_Plans_likeliest ∈ vv_G := vv_Gin (List.mem_append_right _ (List.mem_append_right _ (List.mem_append_right _ (List.mem_append_right _ (List.mem_append_left _ (List.mem_of_getElem? (i := 70) rfl)))))) rfl
theorem cs_Plans_22 : CS R_Plans 22 y_Plans_likeliest b_Plans_likeliest 6 (some .int) 3 := ⟨cb_Plans_likeliest, st_Plans_likeliest, Or.inl (vv_Gin (List.mem_append_right _ (List.mem_append_right _ (List.mem_append_right _ (List.mem_append_right _ (List.mem_append_left _ (List.mem_of_getElem? (i := 69) rfl)))))) rfl)⟩
theorem fa_Plans_31 : FA R_Plans 31 2 3 := ⟨_, _, _, rfl, i_Land, by decide, vv_Gin (List.mem_append_right _ (List.mem_append_left _ (List.mem_of_getElem? (i := 55) rfl))) rfl⟩
theorem fa_Plans_34 : FA R_Plans 34 2 2 := ⟨_, _, _, rfl, i_Land, by decide, vv_Gin (List.mem_append_right _ (List.mem_append_left _ (List.mem_of_getElem? (i := 50) rfl))) rfl⟩
theorem fa_Plans_9 : FA R_Plans 9 4 0 := ⟨_, _, _, rfl, i_Plans, by decide, vv_Gin (List.mem_append_right _ (List.mem_append_right _ (List.mem_append_left _ (List.mem_of_getElem? (i := 46) rfl)))) rfl⟩
theorem fa_Plans_15 : FA R_Plans 15 4 1 := ⟨_, _, _, rfl, i_Plans, by decide, vv_Gin (List.mem_append_right _ (List.mem_append_right _ (List.mem_append_left _ (List.mem_of_getElem? (i := 48) rfl)))) rfl⟩
theorem fa_Plans_19 : FA R_Plans 19 4 2 := ⟨_, _, _, rfl, i_Plans, by decide, vv_Gin (List.mem_append_right _ (List.mem_append_right _ (List.mem_append_left _ (List.mem_of_getElem? (i := 50) rfl)))) rfl⟩
theorem tc_10000 : (10000 : Int32).toInt = 10000 := rfl
theorem wm_Plans_50 : Cond.methodLink R_Plans 50 Lib.Math.max.name ∈ vv_G := vv_Gin (List.mem_append_right _ (List.mem_append_right _ (List.mem_append_right _ (List.mem_append_right _ (List.mem_append_left _ (List.mem_of_getElem? (i := 81) (by decide +kernel))))))) (by decide +kernel)
theorem cb_Plans_commonDivisor : CB y_Plans_commonDivisor b_Plans_commonDivisor 5 (some .int) 0 := ⟨vv_Gin (List.mem_append_right _ (List.mem_append_right _ (List.mem_append_right _ (List.mem_append_right _ (List.mem_append_left _ (List.mem_of_getElem? (i := 80) rfl)))))) rfl, by decide +kernel, vv_Gin (List.mem_append_right _ (List.mem_append_left _ (List.mem_of_getElem? (i := 10) rfl))) rfl⟩
theorem im_Plans_commonDivisor : Cond.instanceMethod y_Plans_commonDivisor ∈ vv_G := vv_Gin (List.mem_append_right _ (List.mem_append_right _ (List.mem_append_right _ (List.mem_append_right _ (List.mem_append_left _ (List.mem_of_getElem? (i := 79) rfl)))))) rfl
theorem se_Plans_commonDivisor : Cond.selects y_Plans_commonDivisor.cls y_Plans_commonDivisor y_Plans_commonDivisor ∈ vv_G := vv_Gin (List.mem_append_left _ (List.mem_of_getElem? (i := 13) rfl)) rfl
theorem cv_Plans_37 : CV R_Plans 37 y_Plans_commonDivisor b_Plans_commonDivisor 5 (some .int) 0 := ⟨cb_Plans_commonDivisor, im_Plans_commonDivisor, se_Plans_commonDivisor, vv_Gin (List.mem_append_right _ (List.mem_append_right _ (List.mem_append_right _ (List.mem_append_right _ (List.mem_append_left _ (List.mem_of_getElem? (i := 77) rfl)))))) rfl⟩
theorem fa_Beds_15 : FA R_Beds 15 0 2 := ⟨_, _, _, rfl, i_Beds, by decide, vv_Gin (List.mem_append_right _ (List.mem_append_right _ (List.mem_append_left _ (List.mem_of_getElem? (i := 66) rfl)))) rfl⟩
theorem fa_Beds_28 : FA R_Beds 28 0 3 := ⟨_, _, _, rfl, i_Beds, by decide, vv_Gin (List.mem_append_right _ (List.mem_append_right _ (List.mem_append_left _ (List.mem_of_getElem? (i := 67) rfl)))) rfl⟩
theorem fa_Beds_51 : FA R_Beds 51 0 1 := ⟨_, _, _, rfl, i_Beds, by decide, vv_Gin (List.mem_append_right _ (List.mem_append_right _ (List.mem_append_left _ (List.mem_of_getElem? (i := 65) rfl)))) rfl⟩
theorem fa_Beds_9 : FA R_Beds 9 0 0 := ⟨_, _, _, rfl, i_Beds, by decide, vv_Gin (List.mem_append_right _ (List.mem_append_right _ (List.mem_append_left _ (List.mem_of_getElem? (i := 64) rfl)))) rfl⟩
theorem fp_Beds_51 : FP R_Beds 51 0 1 .int := ⟨_, _, _, t_Beds, rfl, i_Beds, by decide, vv_Gin (List.mem_append_right _ (List.mem_append_right _ (List.mem_append_left _ (List.mem_of_getElem? (i := 65) rfl)))) rfl, t_Beds_ok, n_Beds, rfl, t_Beds_ok 1 (by decide)⟩
theorem fa_Beds_58 : FA R_Beds 58 2 1 := ⟨_, _, _, rfl, i_Land, by decide, vv_Gin (List.mem_append_right _ (List.mem_append_left _ (List.mem_of_getElem? (i := 46) rfl))) rfl⟩
theorem fa_Beds_61 : FA R_Beds 61 2 0 := ⟨_, _, _, rfl, i_Land, by decide, vv_Gin (List.mem_append_right _ (List.mem_append_left _ (List.mem_of_getElem? (i := 42) rfl))) rfl⟩
theorem cb_Beds_listRowsAlong : CB y_Beds_listRowsAlong b_Beds_listRowsAlong 7 none 3 := ⟨vv_Gin (List.mem_append_right _ (List.mem_append_right _ (List.mem_append_right _ (List.mem_append_right _ (List.mem_append_left _ (List.mem_of_getElem? (i := 102) rfl)))))) rfl, by decide +kernel, vv_Gin (List.mem_append_right _ (List.mem_append_left _ (List.mem_of_getElem? (i := 11) rfl))) rfl⟩
theorem im_Beds_listRowsAlong : Cond.instanceMethod y_Beds_listRowsAlong ∈ vv_G := vv_Gin (List.mem_append_right _ (List.mem_append_right _ (List.mem_append_right _ (List.mem_append_right _ (List.mem_append_left _ (List.mem_of_getElem? (i := 101) rfl)))))) rfl
theorem se_Beds_listRowsAlong : Cond.selects y_Beds_listRowsAlong.cls y_Beds_listRowsAlong y_Beds_listRowsAlong ∈ vv_G := vv_Gin (List.mem_append_left _ (List.mem_of_getElem? (i := 15) rfl)) rfl
theorem cv_Beds_64 : CV R_Beds 64 y_Beds_listRowsAlong b_Beds_listRowsAlong 7 none 3 := ⟨cb_Beds_listRowsAlong, im_Beds_listRowsAlong, se_Beds_listRowsAlong, vv_Gin (List.mem_append_right _ (List.mem_append_right _ (List.mem_append_right _ (List.mem_append_right _ (List.mem_append_left _ (List.mem_of_getElem? (i := 99) rfl)))))) rfl⟩
theorem cb_Beds_listRows : CB y_Beds_listRows b_Beds_listRows 3 none 1 := ⟨vv_Gin (List.mem_append_right _ (List.mem_append_right _ (List.mem_append_right _ (List.mem_append_right _ (List.mem_append_left _ (List.mem_of_getElem? (i := 98) rfl)))))) rfl, by decide +kernel, vv_Gin (List.mem_append_right _ (List.mem_append_left _ (List.mem_of_getElem? (i := 11) rfl))) rfl⟩
theorem im_Beds_listRows : Cond.instanceMethod y_Beds_listRows ∈ vv_G := vv_Gin (List.mem_append_right _ (List.mem_append_right _ (List.mem_append_right _ (List.mem_append_right _ (List.mem_append_left _ (List.mem_of_getElem? (i := 97) rfl)))))) rfl
theorem se_Beds_listRows : Cond.selects y_Beds_listRows.cls y_Beds_listRows y_Beds_listRows ∈ vv_G := vv_Gin (List.mem_append_left _ (List.mem_of_getElem? (i := 14) rfl)) rfl
theorem cv_Beds_18 : CV R_Beds 18 y_Beds_listRows b_Beds_listRows 3 none 1 := ⟨cb_Beds_listRows, im_Beds_listRows, se_Beds_listRows, vv_Gin (List.mem_append_right _ (List.mem_append_right _ (List.mem_append_right _ (List.mem_append_right _ (List.mem_append_left _ (List.mem_of_getElem? (i := 95) rfl)))))) rfl⟩
theorem cv_Beds_22 : CV R_Beds 22 y_Land_wellBits b_Land_wellBits 3 (some .int) 0 := ⟨cb_Land_wellBits, im_Land_wellBits, se_Land_wellBits, vv_Gin (List.mem_append_right _ (List.mem_append_right _ (List.mem_append_right _ (List.mem_append_right _ (List.mem_append_left _ (List.mem_of_getElem? (i := 103) rfl)))))) rfl⟩
theorem fp_Beds_28 : FP R_Beds 28 0 3 .int := ⟨_, _, _, t_Beds, rfl, i_Beds, by decide, vv_Gin (List.mem_append_right _ (List.mem_append_right _ (List.mem_append_left _ (List.mem_of_getElem? (i := 67) rfl)))) rfl, t_Beds_ok, n_Beds, rfl, t_Beds_ok 3 (by decide)⟩
theorem fp_Beds_32 : FP R_Beds 32 0 4 .int := ⟨_, _, _, t_Beds, rfl, i_Beds, by decide, vv_Gin (List.mem_append_right _ (List.mem_append_right _ (List.mem_append_left _ (List.mem_of_getElem? (i := 68) rfl)))) rfl, t_Beds_ok, n_Beds, rfl, t_Beds_ok 4 (by decide)⟩
theorem cv_Beds_35 : CV R_Beds 35 y_Land_allBits b_Land_allBits 1 (some .int) 0 := ⟨cb_Land_allBits, im_Land_allBits, se_Land_allBits, vv_Gin (List.mem_append_right _ (List.mem_append_right _ (List.mem_append_right _ (List.mem_append_right _ (List.mem_append_left _ (List.mem_of_getElem? (i := 104) rfl)))))) rfl⟩
theorem fp_Beds_38 : FP R_Beds 38 0 5 .int := ⟨_, _, _, t_Beds, rfl, i_Beds, by decide, vv_Gin (List.mem_append_right _ (List.mem_append_right _ (List.mem_append_left _ (List.mem_of_getElem? (i := 70) rfl)))) rfl, t_Beds_ok, n_Beds, rfl, t_Beds_ok 5 (by decide)⟩
theorem fp_Beds_41 : FP R_Beds 41 0 6 .int := ⟨_, _, _, t_Beds, rfl, i_Beds, by decide, vv_Gin (List.mem_append_right _ (List.mem_append_right _ (List.mem_append_left _ (List.mem_of_getElem? (i := 72) rfl)))) rfl, t_Beds_ok, n_Beds, rfl, t_Beds_ok 6 (by decide)⟩
theorem fp_Beds_44 : FP R_Beds 44 0 7 .int := ⟨_, _, _, t_Beds, rfl, i_Beds, by decide, vv_Gin (List.mem_append_right _ (List.mem_append_right _ (List.mem_append_left _ (List.mem_of_getElem? (i := 74) rfl)))) rfl, t_Beds_ok, n_Beds, rfl, t_Beds_ok 7 (by decide)⟩
theorem cb_Land_boredBits : CB y_Land_boredBits b_Land_boredBits 4 (some .int) 1 := ⟨vv_Gin (List.mem_append_right _ (List.mem_append_right _ (List.mem_append_right _ (List.mem_append_right _ (List.mem_append_left _ (List.mem_of_getElem? (i := 108) rfl)))))) rfl, by decide +kernel, vv_Gin (List.mem_append_right _ (List.mem_append_left _ (List.mem_of_getElem? (i := 3) rfl))) rfl⟩
theorem im_Land_boredBits : Cond.instanceMethod y_Land_boredBits ∈ vv_G := vv_Gin (List.mem_append_right _ (List.mem_append_right _ (List.mem_append_right _ (List.mem_append_right _ (List.mem_append_left _ (List.mem_of_getElem? (i := 106) rfl)))))) rfl
theorem se_Land_boredBits : Cond.selects y_Land_boredBits.cls y_Land_boredBits y_Land_boredBits ∈ vv_G := vv_Gin (List.mem_append_right _ (List.mem_append_right _ (List.mem_append_right _ (List.mem_append_right _ (List.mem_append_left _ (List.mem_of_getElem? (i := 107) rfl)))))) rfl
theorem cv_Beds_47 : CV R_Beds 47 y_Land_boredBits b_Land_boredBits 4 (some .int) 1 := ⟨cb_Land_boredBits, im_Land_boredBits, se_Land_boredBits, vv_Gin (List.mem_append_right _ (List.mem_append_right _ (List.mem_append_right _ (List.mem_append_right _ (List.mem_append_left _ (List.mem_of_getElem? (i := 105) rfl)))))) rfl⟩
theorem cb_Beds_isFitting : CB y_Beds_isFitting b_Beds_isFitting 3 (some .boolean) 2 := ⟨vv_Gin (List.mem_append_right _ (List.mem_append_right _ (List.mem_append_right _ (List.mem_append_right _ (List.mem_append_left _ (List.mem_of_getElem? (i := 112) rfl)))))) rfl, by decide +kernel, vv_Gin (List.mem_append_right _ (List.mem_append_left _ (List.mem_of_getElem? (i := 11) rfl))) rfl⟩
theorem im_Beds_isFitting : Cond.instanceMethod y_Beds_isFitting ∈ vv_G := vv_Gin (List.mem_append_right _ (List.mem_append_right _ (List.mem_append_right _ (List.mem_append_right _ (List.mem_append_left _ (List.mem_of_getElem? (i := 111) rfl)))))) rfl
theorem se_Beds_isFitting : Cond.selects y_Beds_isFitting.cls y_Beds_isFitting y_Beds_isFitting ∈ vv_G := vv_Gin (List.mem_append_left _ (List.mem_of_getElem? (i := 16) rfl)) rfl
theorem cv_Beds_54 : CV R_Beds 54 y_Beds_isFitting b_Beds_isFitting 3 (some .boolean) 2 := ⟨cb_Beds_isFitting, im_Beds_isFitting, se_Beds_isFitting, vv_Gin (List.mem_append_right _ (List.mem_append_right _ (List.mem_append_right _ (List.mem_append_right _ (List.mem_append_left _ (List.mem_of_getElem? (i := 109) rfl)))))) rfl⟩
theorem fa_Beds_32 : FA R_Beds 32 0 4 := ⟨_, _, _, rfl, i_Beds, by decide, vv_Gin (List.mem_append_right _ (List.mem_append_right _ (List.mem_append_left _ (List.mem_of_getElem? (i := 68) rfl)))) rfl⟩
theorem fa_Beds_38 : FA R_Beds 38 0 5 := ⟨_, _, _, rfl, i_Beds, by decide, vv_Gin (List.mem_append_right _ (List.mem_append_right _ (List.mem_append_left _ (List.mem_of_getElem? (i := 70) rfl)))) rfl⟩
theorem fa_Beds_41 : FA R_Beds 41 0 6 := ⟨_, _, _, rfl, i_Beds, by decide, vv_Gin (List.mem_append_right _ (List.mem_append_right _ (List.mem_append_left _ (List.mem_of_getElem? (i := 72) rfl)))) rfl⟩
theorem d_Tape_isLetter_0 : decode b_Tape_isLetter 0 = .ok (.iload_n 0, 1) := dc_26 (by decide +kernel)
theorem d_Tape_isLetter_1 : decode b_Tape_isLetter 1 = .ok (.bipush 97, 2) := dc_16 (a := 97) (by decide +kernel) rfl
theorem d_Tape_isLetter_3 : decode b_Tape_isLetter 3 = .ok (.if_icmp .lt 13, 3) := dc_161 (a := 0) (b := 13) (by decide +kernel) rfl
theorem d_Tape_isLetter_6 : decode b_Tape_isLetter 6 = .ok (.iload_n 0, 1) := dc_26 (by decide +kernel)
theorem d_Tape_isLetter_7 : decode b_Tape_isLetter 7 = .ok (.bipush 122, 2) := dc_16 (a := 122) (by decide +kernel) rfl
theorem d_Tape_isLetter_9 : decode b_Tape_isLetter 9 = .ok (.if_icmp .gt 7, 3) := dc_163 (a := 0) (b := 7) (by decide +kernel) rfl
theorem d_Tape_isLetter_12 : decode b_Tape_isLetter 12 = .ok (.iconst 1, 1) := dc_4 (by decide +kernel)
theorem d_Tape_isLetter_13 : decode b_Tape_isLetter 13 = .ok (.goto 4, 3) := dc_167 (a := 0) (b := 4) (by decide +kernel) rfl
theorem d_Tape_isLetter_16 : decode b_Tape_isLetter 16 = .ok (.iconst 0, 1) := dc_3 (by decide +kernel)
theorem d_Tape_isLetter_17 : decode b_Tape_isLetter 17 = .ok (.ireturn, 1) := dc_172 (by decide +kernel)
theorem d_Tape_isFigure_0 : decode b_Tape_isFigure 0 = .ok (.iload_n 0, 1) := dc_26 (by decide +kernel)
theorem d_Tape_isFigure_1 : decode b_Tape_isFigure 1 = .ok (.bipush 48, 2) := dc_16 (a := 48) (by decide +kernel) rfl
theorem d_Tape_isFigure_3 : decode b_Tape_isFigure 3 = .ok (.if_icmp .lt 13, 3) := dc_161 (a := 0) (b := 13) (by decide +kernel) rfl
theorem d_Tape_isFigure_6 : decode b_Tape_isFigure 6 = .ok (.iload_n 0, 1) := dc_26 (by decide +kernel)
theorem d_Tape_isFigure_7 : decode b_Tape_isFigure 7 = .ok (.bipush 57, 2) := dc_16 (a := 57) (by decide +kernel) rfl
theorem d_Tape_isFigure_9 : decode b_Tape_isFigure 9 = .ok (.if_icmp .gt 7, 3) := dc_163 (a := 0) (b := 7) (by decide +kernel) rfl
theorem d_Tape_isFigure_12 : decode b_Tape_isFigure 12 = .ok (.iconst 1, 1) := dc_4 (by decide +kernel)
theorem d_Tape_isFigure_13 : decode b_Tape_isFigure 13 = .ok (.goto 4, 3) := dc_167 (a := 0) (b := 4) (by decide +kernel) rfl
theorem d_Tape_isFigure_16 : decode b_Tape_isFigure 16 = .ok (.iconst 0, 1) := dc_3 (by decide +kernel)
theorem d_Tape_isFigure_17 : decode b_Tape_isFigure 17 = .ok (.ireturn, 1) := dc_172 (by decide +kernel)
theorem d_Tape_rewind_0 : decode b_Tape_rewind 0 = .ok (.aload_n 0, 1) := dc_42 (by decide +kernel)
theorem d_Tape_rewind_1 : decode b_Tape_rewind 1 = .ok (.iconst 0, 1) := dc_3 (by decide +kernel)
theorem d_Tape_rewind_2 : decode b_Tape_rewind 2 = .ok (.putfield 15, 3) := dc_181 (a := 0) (b := 15) (by decide +kernel) rfl
theorem d_Tape_rewind_5 : decode b_Tape_rewind 5 = .ok (.return_, 1) := dc_177 (by decide +kernel)
theorem d_Tape_passLetters_0 : decode b_Tape_passLetters 0 = .ok (.aload_n 0, 1) := dc_42 (by decide +kernel)
theorem d_Tape_passLetters_1 : decode b_Tape_passLetters 1 = .ok (.getfield 15, 3) := dc_180 (a := 0) (b := 15) (by decide +kernel) rfl
theorem d_Tape_passLetters_4 : decode b_Tape_passLetters 4 = .ok (.aload_n 0, 1) := dc_42 (by decide +kernel)
theorem d_Tape_passLetters_5 : decode b_Tape_passLetters 5 = .ok (.getfield 22, 3) := dc_180 (a := 0) (b := 22) (by decide +kernel) rfl
theorem d_Tape_passLetters_8 : decode b_Tape_passLetters 8 = .ok (.if_icmp .ge 31, 3) := dc_162 (a := 0) (b := 31) (by decide +kernel) rfl
theorem d_Tape_passLetters_11 : decode b_Tape_passLetters 11 = .ok (.aload_n 0, 1) := dc_42 (by decide +kernel)
theorem d_Tape_passLetters_12 : decode b_Tape_passLetters 12 = .ok (.getfield 9, 3) := dc_180 (a := 0) (b := 9) (by decide +kernel) rfl
theorem d_Tape_passLetters_15 : decode b_Tape_passLetters 15 = .ok (.aload_n 0, 1) := dc_42 (by decide +kernel)
theorem d_Tape_passLetters_16 : decode b_Tape_passLetters 16 = .ok (.getfield 15, 3) := dc_180 (a := 0) (b := 15) (by decide +kernel) rfl
theorem d_Tape_passLetters_19 : decode b_Tape_passLetters 19 = .ok (.baload, 1) := dc_51 (by decide +kernel)
theorem d_Tape_passLetters_20 : decode b_Tape_passLetters 20 = .ok (.invokestatic 28, 3) := dc_184 (a := 0) (b := 28) (by decide +kernel) rfl
theorem d_Tape_passLetters_23 : decode b_Tape_passLetters 23 = .ok (.ifCond .eq 16, 3) := dc_153 (a := 0) (b := 16) (by decide +kernel) rfl
theorem d_Tape_passLetters_26 : decode b_Tape_passLetters 26 = .ok (.aload_n 0, 1) := dc_42 (by decide +kernel)
theorem d_Tape_passLetters_27 : decode b_Tape_passLetters 27 = .ok (.dup, 1) := dc_89 (by decide +kernel)
theorem d_Tape_passLetters_28 : decode b_Tape_passLetters 28 = .ok (.getfield 15, 3) := dc_180 (a := 0) (b := 15) (by decide +kernel) rfl
theorem d_Tape_passLetters_31 : decode b_Tape_passLetters 31 = .ok (.iconst 1, 1) := dc_4 (by decide +kernel)
theorem d_Tape_passLetters_32 : decode b_Tape_passLetters 32 = .ok (.iadd, 1) := dc_96 (by decide +kernel)
theorem d_Tape_passLetters_33 : decode b_Tape_passLetters 33 = .ok (.putfield 15, 3) := dc_181 (a := 0) (b := 15) (by decide +kernel) rfl
theorem d_Tape_passLetters_36 : decode b_Tape_passLetters 36 = .ok (.goto (-36), 3) := dc_167 (a := 255) (b := 220) (by decide +kernel) rfl
theorem d_Tape_passLetters_39 : decode b_Tape_passLetters 39 = .ok (.return_, 1) := dc_177 (by decide +kernel)
theorem d_Tape_passFigures_0 : decode b_Tape_passFigures 0 = .ok (.aload_n 0, 1) := dc_42 (by decide +kernel)
theorem d_Tape_passFigures_1 : decode b_Tape_passFigures 1 = .ok (.iconst 0, 1) := dc_3 (by decide +kernel)
theorem d_Tape_passFigures_2 : decode b_Tape_passFigures 2 = .ok (.putfield 51, 3) := dc_181 (a := 0) (b := 51) (by decide +kernel) rfl
theorem d_Tape_passFigures_5 : decode b_Tape_passFigures 5 = .ok (.aload_n 0, 1) := dc_42 (by decide +kernel)
theorem d_Tape_passFigures_6 : decode b_Tape_passFigures 6 = .ok (.getfield 15, 3) := dc_180 (a := 0) (b := 15) (by decide +kernel) rfl
theorem d_Tape_passFigures_9 : decode b_Tape_passFigures 9 = .ok (.aload_n 0, 1) := dc_42 (by decide +kernel)
theorem d_Tape_passFigures_10 : decode b_Tape_passFigures 10 = .ok (.getfield 22, 3) := dc_180 (a := 0) (b := 22) (by decide +kernel) rfl
theorem d_Tape_passFigures_13 : decode b_Tape_passFigures 13 = .ok (.if_icmp .ge 55, 3) := dc_162 (a := 0) (b := 55) (by decide +kernel) rfl
theorem d_Tape_passFigures_16 : decode b_Tape_passFigures 16 = .ok (.aload_n 0, 1) := dc_42 (by decide +kernel)
theorem d_Tape_passFigures_17 : decode b_Tape_passFigures 17 = .ok (.getfield 9, 3) := dc_180 (a := 0) (b := 9) (by decide +kernel) rfl
theorem d_Tape_passFigures_20 : decode b_Tape_passFigures 20 = .ok (.aload_n 0, 1) := dc_42 (by decide +kernel)
theorem d_Tape_passFigures_21 : decode b_Tape_passFigures 21 = .ok (.getfield 15, 3) := dc_180 (a := 0) (b := 15) (by decide +kernel) rfl
theorem d_Tape_passFigures_24 : decode b_Tape_passFigures 24 = .ok (.baload, 1) := dc_51 (by decide +kernel)
theorem d_Tape_passFigures_25 : decode b_Tape_passFigures 25 = .ok (.invokestatic 35, 3) := dc_184 (a := 0) (b := 35) (by decide +kernel) rfl
theorem d_Tape_passFigures_28 : decode b_Tape_passFigures 28 = .ok (.ifCond .eq 40, 3) := dc_153 (a := 0) (b := 40) (by decide +kernel) rfl
theorem d_Tape_passFigures_31 : decode b_Tape_passFigures 31 = .ok (.aload_n 0, 1) := dc_42 (by decide +kernel)
theorem d_Tape_passFigures_32 : decode b_Tape_passFigures 32 = .ok (.bipush 10, 2) := dc_16 (a := 10) (by decide +kernel) rfl
theorem d_Tape_passFigures_34 : decode b_Tape_passFigures 34 = .ok (.aload_n 0, 1) := dc_42 (by decide +kernel)
theorem d_Tape_passFigures_35 : decode b_Tape_passFigures 35 = .ok (.getfield 51, 3) := dc_180 (a := 0) (b := 51) (by decide +kernel) rfl
theorem d_Tape_passFigures_38 : decode b_Tape_passFigures 38 = .ok (.imul, 1) := dc_104 (by decide +kernel)
theorem d_Tape_passFigures_39 : decode b_Tape_passFigures 39 = .ok (.aload_n 0, 1) := dc_42 (by decide +kernel)
theorem d_Tape_passFigures_40 : decode b_Tape_passFigures 40 = .ok (.getfield 9, 3) := dc_180 (a := 0) (b := 9) (by decide +kernel) rfl
theorem d_Tape_passFigures_43 : decode b_Tape_passFigures 43 = .ok (.aload_n 0, 1) := dc_42 (by decide +kernel)
theorem d_Tape_passFigures_44 : decode b_Tape_passFigures 44 = .ok (.getfield 15, 3) := dc_180 (a := 0) (b := 15) (by decide +kernel) rfl
theorem d_Tape_passFigures_47 : decode b_Tape_passFigures 47 = .ok (.baload, 1) := dc_51 (by decide +kernel)
theorem d_Tape_passFigures_48 : decode b_Tape_passFigures 48 = .ok (.iadd, 1) := dc_96 (by decide +kernel)
theorem d_Tape_passFigures_49 : decode b_Tape_passFigures 49 = .ok (.bipush 48, 2) := dc_16 (a := 48) (by decide +kernel) rfl
theorem d_Tape_passFigures_51 : decode b_Tape_passFigures 51 = .ok (.isub, 1) := dc_100 (by decide +kernel)
theorem d_Tape_passFigures_52 : decode b_Tape_passFigures 52 = .ok (.putfield 51, 3) := dc_181 (a := 0) (b := 51) (by decide +kernel) rfl
theorem d_Tape_passFigures_55 : decode b_Tape_passFigures 55 = .ok (.aload_n 0, 1) := dc_42 (by decide +kernel)
theorem d_Tape_passFigures_56 : decode b_Tape_passFigures 56 = .ok (.dup, 1) := dc_89 (by decide +kernel)
theorem d_Tape_passFigures_57 : decode b_Tape_passFigures 57 = .ok (.getfield 15, 3) := dc_180 (a := 0) (b := 15) (by decide +kernel) rfl
theorem d_Tape_passFigures_60 : decode b_Tape_passFigures 60 = .ok (.iconst 1, 1) := dc_4 (by decide +kernel)
theorem d_Tape_passFigures_61 : decode b_Tape_passFigures 61 = .ok (.iadd, 1) := dc_96 (by decide +kernel)
theorem d_Tape_passFigures_62 : decode b_Tape_passFigures 62 = .ok (.putfield 15, 3) := dc_181 (a := 0) (b := 15) (by decide +kernel) rfl
theorem d_Tape_passFigures_65 : decode b_Tape_passFigures 65 = .ok (.goto (-60), 3) := dc_167 (a := 255) (b := 196) (by decide +kernel) rfl
theorem d_Tape_passFigures_68 : decode b_Tape_passFigures 68 = .ok (.return_, 1) := dc_177 (by decide +kernel)
theorem d_Tape_advance_0 : decode b_Tape_advance 0 = .ok (.aload_n 0, 1) := dc_42 (by decide +kernel)
theorem d_Tape_advance_1 : decode b_Tape_advance 1 = .ok (.aload_n 0, 1) := dc_42 (by decide +kernel)
theorem d_Tape_advance_2 : decode b_Tape_advance 2 = .ok (.getfield 15, 3) := dc_180 (a := 0) (b := 15) (by decide +kernel) rfl
theorem d_Tape_advance_5 : decode b_Tape_advance 5 = .ok (.putfield 19, 3) := dc_181 (a := 0) (b := 19) (by decide +kernel) rfl
theorem d_Tape_advance_8 : decode b_Tape_advance 8 = .ok (.aload_n 0, 1) := dc_42 (by decide +kernel)
theorem d_Tape_advance_9 : decode b_Tape_advance 9 = .ok (.getfield 19, 3) := dc_180 (a := 0) (b := 19) (by decide +kernel) rfl
theorem d_Tape_advance_12 : decode b_Tape_advance 12 = .ok (.aload_n 0, 1) := dc_42 (by decide +kernel)
theorem d_Tape_advance_13 : decode b_Tape_advance 13 = .ok (.getfield 22, 3) := dc_180 (a := 0) (b := 22) (by decide +kernel) rfl
theorem d_Tape_advance_16 : decode b_Tape_advance 16 = .ok (.if_icmp .ge 30, 3) := dc_162 (a := 0) (b := 30) (by decide +kernel) rfl
theorem d_Tape_advance_19 : decode b_Tape_advance 19 = .ok (.aload_n 0, 1) := dc_42 (by decide +kernel)
theorem d_Tape_advance_20 : decode b_Tape_advance 20 = .ok (.getfield 9, 3) := dc_180 (a := 0) (b := 9) (by decide +kernel) rfl
theorem d_Tape_advance_23 : decode b_Tape_advance 23 = .ok (.aload_n 0, 1) := dc_42 (by decide +kernel)
theorem d_Tape_advance_24 : decode b_Tape_advance 24 = .ok (.getfield 19, 3) := dc_180 (a := 0) (b := 19) (by decide +kernel) rfl
theorem d_Tape_advance_27 : decode b_Tape_advance 27 = .ok (.baload, 1) := dc_51 (by decide +kernel)
theorem d_Tape_advance_28 : decode b_Tape_advance 28 = .ok (.bipush 32, 2) := dc_16 (a := 32) (by decide +kernel) rfl
theorem d_Tape_advance_30 : decode b_Tape_advance 30 = .ok (.if_icmp .ne 16, 3) := dc_160 (a := 0) (b := 16) (by decide +kernel) rfl
theorem d_Tape_advance_33 : decode b_Tape_advance 33 = .ok (.aload_n 0, 1) := dc_42 (by decide +kernel)
theorem d_Tape_advance_34 : decode b_Tape_advance 34 = .ok (.dup, 1) := dc_89 (by decide +kernel)
theorem d_Tape_advance_35 : decode b_Tape_advance 35 = .ok (.getfield 19, 3) := dc_180 (a := 0) (b := 19) (by decide +kernel) rfl
theorem d_Tape_advance_38 : decode b_Tape_advance 38 = .ok (.iconst 1, 1) := dc_4 (by decide +kernel)
theorem d_Tape_advance_39 : decode b_Tape_advance 39 = .ok (.iadd, 1) := dc_96 (by decide +kernel)
theorem d_Tape_advance_40 : decode b_Tape_advance 40 = .ok (.putfield 19, 3) := dc_181 (a := 0) (b := 19) (by decide +kernel) rfl
theorem d_Tape_advance_43 : decode b_Tape_advance 43 = .ok (.goto (-35), 3) := dc_167 (a := 255) (b := 221) (by decide +kernel) rfl
theorem d_Tape_advance_46 : decode b_Tape_advance 46 = .ok (.aload_n 0, 1) := dc_42 (by decide +kernel)
theorem d_Tape_advance_47 : decode b_Tape_advance 47 = .ok (.aload_n 0, 1) := dc_42 (by decide +kernel)
theorem d_Tape_advance_48 : decode b_Tape_advance 48 = .ok (.getfield 19, 3) := dc_180 (a := 0) (b := 19) (by decide +kernel) rfl
theorem d_Tape_advance_51 : decode b_Tape_advance 51 = .ok (.putfield 15, 3) := dc_181 (a := 0) (b := 15) (by decide +kernel) rfl
theorem d_Tape_advance_54 : decode b_Tape_advance 54 = .ok (.aload_n 0, 1) := dc_42 (by decide +kernel)
theorem d_Tape_advance_55 : decode b_Tape_advance 55 = .ok (.getfield 19, 3) := dc_180 (a := 0) (b := 19) (by decide +kernel) rfl
theorem d_Tape_advance_58 : decode b_Tape_advance 58 = .ok (.aload_n 0, 1) := dc_42 (by decide +kernel)
theorem d_Tape_advance_59 : decode b_Tape_advance 59 = .ok (.getfield 22, 3) := dc_180 (a := 0) (b := 22) (by decide +kernel) rfl
theorem d_Tape_advance_62 : decode b_Tape_advance 62 = .ok (.if_icmp .lt 11, 3) := dc_161 (a := 0) (b := 11) (by decide +kernel) rfl
theorem d_Tape_advance_65 : decode b_Tape_advance 65 = .ok (.aload_n 0, 1) := dc_42 (by decide +kernel)
theorem d_Tape_advance_66 : decode b_Tape_advance 66 = .ok (.iconst 0, 1) := dc_3 (by decide +kernel)
theorem d_Tape_advance_67 : decode b_Tape_advance 67 = .ok (.putfield 25, 3) := dc_181 (a := 0) (b := 25) (by decide +kernel) rfl
theorem d_Tape_advance_70 : decode b_Tape_advance 70 = .ok (.goto 111, 3) := dc_167 (a := 0) (b := 111) (by decide +kernel) rfl
theorem d_Tape_advance_73 : decode b_Tape_advance 73 = .ok (.aload_n 0, 1) := dc_42 (by decide +kernel)
theorem d_Tape_advance_74 : decode b_Tape_advance 74 = .ok (.getfield 9, 3) := dc_180 (a := 0) (b := 9) (by decide +kernel) rfl
theorem d_Tape_advance_77 : decode b_Tape_advance 77 = .ok (.aload_n 0, 1) := dc_42 (by decide +kernel)
theorem d_Tape_advance_78 : decode b_Tape_advance 78 = .ok (.getfield 19, 3) := dc_180 (a := 0) (b := 19) (by decide +kernel) rfl
theorem d_Tape_advance_81 : decode b_Tape_advance 81 = .ok (.baload, 1) := dc_51 (by decide +kernel)
theorem d_Tape_advance_82 : decode b_Tape_advance 82 = .ok (.bipush 59, 2) := dc_16 (a := 59) (by decide +kernel) rfl
theorem d_Tape_advance_84 : decode b_Tape_advance 84 = .ok (.if_icmp .ne 21, 3) := dc_160 (a := 0) (b := 21) (by decide +kernel) rfl
theorem d_Tape_advance_87 : decode b_Tape_advance 87 = .ok (.aload_n 0, 1) := dc_42 (by decide +kernel)
theorem d_Tape_advance_88 : decode b_Tape_advance 88 = .ok (.iconst 3, 1) := dc_6 (by decide +kernel)
theorem d_Tape_advance_89 : decode b_Tape_advance 89 = .ok (.putfield 25, 3) := dc_181 (a := 0) (b := 25) (by decide +kernel) rfl
theorem d_Tape_advance_92 : decode b_Tape_advance 92 = .ok (.aload_n 0, 1) := dc_42 (by decide +kernel)
theorem d_Tape_advance_93 : decode b_Tape_advance 93 = .ok (.aload_n 0, 1) := dc_42 (by decide +kernel)
theorem d_Tape_advance_94 : decode b_Tape_advance 94 = .ok (.getfield 19, 3) := dc_180 (a := 0) (b := 19) (by decide +kernel) rfl
theorem d_Tape_advance_97 : decode b_Tape_advance 97 = .ok (.iconst 1, 1) := dc_4 (by decide +kernel)
theorem d_Tape_advance_98 : decode b_Tape_advance 98 = .ok (.iadd, 1) := dc_96 (by decide +kernel)
theorem d_Tape_advance_99 : decode b_Tape_advance 99 = .ok (.putfield 15, 3) := dc_181 (a := 0) (b := 15) (by decide +kernel) rfl
theorem d_Tape_advance_102 : decode b_Tape_advance 102 = .ok (.goto 79, 3) := dc_167 (a := 0) (b := 79) (by decide +kernel) rfl
theorem d_Tape_advance_105 : decode b_Tape_advance 105 = .ok (.aload_n 0, 1) := dc_42 (by decide +kernel)
theorem d_Tape_advance_106 : decode b_Tape_advance 106 = .ok (.getfield 9, 3) := dc_180 (a := 0) (b := 9) (by decide +kernel) rfl
theorem d_Tape_advance_109 : decode b_Tape_advance 109 = .ok (.aload_n 0, 1) := dc_42 (by decide +kernel)
theorem d_Tape_advance_110 : decode b_Tape_advance 110 = .ok (.getfield 19, 3) := dc_180 (a := 0) (b := 19) (by decide +kernel) rfl
theorem d_Tape_advance_113 : decode b_Tape_advance 113 = .ok (.baload, 1) := dc_51 (by decide +kernel)
theorem d_Tape_advance_114 : decode b_Tape_advance 114 = .ok (.invokestatic 28, 3) := dc_184 (a := 0) (b := 28) (by decide +kernel) rfl
theorem d_Tape_advance_117 : decode b_Tape_advance 117 = .ok (.ifCond .eq 15, 3) := dc_153 (a := 0) (b := 15) (by decide +kernel) rfl
theorem d_Tape_advance_120 : decode b_Tape_advance 120 = .ok (.aload_n 0, 1) := dc_42 (by decide +kernel)
theorem d_Tape_advance_121 : decode b_Tape_advance 121 = .ok (.iconst 1, 1) := dc_4 (by decide +kernel)
theorem d_Tape_advance_122 : decode b_Tape_advance 122 = .ok (.putfield 25, 3) := dc_181 (a := 0) (b := 25) (by decide +kernel) rfl
theorem d_Tape_advance_125 : decode b_Tape_advance 125 = .ok (.aload_n 0, 1) := dc_42 (by decide +kernel)
theorem d_Tape_advance_126 : decode b_Tape_advance 126 = .ok (.invokevirtual 32, 3) := dc_182 (a := 0) (b := 32) (by decide +kernel) rfl
theorem d_Tape_advance_129 : decode b_Tape_advance 129 = .ok (.goto 52, 3) := dc_167 (a := 0) (b := 52) (by decide +kernel) rfl
theorem d_Tape_advance_132 : decode b_Tape_advance 132 = .ok (.aload_n 0, 1) := dc_42 (by decide +kernel)
theorem d_Tape_advance_133 : decode b_Tape_advance 133 = .ok (.getfield 9, 3) := dc_180 (a := 0) (b := 9) (by decide +kernel) rfl
theorem d_Tape_advance_136 : decode b_Tape_advance 136 = .ok (.aload_n 0, 1) := dc_42 (by decide +kernel)
theorem d_Tape_advance_137 : decode b_Tape_advance 137 = .ok (.getfield 19, 3) := dc_180 (a := 0) (b := 19) (by decide +kernel) rfl
theorem d_Tape_advance_140 : decode b_Tape_advance 140 = .ok (.baload, 1) := dc_51 (by decide +kernel)
theorem d_Tape_advance_141 : decode b_Tape_advance 141 = .ok (.invokestatic 35, 3) := dc_184 (a := 0) (b := 35) (by decide +kernel) rfl
theorem d_Tape_advance_144 : decode b_Tape_advance 144 = .ok (.ifCond .eq 32, 3) := dc_153 (a := 0) (b := 32) (by decide +kernel) rfl
theorem d_Tape_advance_147 : decode b_Tape_advance 147 = .ok (.aload_n 0, 1) := dc_42 (by decide +kernel)
theorem d_Tape_advance_148 : decode b_Tape_advance 148 = .ok (.invokevirtual 38, 3) := dc_182 (a := 0) (b := 38) (by decide +kernel) rfl
theorem d_Tape_advance_151 : decode b_Tape_advance 151 = .ok (.aload_n 0, 1) := dc_42 (by decide +kernel)
theorem d_Tape_advance_152 : decode b_Tape_advance 152 = .ok (.aload_n 0, 1) := dc_42 (by decide +kernel)
theorem d_Tape_advance_153 : decode b_Tape_advance 153 = .ok (.getfield 15, 3) := dc_180 (a := 0) (b := 15) (by decide +kernel) rfl
theorem d_Tape_advance_156 : decode b_Tape_advance 156 = .ok (.aload_n 0, 1) := dc_42 (by decide +kernel)
theorem d_Tape_advance_157 : decode b_Tape_advance 157 = .ok (.getfield 19, 3) := dc_180 (a := 0) (b := 19) (by decide +kernel) rfl
theorem d_Tape_advance_160 : decode b_Tape_advance 160 = .ok (.isub, 1) := dc_100 (by decide +kernel)
theorem d_Tape_advance_161 : decode b_Tape_advance 161 = .ok (.iconst 2, 1) := dc_5 (by decide +kernel)
theorem d_Tape_advance_162 : decode b_Tape_advance 162 = .ok (.if_icmp .le 7, 3) := dc_164 (a := 0) (b := 7) (by decide +kernel) rfl
theorem d_Tape_advance_165 : decode b_Tape_advance 165 = .ok (.iconst 4, 1) := dc_7 (by decide +kernel)
theorem d_Tape_advance_166 : decode b_Tape_advance 166 = .ok (.goto 4, 3) := dc_167 (a := 0) (b := 4) (by decide +kernel) rfl
theorem d_Tape_advance_169 : decode b_Tape_advance 169 = .ok (.iconst 2, 1) := dc_5 (by decide +kernel)
theorem d_Tape_advance_170 : decode b_Tape_advance 170 = .ok (.putfield 25, 3) := dc_181 (a := 0) (b := 25) (by decide +kernel) rfl
theorem d_Tape_advance_173 : decode b_Tape_advance 173 = .ok (.goto 8, 3) := dc_167 (a := 0) (b := 8) (by decide +kernel) rfl
theorem d_Tape_advance_176 : decode b_Tape_advance 176 = .ok (.aload_n 0, 1) := dc_42 (by decide +kernel)
theorem d_Tape_advance_177 : decode b_Tape_advance 177 = .ok (.iconst 4, 1) := dc_7 (by decide +kernel)
theorem d_Tape_advance_178 : decode b_Tape_advance 178 = .ok (.putfield 25, 3) := dc_181 (a := 0) (b := 25) (by decide +kernel) rfl
theorem d_Tape_advance_181 : decode b_Tape_advance 181 = .ok (.return_, 1) := dc_177 (by decide +kernel)
theorem d_Tape_isName_0 : decode b_Tape_isName 0 = .ok (.aload_n 1, 1) := dc_43 (by decide +kernel)
theorem d_Tape_isName_1 : decode b_Tape_isName 1 = .ok (.invokevirtual 41, 3) := dc_182 (a := 0) (b := 41) (by decide +kernel) rfl
theorem d_Tape_isName_4 : decode b_Tape_isName 4 = .ok (.istore_n 2, 1) := dc_61 (by decide +kernel)
theorem d_Tape_isName_5 : decode b_Tape_isName 5 = .ok (.aload_n 0, 1) := dc_42 (by decide +kernel)
theorem d_Tape_isName_6 : decode b_Tape_isName 6 = .ok (.getfield 25, 3) := dc_180 (a := 0) (b := 25) (by decide +kernel) rfl
theorem d_Tape_isName_9 : decode b_Tape_isName 9 = .ok (.iconst 1, 1) := dc_4 (by decide +kernel)
theorem d_Tape_isName_10 : decode b_Tape_isName 10 = .ok (.if_icmp .ne 16, 3) := dc_160 (a := 0) (b := 16) (by decide +kernel) rfl
theorem d_Tape_isName_13 : decode b_Tape_isName 13 = .ok (.aload_n 0, 1) := dc_42 (by decide +kernel)
theorem d_Tape_isName_14 : decode b_Tape_isName 14 = .ok (.getfield 15, 3) := dc_180 (a := 0) (b := 15) (by decide +kernel) rfl
theorem d_Tape_isName_17 : decode b_Tape_isName 17 = .ok (.aload_n 0, 1) := dc_42 (by decide +kernel)
theorem d_Tape_isName_18 : decode b_Tape_isName 18 = .ok (.getfield 19, 3) := dc_180 (a := 0) (b := 19) (by decide +kernel) rfl
theorem d_Tape_isName_21 : decode b_Tape_isName 21 = .ok (.isub, 1) := dc_100 (by decide +kernel)
theorem d_Tape_isName_22 : decode b_Tape_isName 22 = .ok (.iload_n 2, 1) := dc_28 (by decide +kernel)
theorem d_Tape_isName_23 : decode b_Tape_isName 23 = .ok (.if_icmp .eq 5, 3) := dc_159 (a := 0) (b := 5) (by decide +kernel) rfl
theorem d_Tape_isName_26 : decode b_Tape_isName 26 = .ok (.iconst 0, 1) := dc_3 (by decide +kernel)
theorem d_Tape_isName_27 : decode b_Tape_isName 27 = .ok (.ireturn, 1) := dc_172 (by decide +kernel)
theorem d_Tape_isName_28 : decode b_Tape_isName 28 = .ok (.iconst 0, 1) := dc_3 (by decide +kernel)
theorem d_Tape_isName_29 : decode b_Tape_isName 29 = .ok (.istore_n 3, 1) := dc_62 (by decide +kernel)
theorem d_Tape_isName_30 : decode b_Tape_isName 30 = .ok (.iload_n 3, 1) := dc_29 (by decide +kernel)
theorem d_Tape_isName_31 : decode b_Tape_isName 31 = .ok (.iload_n 2, 1) := dc_28 (by decide +kernel)
theorem d_Tape_isName_32 : decode b_Tape_isName 32 = .ok (.if_icmp .ge 30, 3) := dc_162 (a := 0) (b := 30) (by decide +kernel) rfl
theorem d_Tape_isName_35 : decode b_Tape_isName 35 = .ok (.aload_n 0, 1) := dc_42 (by decide +kernel)
theorem d_Tape_isName_36 : decode b_Tape_isName 36 = .ok (.getfield 9, 3) := dc_180 (a := 0) (b := 9) (by decide +kernel) rfl
theorem d_Tape_isName_39 : decode b_Tape_isName 39 = .ok (.aload_n 0, 1) := dc_42 (by decide +kernel)
theorem d_Tape_isName_40 : decode b_Tape_isName 40 = .ok (.getfield 19, 3) := dc_180 (a := 0) (b := 19) (by decide +kernel) rfl
theorem d_Tape_isName_43 : decode b_Tape_isName 43 = .ok (.iload_n 3, 1) := dc_29 (by decide +kernel)
theorem d_Tape_isName_44 : decode b_Tape_isName 44 = .ok (.iadd, 1) := dc_96 (by decide +kernel)
theorem d_Tape_isName_45 : decode b_Tape_isName 45 = .ok (.baload, 1) := dc_51 (by decide +kernel)
theorem d_Tape_isName_46 : decode b_Tape_isName 46 = .ok (.aload_n 1, 1) := dc_43 (by decide +kernel)
theorem d_Tape_isName_47 : decode b_Tape_isName 47 = .ok (.iload_n 3, 1) := dc_29 (by decide +kernel)
theorem d_Tape_isName_48 : decode b_Tape_isName 48 = .ok (.invokevirtual 47, 3) := dc_182 (a := 0) (b := 47) (by decide +kernel) rfl
theorem d_Tape_isName_51 : decode b_Tape_isName 51 = .ok (.if_icmp .eq 5, 3) := dc_159 (a := 0) (b := 5) (by decide +kernel) rfl
theorem d_Tape_isName_54 : decode b_Tape_isName 54 = .ok (.iconst 0, 1) := dc_3 (by decide +kernel)
theorem d_Tape_isName_55 : decode b_Tape_isName 55 = .ok (.ireturn, 1) := dc_172 (by decide +kernel)
theorem d_Tape_isName_56 : decode b_Tape_isName 56 = .ok (.iinc 3 1, 3) := dc_132 (a := 3) (b := 1) (by decide +kernel) rfl
theorem d_Tape_isName_59 : decode b_Tape_isName 59 = .ok (.goto (-29), 3) := dc_167 (a := 255) (b := 227) (by decide +kernel) rfl
theorem d_Tape_isName_62 : decode b_Tape_isName 62 = .ok (.iconst 1, 1) := dc_4 (by decide +kernel)
theorem d_Tape_isName_63 : decode b_Tape_isName 63 = .ok (.ireturn, 1) := dc_172 (by decide +kernel)
theorem d_Reader_lineName_0 : decode b_Reader_lineName 0 = .ok (.iload_n 0, 1) := dc_26 (by decide +kernel)
theorem d_Reader_lineName_1 : decode b_Reader_lineName 1 = .ok (.tableswitch 78 0 8 #[51, 54, 57, 60, 63, 66, 69, 72, 75], 51) := by decide +kernel
theorem d_Reader_lineName_52 : decode b_Reader_lineName 52 = .ok (.ldc 182, 2) := dc_18 (a := 182) (by decide +kernel) rfl
theorem d_Reader_lineName_54 : decode b_Reader_lineName 54 = .ok (.areturn, 1) := dc_176 (by decide +kernel)
theorem d_Reader_lineName_55 : decode b_Reader_lineName 55 = .ok (.ldc 184, 2) := dc_18 (a := 184) (by decide +kernel) rfl
theorem d_Reader_lineName_57 : decode b_Reader_lineName 57 = .ok (.areturn, 1) := dc_176 (by decide +kernel)
theorem d_Reader_lineName_58 : decode b_Reader_lineName 58 = .ok (.ldc 186, 2) := dc_18 (a := 186) (by decide +kernel) rfl
theorem d_Reader_lineName_60 : decode b_Reader_lineName 60 = .ok (.areturn, 1) := dc_176 (by decide +kernel)
theorem d_Reader_lineName_61 : decode b_Reader_lineName 61 = .ok (.ldc 187, 2) := dc_18 (a := 187) (by decide +kernel) rfl
theorem d_Reader_lineName_63 : decode b_Reader_lineName 63 = .ok (.areturn, 1) := dc_176 (by decide +kernel)
theorem d_Reader_lineName_64 : decode b_Reader_lineName 64 = .ok (.ldc 188, 2) := dc_18 (a := 188) (by decide +kernel) rfl
theorem d_Reader_lineName_66 : decode b_Reader_lineName 66 = .ok (.areturn, 1) := dc_176 (by decide +kernel)
theorem d_Reader_lineName_67 : decode b_Reader_lineName 67 = .ok (.ldc 190, 2) := dc_18 (a := 190) (by decide +kernel) rfl
theorem d_Reader_lineName_69 : decode b_Reader_lineName 69 = .ok (.areturn, 1) := dc_176 (by decide +kernel)
theorem d_Reader_lineName_70 : decode b_Reader_lineName 70 = .ok (.ldc 192, 2) := dc_18 (a := 192) (by decide +kernel) rfl
theorem d_Reader_lineName_72 : decode b_Reader_lineName 72 = .ok (.areturn, 1) := dc_176 (by decide +kernel)
theorem d_Reader_lineName_73 : decode b_Reader_lineName 73 = .ok (.ldc 193, 2) := dc_18 (a := 193) (by decide +kernel) rfl
theorem d_Reader_lineName_75 : decode b_Reader_lineName 75 = .ok (.areturn, 1) := dc_176 (by decide +kernel)
theorem d_Reader_lineName_76 : decode b_Reader_lineName 76 = .ok (.ldc 194, 2) := dc_18 (a := 194) (by decide +kernel) rfl
theorem d_Reader_lineName_78 : decode b_Reader_lineName 78 = .ok (.areturn, 1) := dc_176 (by decide +kernel)
theorem d_Reader_lineName_79 : decode b_Reader_lineName 79 = .ok (.ldc 196, 2) := dc_18 (a := 196) (by decide +kernel) rfl
theorem d_Reader_lineName_81 : decode b_Reader_lineName 81 = .ok (.areturn, 1) := dc_176 (by decide +kernel)
theorem d_Reader_natureName_0 : decode b_Reader_natureName 0 = .ok (.iload_n 0, 1) := dc_26 (by decide +kernel)
theorem d_Reader_natureName_1 : decode b_Reader_natureName 1 = .ok (.tableswitch 43 0 3 #[31, 34, 37, 40], 31) := by decide +kernel
theorem d_Reader_natureName_32 : decode b_Reader_natureName 32 = .ok (.ldc 198, 2) := dc_18 (a := 198) (by decide +kernel) rfl
theorem d_Reader_natureName_34 : decode b_Reader_natureName 34 = .ok (.areturn, 1) := dc_176 (by decide +kernel)
theorem d_Reader_natureName_35 : decode b_Reader_natureName 35 = .ok (.ldc 186, 2) := dc_18 (a := 186) (by decide +kernel) rfl
theorem d_Reader_natureName_37 : decode b_Reader_natureName 37 = .ok (.areturn, 1) := dc_176 (by decide +kernel)
theorem d_Reader_natureName_38 : decode b_Reader_natureName 38 = .ok (.ldc 199, 2) := dc_18 (a := 199) (by decide +kernel) rfl
theorem d_Reader_natureName_40 : decode b_Reader_natureName 40 = .ok (.areturn, 1) := dc_176 (by decide +kernel)
theorem d_Reader_natureName_41 : decode b_Reader_natureName 41 = .ok (.ldc 201, 2) := dc_18 (a := 201) (by decide +kernel) rfl
theorem d_Reader_natureName_43 : decode b_Reader_natureName 43 = .ok (.areturn, 1) := dc_176 (by decide +kernel)
theorem d_Reader_natureName_44 : decode b_Reader_natureName 44 = .ok (.ldc 203, 2) := dc_18 (a := 203) (by decide +kernel) rfl
theorem d_Reader_natureName_46 : decode b_Reader_natureName 46 = .ok (.areturn, 1) := dc_176 (by decide +kernel)
theorem d_Reader_lineBegun_0 : decode b_Reader_lineBegun 0 = .ok (.iconst 0, 1) := dc_3 (by decide +kernel)
theorem d_Reader_lineBegun_1 : decode b_Reader_lineBegun 1 = .ok (.istore_n 1, 1) := dc_60 (by decide +kernel)
theorem d_Reader_lineBegun_2 : decode b_Reader_lineBegun 2 = .ok (.iload_n 1, 1) := dc_27 (by decide +kernel)
theorem d_Reader_lineBegun_3 : decode b_Reader_lineBegun 3 = .ok (.bipush 10, 2) := dc_16 (a := 10) (by decide +kernel) rfl
theorem d_Reader_lineBegun_5 : decode b_Reader_lineBegun 5 = .ok (.if_icmp .ge 25, 3) := dc_162 (a := 0) (b := 25) (by decide +kernel) rfl
theorem d_Reader_lineBegun_8 : decode b_Reader_lineBegun 8 = .ok (.aload_n 0, 1) := dc_42 (by decide +kernel)
theorem d_Reader_lineBegun_9 : decode b_Reader_lineBegun 9 = .ok (.getfield 12, 3) := dc_180 (a := 0) (b := 12) (by decide +kernel) rfl
theorem d_Reader_lineBegun_12 : decode b_Reader_lineBegun 12 = .ok (.iload_n 1, 1) := dc_27 (by decide +kernel)
theorem d_Reader_lineBegun_13 : decode b_Reader_lineBegun 13 = .ok (.invokestatic 171, 3) := dc_184 (a := 0) (b := 171) (by decide +kernel) rfl
theorem d_Reader_lineBegun_16 : decode b_Reader_lineBegun 16 = .ok (.invokevirtual 175, 3) := dc_182 (a := 0) (b := 175) (by decide +kernel) rfl
theorem d_Reader_lineBegun_19 : decode b_Reader_lineBegun 19 = .ok (.ifCond .eq 5, 3) := dc_153 (a := 0) (b := 5) (by decide +kernel) rfl
theorem d_Reader_lineBegun_22 : decode b_Reader_lineBegun 22 = .ok (.iload_n 1, 1) := dc_27 (by decide +kernel)
theorem d_Reader_lineBegun_23 : decode b_Reader_lineBegun 23 = .ok (.ireturn, 1) := dc_172 (by decide +kernel)
theorem d_Reader_lineBegun_24 : decode b_Reader_lineBegun 24 = .ok (.iinc 1 1, 3) := dc_132 (a := 1) (b := 1) (by decide +kernel) rfl
theorem d_Reader_lineBegun_27 : decode b_Reader_lineBegun 27 = .ok (.goto (-25), 3) := dc_167 (a := 255) (b := 231) (by decide +kernel) rfl
theorem d_Reader_lineBegun_30 : decode b_Reader_lineBegun 30 = .ok (.iconst (-1), 1) := dc_2 (by decide +kernel)
theorem d_Reader_lineBegun_31 : decode b_Reader_lineBegun 31 = .ok (.ireturn, 1) := dc_172 (by decide +kernel)
theorem d_Reader_natureNamed_0 : decode b_Reader_natureNamed 0 = .ok (.iconst 0, 1) := dc_3 (by decide +kernel)
theorem d_Reader_natureNamed_1 : decode b_Reader_natureNamed 1 = .ok (.istore_n 1, 1) := dc_60 (by decide +kernel)
theorem d_Reader_natureNamed_2 : decode b_Reader_natureNamed 2 = .ok (.iload_n 1, 1) := dc_27 (by decide +kernel)
theorem d_Reader_natureNamed_3 : decode b_Reader_natureNamed 3 = .ok (.iconst 5, 1) := dc_8 (by decide +kernel)
theorem d_Reader_natureNamed_4 : decode b_Reader_natureNamed 4 = .ok (.if_icmp .ge 25, 3) := dc_162 (a := 0) (b := 25) (by decide +kernel) rfl
theorem d_Reader_natureNamed_7 : decode b_Reader_natureNamed 7 = .ok (.aload_n 0, 1) := dc_42 (by decide +kernel)
theorem d_Reader_natureNamed_8 : decode b_Reader_natureNamed 8 = .ok (.getfield 12, 3) := dc_180 (a := 0) (b := 12) (by decide +kernel) rfl
theorem d_Reader_natureNamed_11 : decode b_Reader_natureNamed 11 = .ok (.iload_n 1, 1) := dc_27 (by decide +kernel)
theorem d_Reader_natureNamed_12 : decode b_Reader_natureNamed 12 = .ok (.invokestatic 179, 3) := dc_184 (a := 0) (b := 179) (by decide +kernel) rfl
theorem d_Reader_natureNamed_15 : decode b_Reader_natureNamed 15 = .ok (.invokevirtual 175, 3) := dc_182 (a := 0) (b := 175) (by decide +kernel) rfl
theorem d_Reader_natureNamed_18 : decode b_Reader_natureNamed 18 = .ok (.ifCond .eq 5, 3) := dc_153 (a := 0) (b := 5) (by decide +kernel) rfl
theorem d_Reader_natureNamed_21 : decode b_Reader_natureNamed 21 = .ok (.iload_n 1, 1) := dc_27 (by decide +kernel)
theorem d_Reader_natureNamed_22 : decode b_Reader_natureNamed 22 = .ok (.ireturn, 1) := dc_172 (by decide +kernel)
theorem d_Reader_natureNamed_23 : decode b_Reader_natureNamed 23 = .ok (.iinc 1 1, 3) := dc_132 (a := 1) (b := 1) (by decide +kernel) rfl
theorem d_Reader_natureNamed_26 : decode b_Reader_natureNamed 26 = .ok (.goto (-24), 3) := dc_167 (a := 255) (b := 232) (by decide +kernel) rfl
theorem d_Reader_natureNamed_29 : decode b_Reader_natureNamed 29 = .ok (.iconst (-1), 1) := dc_2 (by decide +kernel)
theorem d_Reader_natureNamed_30 : decode b_Reader_natureNamed 30 = .ok (.ireturn, 1) := dc_172 (by decide +kernel)
theorem d_Reader_isRefused_0 : decode b_Reader_isRefused 0 = .ok (.aload_n 0, 1) := dc_42 (by decide +kernel)
theorem d_Reader_isRefused_1 : decode b_Reader_isRefused 1 = .ok (.iload_n 1, 1) := dc_27 (by decide +kernel)
theorem d_Reader_isRefused_2 : decode b_Reader_isRefused 2 = .ok (.putfield 41, 3) := dc_181 (a := 0) (b := 41) (by decide +kernel) rfl
theorem d_Reader_isRefused_5 : decode b_Reader_isRefused 5 = .ok (.aload_n 0, 1) := dc_42 (by decide +kernel)
theorem d_Reader_isRefused_6 : decode b_Reader_isRefused 6 = .ok (.iload_n 2, 1) := dc_28 (by decide +kernel)
theorem d_Reader_isRefused_7 : decode b_Reader_isRefused 7 = .ok (.putfield 68, 3) := dc_181 (a := 0) (b := 68) (by decide +kernel) rfl
theorem d_Reader_isRefused_10 : decode b_Reader_isRefused 10 = .ok (.iconst 0, 1) := dc_3 (by decide +kernel)
theorem d_Reader_isRefused_11 : decode b_Reader_isRefused 11 = .ok (.ireturn, 1) := dc_172 (by decide +kernel)
theorem d_Reader_isKind_0 : decode b_Reader_isKind 0 = .ok (.aload_n 0, 1) := dc_42 (by decide +kernel)
theorem d_Reader_isKind_1 : decode b_Reader_isKind 1 = .ok (.getfield 12, 3) := dc_180 (a := 0) (b := 12) (by decide +kernel) rfl
theorem d_Reader_isKind_4 : decode b_Reader_isKind 4 = .ok (.getfield 51, 3) := dc_180 (a := 0) (b := 51) (by decide +kernel) rfl
theorem d_Reader_isKind_7 : decode b_Reader_isKind 7 = .ok (.iconst 4, 1) := dc_7 (by decide +kernel)
theorem d_Reader_isKind_8 : decode b_Reader_isKind 8 = .ok (.if_icmp .ne 16, 3) := dc_160 (a := 0) (b := 16) (by decide +kernel) rfl
theorem d_Reader_isKind_11 : decode b_Reader_isKind 11 = .ok (.aload_n 0, 1) := dc_42 (by decide +kernel)
theorem d_Reader_isKind_12 : decode b_Reader_isKind 12 = .ok (.iconst 1, 1) := dc_4 (by decide +kernel)
theorem d_Reader_isKind_13 : decode b_Reader_isKind 13 = .ok (.aload_n 0, 1) := dc_42 (by decide +kernel)
theorem d_Reader_isKind_14 : decode b_Reader_isKind 14 = .ok (.getfield 12, 3) := dc_180 (a := 0) (b := 12) (by decide +kernel) rfl
theorem d_Reader_isKind_17 : decode b_Reader_isKind 17 = .ok (.getfield 81, 3) := dc_180 (a := 0) (b := 81) (by decide +kernel) rfl
theorem d_Reader_isKind_20 : decode b_Reader_isKind 20 = .ok (.invokevirtual 64, 3) := dc_182 (a := 0) (b := 64) (by decide +kernel) rfl
theorem d_Reader_isKind_23 : decode b_Reader_isKind 23 = .ok (.ireturn, 1) := dc_172 (by decide +kernel)
theorem d_Reader_isKind_24 : decode b_Reader_isKind 24 = .ok (.aload_n 0, 1) := dc_42 (by decide +kernel)
theorem d_Reader_isKind_25 : decode b_Reader_isKind 25 = .ok (.getfield 12, 3) := dc_180 (a := 0) (b := 12) (by decide +kernel) rfl
theorem d_Reader_isKind_28 : decode b_Reader_isKind 28 = .ok (.getfield 51, 3) := dc_180 (a := 0) (b := 51) (by decide +kernel) rfl
theorem d_Reader_isKind_31 : decode b_Reader_isKind 31 = .ok (.iload_n 1, 1) := dc_27 (by decide +kernel)
theorem d_Reader_isKind_32 : decode b_Reader_isKind 32 = .ok (.if_icmp .eq 18, 3) := dc_159 (a := 0) (b := 18) (by decide +kernel) rfl
theorem d_Reader_isKind_35 : decode b_Reader_isKind 35 = .ok (.aload_n 0, 1) := dc_42 (by decide +kernel)
theorem d_Reader_isKind_36 : decode b_Reader_isKind 36 = .ok (.iconst 2, 1) := dc_5 (by decide +kernel)
theorem d_Reader_isKind_37 : decode b_Reader_isKind 37 = .ok (.aload_n 0, 1) := dc_42 (by decide +kernel)
theorem d_Reader_isKind_38 : decode b_Reader_isKind 38 = .ok (.getfield 12, 3) := dc_180 (a := 0) (b := 12) (by decide +kernel) rfl
theorem d_Reader_isKind_41 : decode b_Reader_isKind 41 = .ok (.getfield 81, 3) := dc_180 (a := 0) (b := 81) (by decide +kernel) rfl
theorem d_Reader_isKind_44 : decode b_Reader_isKind 44 = .ok (.invokevirtual 64, 3) := dc_182 (a := 0) (b := 64) (by decide +kernel) rfl
theorem d_Reader_isKind_47 : decode b_Reader_isKind 47 = .ok (.ifCond .eq 7, 3) := dc_153 (a := 0) (b := 7) (by decide +kernel) rfl
theorem d_Reader_isKind_50 : decode b_Reader_isKind 50 = .ok (.iconst 1, 1) := dc_4 (by decide +kernel)
theorem d_Reader_isKind_51 : decode b_Reader_isKind 51 = .ok (.goto 4, 3) := dc_167 (a := 0) (b := 4) (by decide +kernel) rfl
theorem d_Reader_isKind_54 : decode b_Reader_isKind 54 = .ok (.iconst 0, 1) := dc_3 (by decide +kernel)
theorem d_Reader_isKind_55 : decode b_Reader_isKind 55 = .ok (.ireturn, 1) := dc_172 (by decide +kernel)
theorem d_Reader_isOnceOnly_0 : decode b_Reader_isOnceOnly 0 = .ok (.iload_n 0, 1) := dc_26 (by decide +kernel)
theorem d_Reader_isOnceOnly_1 : decode b_Reader_isOnceOnly 1 = .ok (.ifCond .eq 21, 3) := dc_153 (a := 0) (b := 21) (by decide +kernel) rfl
theorem d_Reader_isOnceOnly_4 : decode b_Reader_isOnceOnly 4 = .ok (.iload_n 0, 1) := dc_26 (by decide +kernel)
theorem d_Reader_isOnceOnly_5 : decode b_Reader_isOnceOnly 5 = .ok (.bipush 6, 2) := dc_16 (a := 6) (by decide +kernel) rfl
theorem d_Reader_isOnceOnly_7 : decode b_Reader_isOnceOnly 7 = .ok (.if_icmp .eq 15, 3) := dc_159 (a := 0) (b := 15) (by decide +kernel) rfl
theorem d_Reader_isOnceOnly_10 : decode b_Reader_isOnceOnly 10 = .ok (.iload_n 0, 1) := dc_26 (by decide +kernel)
theorem d_Reader_isOnceOnly_11 : decode b_Reader_isOnceOnly 11 = .ok (.bipush 7, 2) := dc_16 (a := 7) (by decide +kernel) rfl
theorem d_Reader_isOnceOnly_13 : decode b_Reader_isOnceOnly 13 = .ok (.if_icmp .eq 9, 3) := dc_159 (a := 0) (b := 9) (by decide +kernel) rfl
theorem d_Reader_isOnceOnly_16 : decode b_Reader_isOnceOnly 16 = .ok (.iload_n 0, 1) := dc_26 (by decide +kernel)
theorem d_Reader_isOnceOnly_17 : decode b_Reader_isOnceOnly 17 = .ok (.bipush 8, 2) := dc_16 (a := 8) (by decide +kernel) rfl
theorem d_Reader_isOnceOnly_19 : decode b_Reader_isOnceOnly 19 = .ok (.if_icmp .ne 7, 3) := dc_160 (a := 0) (b := 7) (by decide +kernel) rfl
theorem d_Reader_isOnceOnly_22 : decode b_Reader_isOnceOnly 22 = .ok (.iconst 1, 1) := dc_4 (by decide +kernel)
theorem d_Reader_isOnceOnly_23 : decode b_Reader_isOnceOnly 23 = .ok (.goto 4, 3) := dc_167 (a := 0) (b := 4) (by decide +kernel) rfl
theorem d_Reader_isOnceOnly_26 : decode b_Reader_isOnceOnly 26 = .ok (.iconst 0, 1) := dc_3 (by decide +kernel)
theorem d_Reader_isOnceOnly_27 : decode b_Reader_isOnceOnly 27 = .ok (.ireturn, 1) := dc_172 (by decide +kernel)
theorem d_Reader_isOfOne_0 : decode b_Reader_isOfOne 0 = .ok (.iload_n 0, 1) := dc_26 (by decide +kernel)
theorem d_Reader_isOfOne_1 : decode b_Reader_isOfOne 1 = .ok (.iconst 1, 1) := dc_4 (by decide +kernel)
theorem d_Reader_isOfOne_2 : decode b_Reader_isOfOne 2 = .ok (.if_icmp .lt 12, 3) := dc_161 (a := 0) (b := 12) (by decide +kernel) rfl
theorem d_Reader_isOfOne_5 : decode b_Reader_isOfOne 5 = .ok (.iload_n 0, 1) := dc_26 (by decide +kernel)
theorem d_Reader_isOfOne_6 : decode b_Reader_isOfOne 6 = .ok (.iconst 5, 1) := dc_8 (by decide +kernel)
theorem d_Reader_isOfOne_7 : decode b_Reader_isOfOne 7 = .ok (.if_icmp .gt 7, 3) := dc_163 (a := 0) (b := 7) (by decide +kernel) rfl
theorem d_Reader_isOfOne_10 : decode b_Reader_isOfOne 10 = .ok (.iconst 1, 1) := dc_4 (by decide +kernel)
theorem d_Reader_isOfOne_11 : decode b_Reader_isOfOne 11 = .ok (.goto 4, 3) := dc_167 (a := 0) (b := 4) (by decide +kernel) rfl
theorem d_Reader_isOfOne_14 : decode b_Reader_isOfOne 14 = .ok (.iconst 0, 1) := dc_3 (by decide +kernel)
theorem d_Reader_isOfOne_15 : decode b_Reader_isOfOne 15 = .ok (.ireturn, 1) := dc_172 (by decide +kernel)
theorem d_Reader_readNature_0 : decode b_Reader_readNature 0 = .ok (.aload_n 0, 1) := dc_42 (by decide +kernel)
theorem d_Reader_readNature_1 : decode b_Reader_readNature 1 = .ok (.getfield 12, 3) := dc_180 (a := 0) (b := 12) (by decide +kernel) rfl
theorem d_Reader_readNature_4 : decode b_Reader_readNature 4 = .ok (.invokevirtual 48, 3) := dc_182 (a := 0) (b := 48) (by decide +kernel) rfl
theorem d_Reader_readNature_7 : decode b_Reader_readNature 7 = .ok (.aload_n 0, 1) := dc_42 (by decide +kernel)
theorem d_Reader_readNature_8 : decode b_Reader_readNature 8 = .ok (.iconst 1, 1) := dc_4 (by decide +kernel)
theorem d_Reader_readNature_9 : decode b_Reader_readNature 9 = .ok (.invokevirtual 84, 3) := dc_182 (a := 0) (b := 84) (by decide +kernel) rfl
theorem d_Reader_readNature_12 : decode b_Reader_readNature 12 = .ok (.ifCond .ne 5, 3) := dc_154 (a := 0) (b := 5) (by decide +kernel) rfl
theorem d_Reader_readNature_15 : decode b_Reader_readNature 15 = .ok (.iconst 0, 1) := dc_3 (by decide +kernel)
theorem d_Reader_readNature_16 : decode b_Reader_readNature 16 = .ok (.ireturn, 1) := dc_172 (by decide +kernel)
theorem d_Reader_readNature_17 : decode b_Reader_readNature 17 = .ok (.aload_n 0, 1) := dc_42 (by decide +kernel)
theorem d_Reader_readNature_18 : decode b_Reader_readNature 18 = .ok (.aload_n 0, 1) := dc_42 (by decide +kernel)
theorem d_Reader_readNature_19 : decode b_Reader_readNature 19 = .ok (.invokevirtual 116, 3) := dc_182 (a := 0) (b := 116) (by decide +kernel) rfl
theorem d_Reader_readNature_22 : decode b_Reader_readNature 22 = .ok (.putfield 119, 3) := dc_181 (a := 0) (b := 119) (by decide +kernel) rfl
theorem d_Reader_readNature_25 : decode b_Reader_readNature 25 = .ok (.aload_n 0, 1) := dc_42 (by decide +kernel)
theorem d_Reader_readNature_26 : decode b_Reader_readNature 26 = .ok (.getfield 119, 3) := dc_180 (a := 0) (b := 119) (by decide +kernel) rfl
theorem d_Reader_readNature_29 : decode b_Reader_readNature 29 = .ok (.ifCond .ge 18, 3) := dc_156 (a := 0) (b := 18) (by decide +kernel) rfl
theorem d_Reader_readNature_32 : decode b_Reader_readNature 32 = .ok (.aload_n 0, 1) := dc_42 (by decide +kernel)
theorem d_Reader_readNature_33 : decode b_Reader_readNature 33 = .ok (.iconst 2, 1) := dc_5 (by decide +kernel)
theorem d_Reader_readNature_34 : decode b_Reader_readNature 34 = .ok (.aload_n 0, 1) := dc_42 (by decide +kernel)
theorem d_Reader_readNature_35 : decode b_Reader_readNature 35 = .ok (.getfield 12, 3) := dc_180 (a := 0) (b := 12) (by decide +kernel) rfl
theorem d_Reader_readNature_38 : decode b_Reader_readNature 38 = .ok (.getfield 81, 3) := dc_180 (a := 0) (b := 81) (by decide +kernel) rfl
theorem d_Reader_readNature_41 : decode b_Reader_readNature 41 = .ok (.invokevirtual 64, 3) := dc_182 (a := 0) (b := 64) (by decide +kernel) rfl
theorem d_Reader_readNature_44 : decode b_Reader_readNature 44 = .ok (.ifCond .eq 7, 3) := dc_153 (a := 0) (b := 7) (by decide +kernel) rfl
theorem d_Reader_readNature_47 : decode b_Reader_readNature 47 = .ok (.iconst 1, 1) := dc_4 (by decide +kernel)
theorem d_Reader_readNature_48 : decode b_Reader_readNature 48 = .ok (.goto 4, 3) := dc_167 (a := 0) (b := 4) (by decide +kernel) rfl
theorem d_Reader_readNature_51 : decode b_Reader_readNature 51 = .ok (.iconst 0, 1) := dc_3 (by decide +kernel)
theorem d_Reader_readNature_52 : decode b_Reader_readNature 52 = .ok (.ireturn, 1) := dc_172 (by decide +kernel)
theorem d_Reader_readNumber_0 : decode b_Reader_readNumber 0 = .ok (.aload_n 0, 1) := dc_42 (by decide +kernel)
theorem d_Reader_readNumber_1 : decode b_Reader_readNumber 1 = .ok (.getfield 12, 3) := dc_180 (a := 0) (b := 12) (by decide +kernel) rfl
theorem d_Reader_readNumber_4 : decode b_Reader_readNumber 4 = .ok (.invokevirtual 48, 3) := dc_182 (a := 0) (b := 48) (by decide +kernel) rfl
theorem d_Reader_readNumber_7 : decode b_Reader_readNumber 7 = .ok (.aload_n 0, 1) := dc_42 (by decide +kernel)
theorem d_Reader_readNumber_8 : decode b_Reader_readNumber 8 = .ok (.iconst 2, 1) := dc_5 (by decide +kernel)
theorem d_Reader_readNumber_9 : decode b_Reader_readNumber 9 = .ok (.invokevirtual 84, 3) := dc_182 (a := 0) (b := 84) (by decide +kernel) rfl
theorem d_Reader_readNumber_12 : decode b_Reader_readNumber 12 = .ok (.ifCond .ne 5, 3) := dc_154 (a := 0) (b := 5) (by decide +kernel) rfl
theorem d_Reader_readNumber_15 : decode b_Reader_readNumber 15 = .ok (.iconst 0, 1) := dc_3 (by decide +kernel)
theorem d_Reader_readNumber_16 : decode b_Reader_readNumber 16 = .ok (.ireturn, 1) := dc_172 (by decide +kernel)
theorem d_Reader_readNumber_17 : decode b_Reader_readNumber 17 = .ok (.aload_n 0, 1) := dc_42 (by decide +kernel)
theorem d_Reader_readNumber_18 : decode b_Reader_readNumber 18 = .ok (.getfield 12, 3) := dc_180 (a := 0) (b := 12) (by decide +kernel) rfl
theorem d_Reader_readNumber_21 : decode b_Reader_readNumber 21 = .ok (.getfield 122, 3) := dc_180 (a := 0) (b := 122) (by decide +kernel) rfl
theorem d_Reader_readNumber_24 : decode b_Reader_readNumber 24 = .ok (.istore_n 3, 1) := dc_62 (by decide +kernel)
theorem d_Reader_readNumber_25 : decode b_Reader_readNumber 25 = .ok (.iload_n 3, 1) := dc_29 (by decide +kernel)
theorem d_Reader_readNumber_26 : decode b_Reader_readNumber 26 = .ok (.getstatic 125, 3) := dc_178 (a := 0) (b := 125) (by decide +kernel) rfl
theorem d_Reader_readNumber_29 : decode b_Reader_readNumber 29 = .ok (.iconst 3, 1) := dc_6 (by decide +kernel)
theorem d_Reader_readNumber_30 : decode b_Reader_readNumber 30 = .ok (.iload_n 1, 1) := dc_27 (by decide +kernel)
theorem d_Reader_readNumber_31 : decode b_Reader_readNumber 31 = .ok (.imul, 1) := dc_104 (by decide +kernel)
theorem d_Reader_readNumber_32 : decode b_Reader_readNumber 32 = .ok (.iload_n 2, 1) := dc_28 (by decide +kernel)
theorem d_Reader_readNumber_33 : decode b_Reader_readNumber 33 = .ok (.iadd, 1) := dc_96 (by decide +kernel)
theorem d_Reader_readNumber_34 : decode b_Reader_readNumber 34 = .ok (.iaload, 1) := dc_46 (by decide +kernel)
theorem d_Reader_readNumber_35 : decode b_Reader_readNumber 35 = .ok (.if_icmp .lt 16, 3) := dc_161 (a := 0) (b := 16) (by decide +kernel) rfl
theorem d_Reader_readNumber_38 : decode b_Reader_readNumber 38 = .ok (.iload_n 3, 1) := dc_29 (by decide +kernel)
theorem d_Reader_readNumber_39 : decode b_Reader_readNumber 39 = .ok (.getstatic 128, 3) := dc_178 (a := 0) (b := 128) (by decide +kernel) rfl
theorem d_Reader_readNumber_42 : decode b_Reader_readNumber 42 = .ok (.iconst 3, 1) := dc_6 (by decide +kernel)
theorem d_Reader_readNumber_43 : decode b_Reader_readNumber 43 = .ok (.iload_n 1, 1) := dc_27 (by decide +kernel)
theorem d_Reader_readNumber_44 : decode b_Reader_readNumber 44 = .ok (.imul, 1) := dc_104 (by decide +kernel)
theorem d_Reader_readNumber_45 : decode b_Reader_readNumber 45 = .ok (.iload_n 2, 1) := dc_28 (by decide +kernel)
theorem d_Reader_readNumber_46 : decode b_Reader_readNumber 46 = .ok (.iadd, 1) := dc_96 (by decide +kernel)
theorem d_Reader_readNumber_47 : decode b_Reader_readNumber 47 = .ok (.iaload, 1) := dc_46 (by decide +kernel)
theorem d_Reader_readNumber_48 : decode b_Reader_readNumber 48 = .ok (.if_icmp .le 16, 3) := dc_164 (a := 0) (b := 16) (by decide +kernel) rfl
theorem d_Reader_readNumber_51 : decode b_Reader_readNumber 51 = .ok (.aload_n 0, 1) := dc_42 (by decide +kernel)
theorem d_Reader_readNumber_52 : decode b_Reader_readNumber 52 = .ok (.iconst 3, 1) := dc_6 (by decide +kernel)
theorem d_Reader_readNumber_53 : decode b_Reader_readNumber 53 = .ok (.aload_n 0, 1) := dc_42 (by decide +kernel)
theorem d_Reader_readNumber_54 : decode b_Reader_readNumber 54 = .ok (.getfield 12, 3) := dc_180 (a := 0) (b := 12) (by decide +kernel) rfl
theorem d_Reader_readNumber_57 : decode b_Reader_readNumber 57 = .ok (.getfield 81, 3) := dc_180 (a := 0) (b := 81) (by decide +kernel) rfl
theorem d_Reader_readNumber_60 : decode b_Reader_readNumber 60 = .ok (.invokevirtual 64, 3) := dc_182 (a := 0) (b := 64) (by decide +kernel) rfl
theorem d_Reader_readNumber_63 : decode b_Reader_readNumber 63 = .ok (.ireturn, 1) := dc_172 (by decide +kernel)
theorem d_Reader_readNumber_64 : decode b_Reader_readNumber 64 = .ok (.aload_n 0, 1) := dc_42 (by decide +kernel)
theorem d_Reader_readNumber_65 : decode b_Reader_readNumber 65 = .ok (.getfield 25, 3) := dc_180 (a := 0) (b := 25) (by decide +kernel) rfl
theorem d_Reader_readNumber_68 : decode b_Reader_readNumber 68 = .ok (.iload_n 2, 1) := dc_28 (by decide +kernel)
theorem d_Reader_readNumber_69 : decode b_Reader_readNumber 69 = .ok (.iload_n 3, 1) := dc_29 (by decide +kernel)
theorem d_Reader_readNumber_70 : decode b_Reader_readNumber 70 = .ok (.iastore, 1) := dc_79 (by decide +kernel)
theorem d_Reader_readNumber_71 : decode b_Reader_readNumber 71 = .ok (.iload_n 2, 1) := dc_28 (by decide +kernel)
theorem d_Reader_readNumber_72 : decode b_Reader_readNumber 72 = .ok (.ifCond .ne 27, 3) := dc_154 (a := 0) (b := 27) (by decide +kernel) rfl
theorem d_Reader_readNumber_75 : decode b_Reader_readNumber 75 = .ok (.iload_n 1, 1) := dc_27 (by decide +kernel)
theorem d_Reader_readNumber_76 : decode b_Reader_readNumber 76 = .ok (.invokestatic 131, 3) := dc_184 (a := 0) (b := 131) (by decide +kernel) rfl
theorem d_Reader_readNumber_79 : decode b_Reader_readNumber 79 = .ok (.ifCond .eq 20, 3) := dc_153 (a := 0) (b := 20) (by decide +kernel) rfl
theorem d_Reader_readNumber_82 : decode b_Reader_readNumber 82 = .ok (.aload_n 0, 1) := dc_42 (by decide +kernel)
theorem d_Reader_readNumber_83 : decode b_Reader_readNumber 83 = .ok (.getfield 29, 3) := dc_180 (a := 0) (b := 29) (by decide +kernel) rfl
theorem d_Reader_readNumber_86 : decode b_Reader_readNumber 86 = .ok (.iload_n 1, 1) := dc_27 (by decide +kernel)
theorem d_Reader_readNumber_87 : decode b_Reader_readNumber 87 = .ok (.iaload, 1) := dc_46 (by decide +kernel)
theorem d_Reader_readNumber_88 : decode b_Reader_readNumber 88 = .ok (.iload_n 3, 1) := dc_29 (by decide +kernel)
theorem d_Reader_readNumber_89 : decode b_Reader_readNumber 89 = .ok (.ishr, 1) := dc_122 (by decide +kernel)
theorem d_Reader_readNumber_90 : decode b_Reader_readNumber 90 = .ok (.iconst 1, 1) := dc_4 (by decide +kernel)
theorem d_Reader_readNumber_91 : decode b_Reader_readNumber 91 = .ok (.iand, 1) := dc_126 (by decide +kernel)
theorem d_Reader_readNumber_92 : decode b_Reader_readNumber 92 = .ok (.ifCond .eq 7, 3) := dc_153 (a := 0) (b := 7) (by decide +kernel) rfl
theorem d_Reader_readNumber_95 : decode b_Reader_readNumber 95 = .ok (.iconst 1, 1) := dc_4 (by decide +kernel)
theorem d_Reader_readNumber_96 : decode b_Reader_readNumber 96 = .ok (.goto 4, 3) := dc_167 (a := 0) (b := 4) (by decide +kernel) rfl
theorem d_Reader_readNumber_99 : decode b_Reader_readNumber 99 = .ok (.iconst 0, 1) := dc_3 (by decide +kernel)
theorem d_Reader_readNumber_100 : decode b_Reader_readNumber 100 = .ok (.istore 4, 2) := dc_54 (a := 4) (by decide +kernel) rfl
theorem d_Reader_readNumber_102 : decode b_Reader_readNumber 102 = .ok (.iload_n 2, 1) := dc_28 (by decide +kernel)
theorem d_Reader_readNumber_103 : decode b_Reader_readNumber 103 = .ok (.iconst 1, 1) := dc_4 (by decide +kernel)
theorem d_Reader_readNumber_104 : decode b_Reader_readNumber 104 = .ok (.if_icmp .ne 23, 3) := dc_160 (a := 0) (b := 23) (by decide +kernel) rfl
theorem d_Reader_readNumber_127 : decode b_Reader_readNumber 127 = .ok (.iconst 0, 1) := dc_3 (by decide +kernel)
theorem d_Reader_readNumber_128 : decode b_Reader_readNumber 128 = .ok (.istore 5, 2) := dc_54 (a := 5) (by decide +kernel) rfl
theorem d_Reader_readNumber_130 : decode b_Reader_readNumber 130 = .ok (.iload 4, 2) := dc_21 (a := 4) (by decide +kernel) rfl
theorem d_Reader_readNumber_132 : decode b_Reader_readNumber 132 = .ok (.ifCond .ne 8, 3) := dc_154 (a := 0) (b := 8) (by decide +kernel) rfl
theorem d_Reader_readNumber_135 : decode b_Reader_readNumber 135 = .ok (.iload 5, 2) := dc_21 (a := 5) (by decide +kernel) rfl
theorem d_Reader_readNumber_137 : decode b_Reader_readNumber 137 = .ok (.ifCond .eq 18, 3) := dc_153 (a := 0) (b := 18) (by decide +kernel) rfl
theorem d_Reader_readNumber_140 : decode b_Reader_readNumber 140 = .ok (.aload_n 0, 1) := dc_42 (by decide +kernel)
theorem d_Reader_readNumber_141 : decode b_Reader_readNumber 141 = .ok (.iconst 4, 1) := dc_7 (by decide +kernel)
theorem d_Reader_readNumber_142 : decode b_Reader_readNumber 142 = .ok (.aload_n 0, 1) := dc_42 (by decide +kernel)
theorem d_Reader_readNumber_143 : decode b_Reader_readNumber 143 = .ok (.getfield 12, 3) := dc_180 (a := 0) (b := 12) (by decide +kernel) rfl
theorem d_Reader_readNumber_146 : decode b_Reader_readNumber 146 = .ok (.getfield 81, 3) := dc_180 (a := 0) (b := 81) (by decide +kernel) rfl
theorem d_Reader_readNumber_149 : decode b_Reader_readNumber 149 = .ok (.invokevirtual 64, 3) := dc_182 (a := 0) (b := 64) (by decide +kernel) rfl
theorem d_Reader_readNumber_152 : decode b_Reader_readNumber 152 = .ok (.ifCond .eq 7, 3) := dc_153 (a := 0) (b := 7) (by decide +kernel) rfl
theorem d_Reader_readNumber_155 : decode b_Reader_readNumber 155 = .ok (.iconst 1, 1) := dc_4 (by decide +kernel)
theorem d_Reader_readNumber_156 : decode b_Reader_readNumber 156 = .ok (.goto 4, 3) := dc_167 (a := 0) (b := 4) (by decide +kernel) rfl
theorem d_Reader_readNumber_159 : decode b_Reader_readNumber 159 = .ok (.iconst 0, 1) := dc_3 (by decide +kernel)
theorem d_Reader_readNumber_160 : decode b_Reader_readNumber 160 = .ok (.ireturn, 1) := dc_172 (by decide +kernel)
theorem d_Reader_readNumber_107 : decode b_Reader_readNumber 107 = .ok (.iload_n 1, 1) := dc_27 (by decide +kernel)
theorem d_Reader_readNumber_108 : decode b_Reader_readNumber 108 = .ok (.bipush 9, 2) := dc_16 (a := 9) (by decide +kernel) rfl
theorem d_Reader_readNumber_110 : decode b_Reader_readNumber 110 = .ok (.if_icmp .ne 17, 3) := dc_160 (a := 0) (b := 17) (by decide +kernel) rfl
theorem d_Reader_readNumber_113 : decode b_Reader_readNumber 113 = .ok (.iload_n 3, 1) := dc_29 (by decide +kernel)
theorem d_Reader_readNumber_114 : decode b_Reader_readNumber 114 = .ok (.aload_n 0, 1) := dc_42 (by decide +kernel)
theorem d_Reader_readNumber_115 : decode b_Reader_readNumber 115 = .ok (.getfield 25, 3) := dc_180 (a := 0) (b := 25) (by decide +kernel) rfl
theorem d_Reader_readNumber_118 : decode b_Reader_readNumber 118 = .ok (.iconst 0, 1) := dc_3 (by decide +kernel)
theorem d_Reader_readNumber_119 : decode b_Reader_readNumber 119 = .ok (.iaload, 1) := dc_46 (by decide +kernel)
theorem d_Reader_readNumber_120 : decode b_Reader_readNumber 120 = .ok (.if_icmp .ne 7, 3) := dc_160 (a := 0) (b := 7) (by decide +kernel) rfl
theorem d_Reader_readNumber_123 : decode b_Reader_readNumber 123 = .ok (.iconst 1, 1) := dc_4 (by decide +kernel)
theorem d_Reader_readNumber_124 : decode b_Reader_readNumber 124 = .ok (.goto 4, 3) := dc_167 (a := 0) (b := 4) (by decide +kernel) rfl
theorem d_Reader_tellLine_0 : decode b_Reader_tellLine 0 = .ok (.aload_n 0, 1) := dc_42 (by decide +kernel)
theorem d_Reader_tellLine_1 : decode b_Reader_tellLine 1 = .ok (.getfield 21, 3) := dc_180 (a := 0) (b := 21) (by decide +kernel) rfl
theorem d_Reader_tellLine_4 : decode b_Reader_tellLine 4 = .ok (.getfield 71, 3) := dc_180 (a := 0) (b := 71) (by decide +kernel) rfl
theorem d_Reader_tellLine_7 : decode b_Reader_tellLine 7 = .ok (.astore_n 2, 1) := dc_77 (by decide +kernel)
theorem d_Reader_tellLine_8 : decode b_Reader_tellLine 8 = .ok (.aload_n 0, 1) := dc_42 (by decide +kernel)
theorem d_Reader_tellLine_9 : decode b_Reader_tellLine 9 = .ok (.getfield 25, 3) := dc_180 (a := 0) (b := 25) (by decide +kernel) rfl
theorem d_Reader_tellLine_12 : decode b_Reader_tellLine 12 = .ok (.iconst 0, 1) := dc_3 (by decide +kernel)
theorem d_Reader_tellLine_13 : decode b_Reader_tellLine 13 = .ok (.iaload, 1) := dc_46 (by decide +kernel)
theorem d_Reader_tellLine_14 : decode b_Reader_tellLine 14 = .ok (.istore_n 3, 1) := dc_62 (by decide +kernel)
theorem d_Reader_tellLine_15 : decode b_Reader_tellLine 15 = .ok (.aload_n 0, 1) := dc_42 (by decide +kernel)
theorem d_Reader_tellLine_16 : decode b_Reader_tellLine 16 = .ok (.getfield 25, 3) := dc_180 (a := 0) (b := 25) (by decide +kernel) rfl
theorem d_Reader_tellLine_19 : decode b_Reader_tellLine 19 = .ok (.iconst 1, 1) := dc_4 (by decide +kernel)
theorem d_Reader_tellLine_20 : decode b_Reader_tellLine 20 = .ok (.iaload, 1) := dc_46 (by decide +kernel)
theorem d_Reader_tellLine_21 : decode b_Reader_tellLine 21 = .ok (.istore 4, 2) := dc_54 (a := 4) (by decide +kernel) rfl
theorem d_Reader_tellLine_23 : decode b_Reader_tellLine 23 = .ok (.aload_n 0, 1) := dc_42 (by decide +kernel)
theorem d_Reader_tellLine_24 : decode b_Reader_tellLine 24 = .ok (.getfield 29, 3) := dc_180 (a := 0) (b := 29) (by decide +kernel) rfl
theorem d_Reader_tellLine_27 : decode b_Reader_tellLine 27 = .ok (.iload_n 1, 1) := dc_27 (by decide +kernel)
theorem d_Reader_tellLine_28 : decode b_Reader_tellLine 28 = .ok (.dup2, 1) := dc_92 (by decide +kernel)
theorem d_Reader_tellLine_29 : decode b_Reader_tellLine 29 = .ok (.iaload, 1) := dc_46 (by decide +kernel)
theorem d_Reader_tellLine_30 : decode b_Reader_tellLine 30 = .ok (.iload_n 1, 1) := dc_27 (by decide +kernel)
theorem d_Reader_tellLine_31 : decode b_Reader_tellLine 31 = .ok (.invokestatic 131, 3) := dc_184 (a := 0) (b := 131) (by decide +kernel) rfl
theorem d_Reader_tellLine_34 : decode b_Reader_tellLine 34 = .ok (.ifCond .eq 9, 3) := dc_153 (a := 0) (b := 9) (by decide +kernel) rfl
theorem d_Reader_tellLine_37 : decode b_Reader_tellLine 37 = .ok (.iconst 1, 1) := dc_4 (by decide +kernel)
theorem d_Reader_tellLine_38 : decode b_Reader_tellLine 38 = .ok (.iload_n 3, 1) := dc_29 (by decide +kernel)
theorem d_Reader_tellLine_39 : decode b_Reader_tellLine 39 = .ok (.ishl, 1) := dc_120 (by decide +kernel)
theorem d_Reader_tellLine_40 : decode b_Reader_tellLine 40 = .ok (.goto 4, 3) := dc_167 (a := 0) (b := 4) (by decide +kernel) rfl
theorem d_Reader_tellLine_43 : decode b_Reader_tellLine 43 = .ok (.iconst 1, 1) := dc_4 (by decide +kernel)
theorem d_Reader_tellLine_44 : decode b_Reader_tellLine 44 = .ok (.ior, 1) := dc_128 (by decide +kernel)
theorem d_Reader_tellLine_45 : decode b_Reader_tellLine 45 = .ok (.iastore, 1) := dc_79 (by decide +kernel)
theorem d_Reader_tellLine_46 : decode b_Reader_tellLine 46 = .ok (.iload_n 1, 1) := dc_27 (by decide +kernel)
theorem d_Reader_tellLine_47 : decode b_Reader_tellLine 47 = .ok (.tableswitch 161 0 8 #[49, 63, 74, 84, 95, 106, 123, 131, 139], 49) := by decide +kernel
theorem d_Reader_tellLine_96 : decode b_Reader_tellLine 96 = .ok (.aload_n 2, 1) := dc_44 (by decide +kernel)
theorem d_Reader_tellLine_97 : decode b_Reader_tellLine 97 = .ok (.iload_n 3, 1) := dc_29 (by decide +kernel)
theorem d_Reader_tellLine_98 : decode b_Reader_tellLine 98 = .ok (.putfield 134, 3) := dc_181 (a := 0) (b := 134) (by decide +kernel) rfl
theorem d_Reader_tellLine_101 : decode b_Reader_tellLine 101 = .ok (.aload_n 2, 1) := dc_44 (by decide +kernel)
theorem d_Reader_tellLine_102 : decode b_Reader_tellLine 102 = .ok (.iload 4, 2) := dc_21 (a := 4) (by decide +kernel) rfl
theorem d_Reader_tellLine_104 : decode b_Reader_tellLine 104 = .ok (.putfield 137, 3) := dc_181 (a := 0) (b := 137) (by decide +kernel) rfl
theorem d_Reader_tellLine_107 : decode b_Reader_tellLine 107 = .ok (.goto 120, 3) := dc_167 (a := 0) (b := 120) (by decide +kernel) rfl
theorem d_Reader_tellLine_227 : decode b_Reader_tellLine 227 = .ok (.return_, 1) := dc_177 (by decide +kernel)
theorem d_Reader_tellLine_110 : decode b_Reader_tellLine 110 = .ok (.aload_n 2, 1) := dc_44 (by decide +kernel)
theorem d_Reader_tellLine_111 : decode b_Reader_tellLine 111 = .ok (.getfield 140, 3) := dc_180 (a := 0) (b := 140) (by decide +kernel) rfl
theorem d_Reader_tellLine_114 : decode b_Reader_tellLine 114 = .ok (.iload_n 3, 1) := dc_29 (by decide +kernel)
theorem d_Reader_tellLine_115 : decode b_Reader_tellLine 115 = .ok (.iload 4, 2) := dc_21 (a := 4) (by decide +kernel) rfl
theorem d_Reader_tellLine_117 : decode b_Reader_tellLine 117 = .ok (.iastore, 1) := dc_79 (by decide +kernel)
theorem d_Reader_tellLine_118 : decode b_Reader_tellLine 118 = .ok (.goto 109, 3) := dc_167 (a := 0) (b := 109) (by decide +kernel) rfl
theorem d_Reader_tellLine_121 : decode b_Reader_tellLine 121 = .ok (.aload_n 2, 1) := dc_44 (by decide +kernel)
theorem d_Reader_tellLine_122 : decode b_Reader_tellLine 122 = .ok (.getfield 143, 3) := dc_180 (a := 0) (b := 143) (by decide +kernel) rfl
theorem d_Reader_tellLine_125 : decode b_Reader_tellLine 125 = .ok (.iload_n 3, 1) := dc_29 (by decide +kernel)
theorem d_Reader_tellLine_126 : decode b_Reader_tellLine 126 = .ok (.iconst 1, 1) := dc_4 (by decide +kernel)
theorem d_Reader_tellLine_127 : decode b_Reader_tellLine 127 = .ok (.iastore, 1) := dc_79 (by decide +kernel)
theorem d_Reader_tellLine_128 : decode b_Reader_tellLine 128 = .ok (.goto 99, 3) := dc_167 (a := 0) (b := 99) (by decide +kernel) rfl
theorem d_Reader_tellLine_131 : decode b_Reader_tellLine 131 = .ok (.aload_n 2, 1) := dc_44 (by decide +kernel)
theorem d_Reader_tellLine_132 : decode b_Reader_tellLine 132 = .ok (.getfield 146, 3) := dc_180 (a := 0) (b := 146) (by decide +kernel) rfl
theorem d_Reader_tellLine_135 : decode b_Reader_tellLine 135 = .ok (.iload_n 3, 1) := dc_29 (by decide +kernel)
theorem d_Reader_tellLine_136 : decode b_Reader_tellLine 136 = .ok (.iload 4, 2) := dc_21 (a := 4) (by decide +kernel) rfl
theorem d_Reader_tellLine_138 : decode b_Reader_tellLine 138 = .ok (.iastore, 1) := dc_79 (by decide +kernel)
theorem d_Reader_tellLine_139 : decode b_Reader_tellLine 139 = .ok (.goto 88, 3) := dc_167 (a := 0) (b := 88) (by decide +kernel) rfl
theorem d_Reader_tellLine_142 : decode b_Reader_tellLine 142 = .ok (.aload_n 2, 1) := dc_44 (by decide +kernel)
theorem d_Reader_tellLine_143 : decode b_Reader_tellLine 143 = .ok (.getfield 149, 3) := dc_180 (a := 0) (b := 149) (by decide +kernel) rfl
theorem d_Reader_tellLine_146 : decode b_Reader_tellLine 146 = .ok (.iload_n 3, 1) := dc_29 (by decide +kernel)
theorem d_Reader_tellLine_147 : decode b_Reader_tellLine 147 = .ok (.iload 4, 2) := dc_21 (a := 4) (by decide +kernel) rfl
theorem d_Reader_tellLine_149 : decode b_Reader_tellLine 149 = .ok (.iastore, 1) := dc_79 (by decide +kernel)
theorem d_Reader_tellLine_150 : decode b_Reader_tellLine 150 = .ok (.goto 77, 3) := dc_167 (a := 0) (b := 77) (by decide +kernel) rfl
theorem d_Reader_tellLine_153 : decode b_Reader_tellLine 153 = .ok (.aload_n 0, 1) := dc_42 (by decide +kernel)
theorem d_Reader_tellLine_154 : decode b_Reader_tellLine 154 = .ok (.getfield 21, 3) := dc_180 (a := 0) (b := 21) (by decide +kernel) rfl
theorem d_Reader_tellLine_157 : decode b_Reader_tellLine 157 = .ok (.getfield 94, 3) := dc_180 (a := 0) (b := 94) (by decide +kernel) rfl
theorem d_Reader_tellLine_160 : decode b_Reader_tellLine 160 = .ok (.getfield 152, 3) := dc_180 (a := 0) (b := 152) (by decide +kernel) rfl
theorem d_Reader_tellLine_163 : decode b_Reader_tellLine 163 = .ok (.iload_n 3, 1) := dc_29 (by decide +kernel)
theorem d_Reader_tellLine_164 : decode b_Reader_tellLine 164 = .ok (.iload 4, 2) := dc_21 (a := 4) (by decide +kernel) rfl
theorem d_Reader_tellLine_166 : decode b_Reader_tellLine 166 = .ok (.iastore, 1) := dc_79 (by decide +kernel)
theorem d_Reader_tellLine_167 : decode b_Reader_tellLine 167 = .ok (.goto 60, 3) := dc_167 (a := 0) (b := 60) (by decide +kernel) rfl
theorem d_Reader_tellLine_170 : decode b_Reader_tellLine 170 = .ok (.aload_n 2, 1) := dc_44 (by decide +kernel)
theorem d_Reader_tellLine_171 : decode b_Reader_tellLine 171 = .ok (.iload_n 3, 1) := dc_29 (by decide +kernel)
theorem d_Reader_tellLine_172 : decode b_Reader_tellLine 172 = .ok (.putfield 155, 3) := dc_181 (a := 0) (b := 155) (by decide +kernel) rfl
theorem d_Reader_tellLine_175 : decode b_Reader_tellLine 175 = .ok (.goto 52, 3) := dc_167 (a := 0) (b := 52) (by decide +kernel) rfl
theorem d_Reader_tellLine_178 : decode b_Reader_tellLine 178 = .ok (.aload_n 2, 1) := dc_44 (by decide +kernel)
theorem d_Reader_tellLine_179 : decode b_Reader_tellLine 179 = .ok (.iload_n 3, 1) := dc_29 (by decide +kernel)
theorem d_Reader_tellLine_180 : decode b_Reader_tellLine 180 = .ok (.putfield 158, 3) := dc_181 (a := 0) (b := 158) (by decide +kernel) rfl
theorem d_Reader_tellLine_183 : decode b_Reader_tellLine 183 = .ok (.goto 44, 3) := dc_167 (a := 0) (b := 44) (by decide +kernel) rfl
theorem d_Reader_tellLine_186 : decode b_Reader_tellLine 186 = .ok (.aload_n 0, 1) := dc_42 (by decide +kernel)
theorem d_Reader_tellLine_187 : decode b_Reader_tellLine 187 = .ok (.getfield 21, 3) := dc_180 (a := 0) (b := 21) (by decide +kernel) rfl
theorem d_Reader_tellLine_190 : decode b_Reader_tellLine 190 = .ok (.aload_n 0, 1) := dc_42 (by decide +kernel)
theorem d_Reader_tellLine_191 : decode b_Reader_tellLine 191 = .ok (.getfield 119, 3) := dc_180 (a := 0) (b := 119) (by decide +kernel) rfl
theorem d_Reader_tellLine_194 : decode b_Reader_tellLine 194 = .ok (.putfield 161, 3) := dc_181 (a := 0) (b := 161) (by decide +kernel) rfl
theorem d_Reader_tellLine_197 : decode b_Reader_tellLine 197 = .ok (.aload_n 0, 1) := dc_42 (by decide +kernel)
theorem d_Reader_tellLine_198 : decode b_Reader_tellLine 198 = .ok (.getfield 21, 3) := dc_180 (a := 0) (b := 21) (by decide +kernel) rfl
theorem d_Reader_tellLine_201 : decode b_Reader_tellLine 201 = .ok (.iload_n 3, 1) := dc_29 (by decide +kernel)
theorem d_Reader_tellLine_202 : decode b_Reader_tellLine 202 = .ok (.putfield 164, 3) := dc_181 (a := 0) (b := 164) (by decide +kernel) rfl
theorem d_Reader_tellLine_205 : decode b_Reader_tellLine 205 = .ok (.goto 22, 3) := dc_167 (a := 0) (b := 22) (by decide +kernel) rfl
theorem d_Reader_tellLine_208 : decode b_Reader_tellLine 208 = .ok (.aload_n 0, 1) := dc_42 (by decide +kernel)
theorem d_Reader_tellLine_209 : decode b_Reader_tellLine 209 = .ok (.getfield 21, 3) := dc_180 (a := 0) (b := 21) (by decide +kernel) rfl
theorem d_Reader_tellLine_212 : decode b_Reader_tellLine 212 = .ok (.getfield 94, 3) := dc_180 (a := 0) (b := 94) (by decide +kernel) rfl
theorem d_Reader_tellLine_215 : decode b_Reader_tellLine 215 = .ok (.iload_n 3, 1) := dc_29 (by decide +kernel)
theorem d_Reader_tellLine_216 : decode b_Reader_tellLine 216 = .ok (.iload 4, 2) := dc_21 (a := 4) (by decide +kernel) rfl
theorem d_Reader_tellLine_218 : decode b_Reader_tellLine 218 = .ok (.aload_n 0, 1) := dc_42 (by decide +kernel)
theorem d_Reader_tellLine_219 : decode b_Reader_tellLine 219 = .ok (.getfield 25, 3) := dc_180 (a := 0) (b := 25) (by decide +kernel) rfl
theorem d_Reader_tellLine_222 : decode b_Reader_tellLine 222 = .ok (.iconst 2, 1) := dc_5 (by decide +kernel)
theorem d_Reader_tellLine_223 : decode b_Reader_tellLine 223 = .ok (.iaload, 1) := dc_46 (by decide +kernel)
theorem d_Reader_tellLine_224 : decode b_Reader_tellLine 224 = .ok (.invokevirtual 167, 3) := dc_182 (a := 0) (b := 167) (by decide +kernel) rfl
theorem d_Reader_readLine_0 : decode b_Reader_readLine 0 = .ok (.aload_n 0, 1) := dc_42 (by decide +kernel)
theorem d_Reader_readLine_1 : decode b_Reader_readLine 1 = .ok (.iconst 1, 1) := dc_4 (by decide +kernel)
theorem d_Reader_readLine_2 : decode b_Reader_readLine 2 = .ok (.invokevirtual 84, 3) := dc_182 (a := 0) (b := 84) (by decide +kernel) rfl
theorem d_Reader_readLine_5 : decode b_Reader_readLine 5 = .ok (.ifCond .ne 5, 3) := dc_154 (a := 0) (b := 5) (by decide +kernel) rfl
theorem d_Reader_readLine_8 : decode b_Reader_readLine 8 = .ok (.iconst 0, 1) := dc_3 (by decide +kernel)
theorem d_Reader_readLine_9 : decode b_Reader_readLine 9 = .ok (.ireturn, 1) := dc_172 (by decide +kernel)
theorem d_Reader_readLine_10 : decode b_Reader_readLine 10 = .ok (.aload_n 0, 1) := dc_42 (by decide +kernel)
theorem d_Reader_readLine_11 : decode b_Reader_readLine 11 = .ok (.invokevirtual 88, 3) := dc_182 (a := 0) (b := 88) (by decide +kernel) rfl
theorem d_Reader_readLine_14 : decode b_Reader_readLine 14 = .ok (.istore_n 1, 1) := dc_60 (by decide +kernel)
theorem d_Reader_readLine_15 : decode b_Reader_readLine 15 = .ok (.iload_n 1, 1) := dc_27 (by decide +kernel)
theorem d_Reader_readLine_16 : decode b_Reader_readLine 16 = .ok (.ifCond .ge 16, 3) := dc_156 (a := 0) (b := 16) (by decide +kernel) rfl
theorem d_Reader_readLine_19 : decode b_Reader_readLine 19 = .ok (.aload_n 0, 1) := dc_42 (by decide +kernel)
theorem d_Reader_readLine_20 : decode b_Reader_readLine 20 = .ok (.iconst 2, 1) := dc_5 (by decide +kernel)
theorem d_Reader_readLine_21 : decode b_Reader_readLine 21 = .ok (.aload_n 0, 1) := dc_42 (by decide +kernel)
theorem d_Reader_readLine_22 : decode b_Reader_readLine 22 = .ok (.getfield 12, 3) := dc_180 (a := 0) (b := 12) (by decide +kernel) rfl
theorem d_Reader_readLine_25 : decode b_Reader_readLine 25 = .ok (.getfield 81, 3) := dc_180 (a := 0) (b := 81) (by decide +kernel) rfl
theorem d_Reader_readLine_28 : decode b_Reader_readLine 28 = .ok (.invokevirtual 64, 3) := dc_182 (a := 0) (b := 64) (by decide +kernel) rfl
theorem d_Reader_readLine_31 : decode b_Reader_readLine 31 = .ok (.ireturn, 1) := dc_172 (by decide +kernel)
theorem d_Reader_readLine_32 : decode b_Reader_readLine 32 = .ok (.iload_n 1, 1) := dc_27 (by decide +kernel)
theorem d_Reader_readLine_33 : decode b_Reader_readLine 33 = .ok (.invokestatic 91, 3) := dc_184 (a := 0) (b := 91) (by decide +kernel) rfl
theorem d_Reader_readLine_36 : decode b_Reader_readLine 36 = .ok (.ifCond .eq 25, 3) := dc_153 (a := 0) (b := 25) (by decide +kernel) rfl
theorem d_Reader_readLine_39 : decode b_Reader_readLine 39 = .ok (.aload_n 0, 1) := dc_42 (by decide +kernel)
theorem d_Reader_readLine_40 : decode b_Reader_readLine 40 = .ok (.getfield 29, 3) := dc_180 (a := 0) (b := 29) (by decide +kernel) rfl
theorem d_Reader_readLine_43 : decode b_Reader_readLine 43 = .ok (.iload_n 1, 1) := dc_27 (by decide +kernel)
theorem d_Reader_readLine_44 : decode b_Reader_readLine 44 = .ok (.iaload, 1) := dc_46 (by decide +kernel)
theorem d_Reader_readLine_45 : decode b_Reader_readLine 45 = .ok (.ifCond .eq 16, 3) := dc_153 (a := 0) (b := 16) (by decide +kernel) rfl
theorem d_Reader_readLine_48 : decode b_Reader_readLine 48 = .ok (.aload_n 0, 1) := dc_42 (by decide +kernel)
theorem d_Reader_readLine_49 : decode b_Reader_readLine 49 = .ok (.iconst 4, 1) := dc_7 (by decide +kernel)
theorem d_Reader_readLine_50 : decode b_Reader_readLine 50 = .ok (.aload_n 0, 1) := dc_42 (by decide +kernel)
theorem d_Reader_readLine_51 : decode b_Reader_readLine 51 = .ok (.getfield 12, 3) := dc_180 (a := 0) (b := 12) (by decide +kernel) rfl
theorem d_Reader_readLine_54 : decode b_Reader_readLine 54 = .ok (.getfield 81, 3) := dc_180 (a := 0) (b := 81) (by decide +kernel) rfl
theorem d_Reader_readLine_57 : decode b_Reader_readLine 57 = .ok (.invokevirtual 64, 3) := dc_182 (a := 0) (b := 64) (by decide +kernel) rfl
theorem d_Reader_readLine_60 : decode b_Reader_readLine 60 = .ok (.ireturn, 1) := dc_172 (by decide +kernel)
theorem d_Reader_readLine_61 : decode b_Reader_readLine 61 = .ok (.iload_n 1, 1) := dc_27 (by decide +kernel)
theorem d_Reader_readLine_62 : decode b_Reader_readLine 62 = .ok (.bipush 9, 2) := dc_16 (a := 9) (by decide +kernel) rfl
theorem d_Reader_readLine_64 : decode b_Reader_readLine 64 = .ok (.if_icmp .ne 31, 3) := dc_160 (a := 0) (b := 31) (by decide +kernel) rfl
theorem d_Reader_readLine_67 : decode b_Reader_readLine 67 = .ok (.aload_n 0, 1) := dc_42 (by decide +kernel)
theorem d_Reader_readLine_68 : decode b_Reader_readLine 68 = .ok (.getfield 21, 3) := dc_180 (a := 0) (b := 21) (by decide +kernel) rfl
theorem d_Reader_readLine_71 : decode b_Reader_readLine 71 = .ok (.getfield 94, 3) := dc_180 (a := 0) (b := 94) (by decide +kernel) rfl
theorem d_Reader_readLine_74 : decode b_Reader_readLine 74 = .ok (.getfield 98, 3) := dc_180 (a := 0) (b := 98) (by decide +kernel) rfl
theorem d_Reader_readLine_77 : decode b_Reader_readLine 77 = .ok (.bipush 8, 2) := dc_16 (a := 8) (by decide +kernel) rfl
theorem d_Reader_readLine_79 : decode b_Reader_readLine 79 = .ok (.if_icmp .lt 16, 3) := dc_161 (a := 0) (b := 16) (by decide +kernel) rfl
theorem d_Reader_readLine_82 : decode b_Reader_readLine 82 = .ok (.aload_n 0, 1) := dc_42 (by decide +kernel)
theorem d_Reader_readLine_83 : decode b_Reader_readLine 83 = .ok (.iconst 5, 1) := dc_8 (by decide +kernel)
theorem d_Reader_readLine_84 : decode b_Reader_readLine 84 = .ok (.aload_n 0, 1) := dc_42 (by decide +kernel)
theorem d_Reader_readLine_85 : decode b_Reader_readLine 85 = .ok (.getfield 12, 3) := dc_180 (a := 0) (b := 12) (by decide +kernel) rfl
theorem d_Reader_readLine_88 : decode b_Reader_readLine 88 = .ok (.getfield 81, 3) := dc_180 (a := 0) (b := 81) (by decide +kernel) rfl
theorem d_Reader_readLine_91 : decode b_Reader_readLine 91 = .ok (.invokevirtual 64, 3) := dc_182 (a := 0) (b := 64) (by decide +kernel) rfl
theorem d_Reader_readLine_94 : decode b_Reader_readLine 94 = .ok (.ireturn, 1) := dc_172 (by decide +kernel)
theorem d_Reader_readLine_95 : decode b_Reader_readLine 95 = .ok (.iload_n 1, 1) := dc_27 (by decide +kernel)
theorem d_Reader_readLine_96 : decode b_Reader_readLine 96 = .ok (.bipush 8, 2) := dc_16 (a := 8) (by decide +kernel) rfl
theorem d_Reader_readLine_98 : decode b_Reader_readLine 98 = .ok (.if_icmp .ne 12, 3) := dc_160 (a := 0) (b := 12) (by decide +kernel) rfl
theorem d_Reader_readLine_101 : decode b_Reader_readLine 101 = .ok (.aload_n 0, 1) := dc_42 (by decide +kernel)
theorem d_Reader_readLine_102 : decode b_Reader_readLine 102 = .ok (.invokevirtual 103, 3) := dc_182 (a := 0) (b := 103) (by decide +kernel) rfl
theorem d_Reader_readLine_105 : decode b_Reader_readLine 105 = .ok (.ifCond .ne 5, 3) := dc_154 (a := 0) (b := 5) (by decide +kernel) rfl
theorem d_Reader_readLine_108 : decode b_Reader_readLine 108 = .ok (.iconst 0, 1) := dc_3 (by decide +kernel)
theorem d_Reader_readLine_109 : decode b_Reader_readLine 109 = .ok (.ireturn, 1) := dc_172 (by decide +kernel)
theorem d_Reader_readLine_110 : decode b_Reader_readLine 110 = .ok (.iconst 0, 1) := dc_3 (by decide +kernel)
theorem d_Reader_readLine_111 : decode b_Reader_readLine 111 = .ok (.istore_n 2, 1) := dc_61 (by decide +kernel)
theorem d_Reader_readLine_112 : decode b_Reader_readLine 112 = .ok (.iload_n 2, 1) := dc_28 (by decide +kernel)
theorem d_Reader_readLine_113 : decode b_Reader_readLine 113 = .ok (.getstatic 106, 3) := dc_178 (a := 0) (b := 106) (by decide +kernel) rfl
theorem d_Reader_readLine_116 : decode b_Reader_readLine 116 = .ok (.iload_n 1, 1) := dc_27 (by decide +kernel)
theorem d_Reader_readLine_117 : decode b_Reader_readLine 117 = .ok (.iaload, 1) := dc_46 (by decide +kernel)
theorem d_Reader_readLine_118 : decode b_Reader_readLine 118 = .ok (.if_icmp .ge 20, 3) := dc_162 (a := 0) (b := 20) (by decide +kernel) rfl
theorem d_Reader_readLine_121 : decode b_Reader_readLine 121 = .ok (.aload_n 0, 1) := dc_42 (by decide +kernel)
theorem d_Reader_readLine_122 : decode b_Reader_readLine 122 = .ok (.iload_n 1, 1) := dc_27 (by decide +kernel)
theorem d_Reader_readLine_123 : decode b_Reader_readLine 123 = .ok (.iload_n 2, 1) := dc_28 (by decide +kernel)
theorem d_Reader_readLine_124 : decode b_Reader_readLine 124 = .ok (.invokevirtual 109, 3) := dc_182 (a := 0) (b := 109) (by decide +kernel) rfl
theorem d_Reader_readLine_127 : decode b_Reader_readLine 127 = .ok (.ifCond .ne 5, 3) := dc_154 (a := 0) (b := 5) (by decide +kernel) rfl
theorem d_Reader_readLine_130 : decode b_Reader_readLine 130 = .ok (.iconst 0, 1) := dc_3 (by decide +kernel)
theorem d_Reader_readLine_131 : decode b_Reader_readLine 131 = .ok (.ireturn, 1) := dc_172 (by decide +kernel)
theorem d_Reader_readLine_132 : decode b_Reader_readLine 132 = .ok (.iinc 2 1, 3) := dc_132 (a := 2) (b := 1) (by decide +kernel) rfl
theorem d_Reader_readLine_135 : decode b_Reader_readLine 135 = .ok (.goto (-23), 3) := dc_167 (a := 255) (b := 233) (by decide +kernel) rfl
theorem d_Reader_readLine_138 : decode b_Reader_readLine 138 = .ok (.aload_n 0, 1) := dc_42 (by decide +kernel)
theorem d_Reader_readLine_139 : decode b_Reader_readLine 139 = .ok (.getfield 12, 3) := dc_180 (a := 0) (b := 12) (by decide +kernel) rfl
theorem d_Reader_readLine_142 : decode b_Reader_readLine 142 = .ok (.invokevirtual 48, 3) := dc_182 (a := 0) (b := 48) (by decide +kernel) rfl
theorem d_Reader_readLine_145 : decode b_Reader_readLine 145 = .ok (.aload_n 0, 1) := dc_42 (by decide +kernel)
theorem d_Reader_readLine_146 : decode b_Reader_readLine 146 = .ok (.iconst 3, 1) := dc_6 (by decide +kernel)
theorem d_Reader_readLine_147 : decode b_Reader_readLine 147 = .ok (.invokevirtual 84, 3) := dc_182 (a := 0) (b := 84) (by decide +kernel) rfl
theorem d_Reader_readLine_150 : decode b_Reader_readLine 150 = .ok (.ifCond .ne 5, 3) := dc_154 (a := 0) (b := 5) (by decide +kernel) rfl
theorem d_Reader_readLine_153 : decode b_Reader_readLine 153 = .ok (.iconst 0, 1) := dc_3 (by decide +kernel)
theorem d_Reader_readLine_154 : decode b_Reader_readLine 154 = .ok (.ireturn, 1) := dc_172 (by decide +kernel)
theorem d_Reader_readLine_155 : decode b_Reader_readLine 155 = .ok (.aload_n 0, 1) := dc_42 (by decide +kernel)
theorem d_Reader_readLine_156 : decode b_Reader_readLine 156 = .ok (.iload_n 1, 1) := dc_27 (by decide +kernel)
theorem d_Reader_readLine_157 : decode b_Reader_readLine 157 = .ok (.invokevirtual 112, 3) := dc_182 (a := 0) (b := 112) (by decide +kernel) rfl
theorem d_Reader_readLine_160 : decode b_Reader_readLine 160 = .ok (.iconst 1, 1) := dc_4 (by decide +kernel)
theorem d_Reader_readLine_161 : decode b_Reader_readLine 161 = .ok (.ireturn, 1) := dc_172 (by decide +kernel)
theorem d_Reader_tellsBeyondCounty_0 : decode b_Reader_tellsBeyondCounty 0 = .ok (.aload_n 0, 1) := dc_42 (by decide +kernel)
theorem d_Reader_tellsBeyondCounty_1 : decode b_Reader_tellsBeyondCounty 1 = .ok (.getfield 29, 3) := dc_180 (a := 0) (b := 29) (by decide +kernel) rfl
theorem d_Reader_tellsBeyondCounty_4 : decode b_Reader_tellsBeyondCounty 4 = .ok (.iconst 1, 1) := dc_4 (by decide +kernel)
theorem d_Reader_tellsBeyondCounty_5 : decode b_Reader_tellsBeyondCounty 5 = .ok (.iaload, 1) := dc_46 (by decide +kernel)
theorem d_Reader_tellsBeyondCounty_6 : decode b_Reader_tellsBeyondCounty 6 = .ok (.aload_n 0, 1) := dc_42 (by decide +kernel)
theorem d_Reader_tellsBeyondCounty_7 : decode b_Reader_tellsBeyondCounty 7 = .ok (.getfield 29, 3) := dc_180 (a := 0) (b := 29) (by decide +kernel) rfl
theorem d_Reader_tellsBeyondCounty_10 : decode b_Reader_tellsBeyondCounty 10 = .ok (.iconst 2, 1) := dc_5 (by decide +kernel)
theorem d_Reader_tellsBeyondCounty_11 : decode b_Reader_tellsBeyondCounty 11 = .ok (.iaload, 1) := dc_46 (by decide +kernel)
theorem d_Reader_tellsBeyondCounty_12 : decode b_Reader_tellsBeyondCounty 12 = .ok (.ior, 1) := dc_128 (by decide +kernel)
theorem d_Reader_tellsBeyondCounty_13 : decode b_Reader_tellsBeyondCounty 13 = .ok (.aload_n 0, 1) := dc_42 (by decide +kernel)
theorem d_Reader_tellsBeyondCounty_14 : decode b_Reader_tellsBeyondCounty 14 = .ok (.getfield 29, 3) := dc_180 (a := 0) (b := 29) (by decide +kernel) rfl
theorem d_Reader_tellsBeyondCounty_17 : decode b_Reader_tellsBeyondCounty 17 = .ok (.iconst 3, 1) := dc_6 (by decide +kernel)
theorem d_Reader_tellsBeyondCounty_18 : decode b_Reader_tellsBeyondCounty 18 = .ok (.iaload, 1) := dc_46 (by decide +kernel)
theorem d_Reader_tellsBeyondCounty_19 : decode b_Reader_tellsBeyondCounty 19 = .ok (.ior, 1) := dc_128 (by decide +kernel)
theorem d_Reader_tellsBeyondCounty_20 : decode b_Reader_tellsBeyondCounty 20 = .ok (.aload_n 0, 1) := dc_42 (by decide +kernel)
theorem d_Reader_tellsBeyondCounty_21 : decode b_Reader_tellsBeyondCounty 21 = .ok (.getfield 29, 3) := dc_180 (a := 0) (b := 29) (by decide +kernel) rfl
theorem d_Reader_tellsBeyondCounty_24 : decode b_Reader_tellsBeyondCounty 24 = .ok (.iconst 4, 1) := dc_7 (by decide +kernel)
theorem d_Reader_tellsBeyondCounty_25 : decode b_Reader_tellsBeyondCounty 25 = .ok (.iaload, 1) := dc_46 (by decide +kernel)
theorem d_Reader_tellsBeyondCounty_26 : decode b_Reader_tellsBeyondCounty 26 = .ok (.ior, 1) := dc_128 (by decide +kernel)
theorem d_Reader_tellsBeyondCounty_27 : decode b_Reader_tellsBeyondCounty 27 = .ok (.istore_n 1, 1) := dc_60 (by decide +kernel)
theorem d_Reader_tellsBeyondCounty_28 : decode b_Reader_tellsBeyondCounty 28 = .ok (.iload_n 1, 1) := dc_27 (by decide +kernel)
theorem d_Reader_tellsBeyondCounty_29 : decode b_Reader_tellsBeyondCounty 29 = .ok (.aload_n 0, 1) := dc_42 (by decide +kernel)
theorem d_Reader_tellsBeyondCounty_30 : decode b_Reader_tellsBeyondCounty 30 = .ok (.getfield 21, 3) := dc_180 (a := 0) (b := 21) (by decide +kernel) rfl
theorem d_Reader_tellsBeyondCounty_33 : decode b_Reader_tellsBeyondCounty 33 = .ok (.getfield 71, 3) := dc_180 (a := 0) (b := 71) (by decide +kernel) rfl
theorem d_Reader_tellsBeyondCounty_36 : decode b_Reader_tellsBeyondCounty 36 = .ok (.invokevirtual 75, 3) := dc_182 (a := 0) (b := 75) (by decide +kernel) rfl
theorem d_Reader_tellsBeyondCounty_39 : decode b_Reader_tellsBeyondCounty 39 = .ok (.iconst (-1), 1) := dc_2 (by decide +kernel)
theorem d_Reader_tellsBeyondCounty_40 : decode b_Reader_tellsBeyondCounty 40 = .ok (.ixor, 1) := dc_130 (by decide +kernel)
theorem d_Reader_tellsBeyondCounty_41 : decode b_Reader_tellsBeyondCounty 41 = .ok (.iand, 1) := dc_126 (by decide +kernel)
theorem d_Reader_tellsBeyondCounty_42 : decode b_Reader_tellsBeyondCounty 42 = .ok (.ifCond .eq 7, 3) := dc_153 (a := 0) (b := 7) (by decide +kernel) rfl
theorem d_Reader_tellsBeyondCounty_45 : decode b_Reader_tellsBeyondCounty 45 = .ok (.iconst 1, 1) := dc_4 (by decide +kernel)
theorem d_Reader_tellsBeyondCounty_46 : decode b_Reader_tellsBeyondCounty 46 = .ok (.goto 4, 3) := dc_167 (a := 0) (b := 4) (by decide +kernel) rfl
theorem d_Reader_tellsBeyondCounty_49 : decode b_Reader_tellsBeyondCounty 49 = .ok (.iconst 0, 1) := dc_3 (by decide +kernel)
theorem d_Reader_tellsBeyondCounty_50 : decode b_Reader_tellsBeyondCounty 50 = .ok (.ireturn, 1) := dc_172 (by decide +kernel)
theorem d_Reader_readAll_0 : decode b_Reader_readAll 0 = .ok (.aload_n 0, 1) := dc_42 (by decide +kernel)
theorem d_Reader_readAll_1 : decode b_Reader_readAll 1 = .ok (.getfield 21, 3) := dc_180 (a := 0) (b := 21) (by decide +kernel) rfl
theorem d_Reader_readAll_4 : decode b_Reader_readAll 4 = .ok (.invokevirtual 32, 3) := dc_182 (a := 0) (b := 32) (by decide +kernel) rfl
theorem d_Reader_readAll_7 : decode b_Reader_readAll 7 = .ok (.aload_n 0, 1) := dc_42 (by decide +kernel)
theorem d_Reader_readAll_8 : decode b_Reader_readAll 8 = .ok (.getfield 29, 3) := dc_180 (a := 0) (b := 29) (by decide +kernel) rfl
theorem d_Reader_readAll_11 : decode b_Reader_readAll 11 = .ok (.iconst 0, 1) := dc_3 (by decide +kernel)
theorem d_Reader_readAll_12 : decode b_Reader_readAll 12 = .ok (.invokestatic 35, 3) := dc_184 (a := 0) (b := 35) (by decide +kernel) rfl
theorem d_Reader_readAll_15 : decode b_Reader_readAll 15 = .ok (.aload_n 0, 1) := dc_42 (by decide +kernel)
theorem d_Reader_readAll_16 : decode b_Reader_readAll 16 = .ok (.iconst 0, 1) := dc_3 (by decide +kernel)
theorem d_Reader_readAll_17 : decode b_Reader_readAll 17 = .ok (.putfield 41, 3) := dc_181 (a := 0) (b := 41) (by decide +kernel) rfl
theorem d_Reader_readAll_20 : decode b_Reader_readAll 20 = .ok (.aload_n 0, 1) := dc_42 (by decide +kernel)
theorem d_Reader_readAll_21 : decode b_Reader_readAll 21 = .ok (.getfield 12, 3) := dc_180 (a := 0) (b := 12) (by decide +kernel) rfl
theorem d_Reader_readAll_24 : decode b_Reader_readAll 24 = .ok (.invokevirtual 45, 3) := dc_182 (a := 0) (b := 45) (by decide +kernel) rfl
theorem d_Reader_readAll_27 : decode b_Reader_readAll 27 = .ok (.aload_n 0, 1) := dc_42 (by decide +kernel)
theorem d_Reader_readAll_28 : decode b_Reader_readAll 28 = .ok (.getfield 12, 3) := dc_180 (a := 0) (b := 12) (by decide +kernel) rfl
theorem d_Reader_readAll_31 : decode b_Reader_readAll 31 = .ok (.invokevirtual 48, 3) := dc_182 (a := 0) (b := 48) (by decide +kernel) rfl
theorem d_Reader_readAll_34 : decode b_Reader_readAll 34 = .ok (.iconst 0, 1) := dc_3 (by decide +kernel)
theorem d_Reader_readAll_35 : decode b_Reader_readAll 35 = .ok (.istore_n 1, 1) := dc_60 (by decide +kernel)
theorem d_Reader_readAll_36 : decode b_Reader_readAll 36 = .ok (.iload_n 1, 1) := dc_27 (by decide +kernel)
theorem d_Reader_readAll_37 : decode b_Reader_readAll 37 = .ok (.sipush 160, 3) := dc_17 (a := 0) (b := 160) (by decide +kernel) rfl
theorem d_Reader_readAll_40 : decode b_Reader_readAll 40 = .ok (.if_icmp .ge 33, 3) := dc_162 (a := 0) (b := 33) (by decide +kernel) rfl
theorem d_Reader_readAll_43 : decode b_Reader_readAll 43 = .ok (.aload_n 0, 1) := dc_42 (by decide +kernel)
theorem d_Reader_readAll_44 : decode b_Reader_readAll 44 = .ok (.getfield 12, 3) := dc_180 (a := 0) (b := 12) (by decide +kernel) rfl
theorem d_Reader_readAll_47 : decode b_Reader_readAll 47 = .ok (.getfield 51, 3) := dc_180 (a := 0) (b := 51) (by decide +kernel) rfl
theorem d_Reader_readAll_50 : decode b_Reader_readAll 50 = .ok (.ifCond .eq 23, 3) := dc_153 (a := 0) (b := 23) (by decide +kernel) rfl
theorem d_Reader_readAll_53 : decode b_Reader_readAll 53 = .ok (.aload_n 0, 1) := dc_42 (by decide +kernel)
theorem d_Reader_readAll_54 : decode b_Reader_readAll 54 = .ok (.invokevirtual 54, 3) := dc_182 (a := 0) (b := 54) (by decide +kernel) rfl
theorem d_Reader_readAll_57 : decode b_Reader_readAll 57 = .ok (.ifCond .eq 16, 3) := dc_153 (a := 0) (b := 16) (by decide +kernel) rfl
theorem d_Reader_readAll_60 : decode b_Reader_readAll 60 = .ok (.iinc 1 1, 3) := dc_132 (a := 1) (b := 1) (by decide +kernel) rfl
theorem d_Reader_readAll_63 : decode b_Reader_readAll 63 = .ok (.aload_n 0, 1) := dc_42 (by decide +kernel)
theorem d_Reader_readAll_64 : decode b_Reader_readAll 64 = .ok (.getfield 12, 3) := dc_180 (a := 0) (b := 12) (by decide +kernel) rfl
theorem d_Reader_readAll_67 : decode b_Reader_readAll 67 = .ok (.invokevirtual 48, 3) := dc_182 (a := 0) (b := 48) (by decide +kernel) rfl
theorem d_Reader_readAll_70 : decode b_Reader_readAll 70 = .ok (.goto (-34), 3) := dc_167 (a := 255) (b := 222) (by decide +kernel) rfl
theorem d_Reader_readAll_73 : decode b_Reader_readAll 73 = .ok (.aload_n 0, 1) := dc_42 (by decide +kernel)
theorem d_Reader_readAll_74 : decode b_Reader_readAll 74 = .ok (.getfield 41, 3) := dc_180 (a := 0) (b := 41) (by decide +kernel) rfl
theorem d_Reader_readAll_77 : decode b_Reader_readAll 77 = .ok (.ifCond .ne 24, 3) := dc_154 (a := 0) (b := 24) (by decide +kernel) rfl
theorem d_Reader_readAll_80 : decode b_Reader_readAll 80 = .ok (.aload_n 0, 1) := dc_42 (by decide +kernel)
theorem d_Reader_readAll_81 : decode b_Reader_readAll 81 = .ok (.invokevirtual 58, 3) := dc_182 (a := 0) (b := 58) (by decide +kernel) rfl
theorem d_Reader_readAll_84 : decode b_Reader_readAll 84 = .ok (.ifCond .eq 17, 3) := dc_153 (a := 0) (b := 17) (by decide +kernel) rfl
theorem d_Reader_readAll_87 : decode b_Reader_readAll 87 = .ok (.aload_n 0, 1) := dc_42 (by decide +kernel)
theorem d_Reader_readAll_88 : decode b_Reader_readAll 88 = .ok (.bipush 6, 2) := dc_16 (a := 6) (by decide +kernel) rfl
theorem d_Reader_readAll_90 : decode b_Reader_readAll 90 = .ok (.aload_n 0, 1) := dc_42 (by decide +kernel)
theorem d_Reader_readAll_91 : decode b_Reader_readAll 91 = .ok (.getfield 12, 3) := dc_180 (a := 0) (b := 12) (by decide +kernel) rfl
theorem d_Reader_readAll_94 : decode b_Reader_readAll 94 = .ok (.getfield 61, 3) := dc_180 (a := 0) (b := 61) (by decide +kernel) rfl
theorem d_Reader_readAll_97 : decode b_Reader_readAll 97 = .ok (.invokevirtual 64, 3) := dc_182 (a := 0) (b := 64) (by decide +kernel) rfl
theorem d_Reader_readAll_100 : decode b_Reader_readAll 100 = .ok (.pop, 1) := dc_87 (by decide +kernel)
theorem d_Reader_readAll_101 : decode b_Reader_readAll 101 = .ok (.aload_n 0, 1) := dc_42 (by decide +kernel)
theorem d_Reader_readAll_102 : decode b_Reader_readAll 102 = .ok (.getfield 41, 3) := dc_180 (a := 0) (b := 41) (by decide +kernel) rfl
theorem d_Reader_readAll_105 : decode b_Reader_readAll 105 = .ok (.ifCond .ne 7, 3) := dc_154 (a := 0) (b := 7) (by decide +kernel) rfl
theorem d_Reader_readAll_108 : decode b_Reader_readAll 108 = .ok (.iload_n 1, 1) := dc_27 (by decide +kernel)
theorem d_Reader_readAll_109 : decode b_Reader_readAll 109 = .ok (.goto 10, 3) := dc_167 (a := 0) (b := 10) (by decide +kernel) rfl
theorem d_Reader_readAll_112 : decode b_Reader_readAll 112 = .ok (.bipush (-10), 2) := dc_16 (a := 246) (by decide +kernel) rfl
theorem d_Reader_readAll_114 : decode b_Reader_readAll 114 = .ok (.aload_n 0, 1) := dc_42 (by decide +kernel)
theorem d_Reader_readAll_115 : decode b_Reader_readAll 115 = .ok (.getfield 68, 3) := dc_180 (a := 0) (b := 68) (by decide +kernel) rfl
theorem d_Reader_readAll_118 : decode b_Reader_readAll 118 = .ok (.isub, 1) := dc_100 (by decide +kernel)
theorem d_Reader_readAll_119 : decode b_Reader_readAll 119 = .ok (.ireturn, 1) := dc_172 (by decide +kernel)
theorem d_Walks_shownIn_0 : decode b_Walks_shownIn 0 = .ok (.aload_n 0, 1) := dc_42 (by decide +kernel)
theorem d_Walks_shownIn_1 : decode b_Walks_shownIn 1 = .ok (.iload_n 1, 1) := dc_27 (by decide +kernel)
theorem d_Walks_shownIn_2 : decode b_Walks_shownIn 2 = .ok (.iload_n 2, 1) := dc_28 (by decide +kernel)
theorem d_Walks_shownIn_3 : decode b_Walks_shownIn 3 = .ok (.iload_n 3, 1) := dc_29 (by decide +kernel)
theorem d_Walks_shownIn_4 : decode b_Walks_shownIn 4 = .ok (.invokevirtual 40, 3) := dc_182 (a := 0) (b := 40) (by decide +kernel) rfl
theorem d_Walks_shownIn_7 : decode b_Walks_shownIn 7 = .ok (.ifCond .eq 7, 3) := dc_153 (a := 0) (b := 7) (by decide +kernel) rfl
theorem d_Walks_shownIn_10 : decode b_Walks_shownIn 10 = .ok (.iconst 2, 1) := dc_5 (by decide +kernel)
theorem d_Walks_shownIn_11 : decode b_Walks_shownIn 11 = .ok (.goto 4, 3) := dc_167 (a := 0) (b := 4) (by decide +kernel) rfl
theorem d_Walks_shownIn_14 : decode b_Walks_shownIn 14 = .ok (.iconst 0, 1) := dc_3 (by decide +kernel)
theorem d_Walks_shownIn_15 : decode b_Walks_shownIn 15 = .ok (.istore 4, 2) := dc_54 (a := 4) (by decide +kernel) rfl
theorem d_Walks_shownIn_17 : decode b_Walks_shownIn 17 = .ok (.aload_n 0, 1) := dc_42 (by decide +kernel)
theorem d_Walks_shownIn_18 : decode b_Walks_shownIn 18 = .ok (.getfield 20, 3) := dc_180 (a := 0) (b := 20) (by decide +kernel) rfl
theorem d_Walks_shownIn_21 : decode b_Walks_shownIn 21 = .ok (.getfield 44, 3) := dc_180 (a := 0) (b := 44) (by decide +kernel) rfl
theorem d_Walks_shownIn_24 : decode b_Walks_shownIn 24 = .ok (.iload_n 1, 1) := dc_27 (by decide +kernel)
theorem d_Walks_shownIn_25 : decode b_Walks_shownIn 25 = .ok (.iaload, 1) := dc_46 (by decide +kernel)
theorem d_Walks_shownIn_26 : decode b_Walks_shownIn 26 = .ok (.ifCond .le 10, 3) := dc_158 (a := 0) (b := 10) (by decide +kernel) rfl
theorem d_Walks_shownIn_29 : decode b_Walks_shownIn 29 = .ok (.iload 4, 2) := dc_21 (a := 4) (by decide +kernel) rfl
theorem d_Walks_shownIn_31 : decode b_Walks_shownIn 31 = .ok (.iconst 1, 1) := dc_4 (by decide +kernel)
theorem d_Walks_shownIn_32 : decode b_Walks_shownIn 32 = .ok (.isub, 1) := dc_100 (by decide +kernel)
theorem d_Walks_shownIn_33 : decode b_Walks_shownIn 33 = .ok (.goto 5, 3) := dc_167 (a := 0) (b := 5) (by decide +kernel) rfl
theorem d_Walks_shownIn_36 : decode b_Walks_shownIn 36 = .ok (.iload 4, 2) := dc_21 (a := 4) (by decide +kernel) rfl
theorem d_Walks_shownIn_38 : decode b_Walks_shownIn 38 = .ok (.ireturn, 1) := dc_172 (by decide +kernel)
theorem d_Walks_bestBeside_0 : decode b_Walks_bestBeside 0 = .ok (.iconst (-1), 1) := dc_2 (by decide +kernel)
theorem d_Walks_bestBeside_1 : decode b_Walks_bestBeside 1 = .ok (.istore 4, 2) := dc_54 (a := 4) (by decide +kernel) rfl
theorem d_Walks_bestBeside_3 : decode b_Walks_bestBeside 3 = .ok (.iconst 0, 1) := dc_3 (by decide +kernel)
theorem d_Walks_bestBeside_4 : decode b_Walks_bestBeside 4 = .ok (.istore 5, 2) := dc_54 (a := 5) (by decide +kernel) rfl
theorem d_Walks_bestBeside_6 : decode b_Walks_bestBeside 6 = .ok (.iload 5, 2) := dc_21 (a := 5) (by decide +kernel) rfl
theorem d_Walks_bestBeside_8 : decode b_Walks_bestBeside 8 = .ok (.iconst 4, 1) := dc_7 (by decide +kernel)
theorem d_Walks_bestBeside_9 : decode b_Walks_bestBeside 9 = .ok (.if_icmp .ge 53, 3) := dc_162 (a := 0) (b := 53) (by decide +kernel) rfl
theorem d_Walks_bestBeside_12 : decode b_Walks_bestBeside 12 = .ok (.aload_n 1, 1) := dc_43 (by decide +kernel)
theorem d_Walks_bestBeside_13 : decode b_Walks_bestBeside 13 = .ok (.iload_n 2, 1) := dc_28 (by decide +kernel)
theorem d_Walks_bestBeside_14 : decode b_Walks_bestBeside 14 = .ok (.iload 5, 2) := dc_21 (a := 5) (by decide +kernel) rfl
theorem d_Walks_bestBeside_16 : decode b_Walks_bestBeside 16 = .ok (.invokevirtual 47, 3) := dc_182 (a := 0) (b := 47) (by decide +kernel) rfl
theorem d_Walks_bestBeside_19 : decode b_Walks_bestBeside 19 = .ok (.istore 6, 2) := dc_54 (a := 6) (by decide +kernel) rfl
theorem d_Walks_bestBeside_21 : decode b_Walks_bestBeside 21 = .ok (.iload 6, 2) := dc_21 (a := 6) (by decide +kernel) rfl
theorem d_Walks_bestBeside_23 : decode b_Walks_bestBeside 23 = .ok (.ifCond .lt 33, 3) := dc_155 (a := 0) (b := 33) (by decide +kernel) rfl
theorem d_Walks_bestBeside_26 : decode b_Walks_bestBeside 26 = .ok (.iload 4, 2) := dc_21 (a := 4) (by decide +kernel) rfl
theorem d_Walks_bestBeside_28 : decode b_Walks_bestBeside 28 = .ok (.ifCond .lt 24, 3) := dc_155 (a := 0) (b := 24) (by decide +kernel) rfl
theorem d_Walks_bestBeside_31 : decode b_Walks_bestBeside 31 = .ok (.aload_n 0, 1) := dc_42 (by decide +kernel)
theorem d_Walks_bestBeside_32 : decode b_Walks_bestBeside 32 = .ok (.getfield 11, 3) := dc_180 (a := 0) (b := 11) (by decide +kernel) rfl
theorem d_Walks_bestBeside_35 : decode b_Walks_bestBeside 35 = .ok (.iload_n 3, 1) := dc_29 (by decide +kernel)
theorem d_Walks_bestBeside_36 : decode b_Walks_bestBeside 36 = .ok (.aaload, 1) := dc_50 (by decide +kernel)
theorem d_Walks_bestBeside_37 : decode b_Walks_bestBeside 37 = .ok (.iload 6, 2) := dc_21 (a := 6) (by decide +kernel) rfl
theorem d_Walks_bestBeside_39 : decode b_Walks_bestBeside 39 = .ok (.iaload, 1) := dc_46 (by decide +kernel)
theorem d_Walks_bestBeside_40 : decode b_Walks_bestBeside 40 = .ok (.aload_n 0, 1) := dc_42 (by decide +kernel)
theorem d_Walks_bestBeside_41 : decode b_Walks_bestBeside 41 = .ok (.getfield 11, 3) := dc_180 (a := 0) (b := 11) (by decide +kernel) rfl
theorem d_Walks_bestBeside_44 : decode b_Walks_bestBeside 44 = .ok (.iload_n 3, 1) := dc_29 (by decide +kernel)
theorem d_Walks_bestBeside_45 : decode b_Walks_bestBeside 45 = .ok (.aaload, 1) := dc_50 (by decide +kernel)
theorem d_Walks_bestBeside_46 : decode b_Walks_bestBeside 46 = .ok (.iload 4, 2) := dc_21 (a := 4) (by decide +kernel) rfl
theorem d_Walks_bestBeside_48 : decode b_Walks_bestBeside 48 = .ok (.iaload, 1) := dc_46 (by decide +kernel)
theorem d_Walks_bestBeside_49 : decode b_Walks_bestBeside 49 = .ok (.if_icmp .le 7, 3) := dc_164 (a := 0) (b := 7) (by decide +kernel) rfl
theorem d_Walks_bestBeside_52 : decode b_Walks_bestBeside 52 = .ok (.iload 6, 2) := dc_21 (a := 6) (by decide +kernel) rfl
theorem d_Walks_bestBeside_54 : decode b_Walks_bestBeside 54 = .ok (.istore 4, 2) := dc_54 (a := 4) (by decide +kernel) rfl
theorem d_Walks_bestBeside_56 : decode b_Walks_bestBeside 56 = .ok (.iinc 5 1, 3) := dc_132 (a := 5) (b := 1) (by decide +kernel) rfl
theorem d_Walks_bestBeside_59 : decode b_Walks_bestBeside 59 = .ok (.goto (-53), 3) := dc_167 (a := 255) (b := 203) (by decide +kernel) rfl
theorem d_Walks_bestBeside_62 : decode b_Walks_bestBeside 62 = .ok (.iload 4, 2) := dc_21 (a := 4) (by decide +kernel) rfl
theorem d_Walks_bestBeside_64 : decode b_Walks_bestBeside 64 = .ok (.ireturn, 1) := dc_172 (by decide +kernel)
theorem d_Walks_most_0 : decode b_Walks_most 0 = .ok (.bipush 10, 2) := dc_16 (a := 10) (by decide +kernel) rfl
theorem d_Walks_most_2 : decode b_Walks_most 2 = .ok (.aload_n 0, 1) := dc_42 (by decide +kernel)
theorem d_Walks_most_3 : decode b_Walks_most 3 = .ok (.getfield 11, 3) := dc_180 (a := 0) (b := 11) (by decide +kernel) rfl
theorem d_Walks_most_6 : decode b_Walks_most 6 = .ok (.iconst 0, 1) := dc_3 (by decide +kernel)
theorem d_Walks_most_7 : decode b_Walks_most 7 = .ok (.aaload, 1) := dc_50 (by decide +kernel)
theorem d_Walks_most_8 : decode b_Walks_most 8 = .ok (.iload_n 1, 1) := dc_27 (by decide +kernel)
theorem d_Walks_most_9 : decode b_Walks_most 9 = .ok (.iaload, 1) := dc_46 (by decide +kernel)
theorem d_Walks_most_10 : decode b_Walks_most 10 = .ok (.iadd, 1) := dc_96 (by decide +kernel)
theorem d_Walks_most_11 : decode b_Walks_most 11 = .ok (.ireturn, 1) := dc_172 (by decide +kernel)
theorem d_Walks_find_0 : decode b_Walks_find 0 = .ok (.iload 4, 2) := dc_21 (a := 4) (by decide +kernel) rfl
theorem d_Walks_find_2 : decode b_Walks_find 2 = .ok (.iconst 1, 1) := dc_4 (by decide +kernel)
theorem d_Walks_find_3 : decode b_Walks_find 3 = .ok (.isub, 1) := dc_100 (by decide +kernel)
theorem d_Walks_find_4 : decode b_Walks_find 4 = .ok (.istore 5, 2) := dc_54 (a := 5) (by decide +kernel) rfl
theorem d_Walks_find_6 : decode b_Walks_find 6 = .ok (.iload 5, 2) := dc_21 (a := 5) (by decide +kernel) rfl
theorem d_Walks_find_8 : decode b_Walks_find 8 = .ok (.ifCond .lt 102, 3) := dc_155 (a := 0) (b := 102) (by decide +kernel) rfl
theorem d_Walks_find_11 : decode b_Walks_find 11 = .ok (.iconst 0, 1) := dc_3 (by decide +kernel)
theorem d_Walks_find_12 : decode b_Walks_find 12 = .ok (.istore 6, 2) := dc_54 (a := 6) (by decide +kernel) rfl
theorem d_Walks_find_14 : decode b_Walks_find 14 = .ok (.iload 6, 2) := dc_21 (a := 6) (by decide +kernel) rfl
theorem d_Walks_find_16 : decode b_Walks_find 16 = .ok (.aload_n 1, 1) := dc_43 (by decide +kernel)
theorem d_Walks_find_17 : decode b_Walks_find 17 = .ok (.getfield 20, 3) := dc_180 (a := 0) (b := 20) (by decide +kernel) rfl
theorem d_Walks_find_20 : decode b_Walks_find 20 = .ok (.invokevirtual 26, 3) := dc_182 (a := 0) (b := 26) (by decide +kernel) rfl
theorem d_Walks_find_23 : decode b_Walks_find 23 = .ok (.if_icmp .ge 81, 3) := dc_162 (a := 0) (b := 81) (by decide +kernel) rfl
theorem d_Walks_find_26 : decode b_Walks_find 26 = .ok (.iload 5, 2) := dc_21 (a := 5) (by decide +kernel) rfl
theorem d_Walks_find_28 : decode b_Walks_find 28 = .ok (.iload 4, 2) := dc_21 (a := 4) (by decide +kernel) rfl
theorem d_Walks_find_30 : decode b_Walks_find 30 = .ok (.iconst 1, 1) := dc_4 (by decide +kernel)
theorem d_Walks_find_31 : decode b_Walks_find 31 = .ok (.isub, 1) := dc_100 (by decide +kernel)
theorem d_Walks_find_32 : decode b_Walks_find 32 = .ok (.if_icmp .ge 20, 3) := dc_162 (a := 0) (b := 20) (by decide +kernel) rfl
theorem d_Walks_find_35 : decode b_Walks_find 35 = .ok (.aload_n 0, 1) := dc_42 (by decide +kernel)
theorem d_Walks_find_36 : decode b_Walks_find 36 = .ok (.aload_n 1, 1) := dc_43 (by decide +kernel)
theorem d_Walks_find_37 : decode b_Walks_find 37 = .ok (.getfield 20, 3) := dc_180 (a := 0) (b := 20) (by decide +kernel) rfl
theorem d_Walks_find_40 : decode b_Walks_find 40 = .ok (.iload 6, 2) := dc_21 (a := 6) (by decide +kernel) rfl
theorem d_Walks_find_42 : decode b_Walks_find 42 = .ok (.iload 5, 2) := dc_21 (a := 5) (by decide +kernel) rfl
theorem d_Walks_find_44 : decode b_Walks_find 44 = .ok (.iconst 1, 1) := dc_4 (by decide +kernel)
theorem d_Walks_find_45 : decode b_Walks_find 45 = .ok (.iadd, 1) := dc_96 (by decide +kernel)
theorem d_Walks_find_46 : decode b_Walks_find 46 = .ok (.invokevirtual 32, 3) := dc_182 (a := 0) (b := 32) (by decide +kernel) rfl
theorem d_Walks_find_49 : decode b_Walks_find 49 = .ok (.goto 4, 3) := dc_167 (a := 0) (b := 4) (by decide +kernel) rfl
theorem d_Walks_find_52 : decode b_Walks_find 52 = .ok (.iconst (-1), 1) := dc_2 (by decide +kernel)
theorem d_Walks_find_53 : decode b_Walks_find 53 = .ok (.istore 7, 2) := dc_54 (a := 7) (by decide +kernel) rfl
theorem d_Walks_find_55 : decode b_Walks_find 55 = .ok (.aload_n 0, 1) := dc_42 (by decide +kernel)
theorem d_Walks_find_56 : decode b_Walks_find 56 = .ok (.getfield 11, 3) := dc_180 (a := 0) (b := 11) (by decide +kernel) rfl
theorem d_Walks_find_59 : decode b_Walks_find 59 = .ok (.iload 5, 2) := dc_21 (a := 5) (by decide +kernel) rfl
theorem d_Walks_find_61 : decode b_Walks_find 61 = .ok (.aaload, 1) := dc_50 (by decide +kernel)
theorem d_Walks_find_62 : decode b_Walks_find 62 = .ok (.iload 6, 2) := dc_21 (a := 6) (by decide +kernel) rfl
theorem d_Walks_find_64 : decode b_Walks_find 64 = .ok (.aload_n 1, 1) := dc_43 (by decide +kernel)
theorem d_Walks_find_65 : decode b_Walks_find 65 = .ok (.iload 6, 2) := dc_21 (a := 6) (by decide +kernel) rfl
theorem d_Walks_find_67 : decode b_Walks_find 67 = .ok (.iload_n 3, 1) := dc_29 (by decide +kernel)
theorem d_Walks_find_68 : decode b_Walks_find 68 = .ok (.iload 5, 2) := dc_21 (a := 5) (by decide +kernel) rfl
theorem d_Walks_find_70 : decode b_Walks_find 70 = .ok (.iconst 1, 1) := dc_4 (by decide +kernel)
theorem d_Walks_find_71 : decode b_Walks_find 71 = .ok (.iadd, 1) := dc_96 (by decide +kernel)
theorem d_Walks_find_72 : decode b_Walks_find 72 = .ok (.invokestatic 36, 3) := dc_184 (a := 0) (b := 36) (by decide +kernel) rfl
theorem d_Walks_find_75 : decode b_Walks_find 75 = .ok (.iload 7, 2) := dc_21 (a := 7) (by decide +kernel) rfl
theorem d_Walks_find_77 : decode b_Walks_find 77 = .ok (.ifCond .ge 7, 3) := dc_156 (a := 0) (b := 7) (by decide +kernel) rfl
theorem d_Walks_find_80 : decode b_Walks_find 80 = .ok (.iconst 0, 1) := dc_3 (by decide +kernel)
theorem d_Walks_find_81 : decode b_Walks_find 81 = .ok (.goto 15, 3) := dc_167 (a := 0) (b := 15) (by decide +kernel) rfl
theorem d_Walks_find_84 : decode b_Walks_find 84 = .ok (.aload_n 0, 1) := dc_42 (by decide +kernel)
theorem d_Walks_find_85 : decode b_Walks_find 85 = .ok (.getfield 11, 3) := dc_180 (a := 0) (b := 11) (by decide +kernel) rfl
theorem d_Walks_find_88 : decode b_Walks_find 88 = .ok (.iload 5, 2) := dc_21 (a := 5) (by decide +kernel) rfl
theorem d_Walks_find_90 : decode b_Walks_find 90 = .ok (.iconst 1, 1) := dc_4 (by decide +kernel)
theorem d_Walks_find_91 : decode b_Walks_find 91 = .ok (.iadd, 1) := dc_96 (by decide +kernel)
theorem d_Walks_find_92 : decode b_Walks_find 92 = .ok (.aaload, 1) := dc_50 (by decide +kernel)
theorem d_Walks_find_93 : decode b_Walks_find 93 = .ok (.iload 7, 2) := dc_21 (a := 7) (by decide +kernel) rfl
theorem d_Walks_find_95 : decode b_Walks_find 95 = .ok (.iaload, 1) := dc_46 (by decide +kernel)
theorem d_Walks_find_96 : decode b_Walks_find 96 = .ok (.iadd, 1) := dc_96 (by decide +kernel)
theorem d_Walks_find_97 : decode b_Walks_find 97 = .ok (.iastore, 1) := dc_79 (by decide +kernel)
theorem d_Walks_find_98 : decode b_Walks_find 98 = .ok (.iinc 6 1, 3) := dc_132 (a := 6) (b := 1) (by decide +kernel) rfl
theorem d_Walks_find_101 : decode b_Walks_find 101 = .ok (.goto (-87), 3) := dc_167 (a := 255) (b := 169) (by decide +kernel) rfl
theorem d_Walks_find_104 : decode b_Walks_find 104 = .ok (.iinc 5 (-1), 3) := dc_132 (a := 5) (b := 255) (by decide +kernel) rfl
theorem d_Walks_find_107 : decode b_Walks_find 107 = .ok (.goto (-101), 3) := dc_167 (a := 255) (b := 155) (by decide +kernel) rfl
theorem d_Walks_find_110 : decode b_Walks_find 110 = .ok (.aload_n 0, 1) := dc_42 (by decide +kernel)
theorem d_Walks_find_111 : decode b_Walks_find 111 = .ok (.getfield 16, 3) := dc_180 (a := 0) (b := 16) (by decide +kernel) rfl
theorem d_Walks_find_114 : decode b_Walks_find 114 = .ok (.iconst 0, 1) := dc_3 (by decide +kernel)
theorem d_Walks_find_115 : decode b_Walks_find 115 = .ok (.iload_n 2, 1) := dc_28 (by decide +kernel)
theorem d_Walks_find_116 : decode b_Walks_find 116 = .ok (.iastore, 1) := dc_79 (by decide +kernel)
theorem d_Walks_find_117 : decode b_Walks_find 117 = .ok (.iconst 1, 1) := dc_4 (by decide +kernel)
theorem d_Walks_find_118 : decode b_Walks_find 118 = .ok (.istore 5, 2) := dc_54 (a := 5) (by decide +kernel) rfl
theorem d_Walks_find_120 : decode b_Walks_find 120 = .ok (.iload 5, 2) := dc_21 (a := 5) (by decide +kernel) rfl
theorem d_Walks_find_122 : decode b_Walks_find 122 = .ok (.iload 4, 2) := dc_21 (a := 4) (by decide +kernel) rfl
theorem d_Walks_find_124 : decode b_Walks_find 124 = .ok (.if_icmp .ge 35, 3) := dc_162 (a := 0) (b := 35) (by decide +kernel) rfl
theorem d_Walks_find_127 : decode b_Walks_find 127 = .ok (.aload_n 0, 1) := dc_42 (by decide +kernel)
theorem d_Walks_find_128 : decode b_Walks_find 128 = .ok (.getfield 16, 3) := dc_180 (a := 0) (b := 16) (by decide +kernel) rfl
theorem d_Walks_find_131 : decode b_Walks_find 131 = .ok (.iload 5, 2) := dc_21 (a := 5) (by decide +kernel) rfl
theorem d_Walks_find_133 : decode b_Walks_find 133 = .ok (.aload_n 0, 1) := dc_42 (by decide +kernel)
theorem d_Walks_find_134 : decode b_Walks_find 134 = .ok (.aload_n 1, 1) := dc_43 (by decide +kernel)
theorem d_Walks_find_135 : decode b_Walks_find 135 = .ok (.getfield 20, 3) := dc_180 (a := 0) (b := 20) (by decide +kernel) rfl
theorem d_Walks_find_138 : decode b_Walks_find 138 = .ok (.aload_n 0, 1) := dc_42 (by decide +kernel)
theorem d_Walks_find_139 : decode b_Walks_find 139 = .ok (.getfield 16, 3) := dc_180 (a := 0) (b := 16) (by decide +kernel) rfl
theorem d_Walks_find_142 : decode b_Walks_find 142 = .ok (.iload 5, 2) := dc_21 (a := 5) (by decide +kernel) rfl
theorem d_Walks_find_144 : decode b_Walks_find 144 = .ok (.iconst 1, 1) := dc_4 (by decide +kernel)
theorem d_Walks_find_145 : decode b_Walks_find 145 = .ok (.isub, 1) := dc_100 (by decide +kernel)
theorem d_Walks_find_146 : decode b_Walks_find 146 = .ok (.iaload, 1) := dc_46 (by decide +kernel)
theorem d_Walks_find_147 : decode b_Walks_find 147 = .ok (.iload 5, 2) := dc_21 (a := 5) (by decide +kernel) rfl
theorem d_Walks_find_149 : decode b_Walks_find 149 = .ok (.invokevirtual 32, 3) := dc_182 (a := 0) (b := 32) (by decide +kernel) rfl
theorem d_Walks_find_152 : decode b_Walks_find 152 = .ok (.iastore, 1) := dc_79 (by decide +kernel)
theorem d_Walks_find_153 : decode b_Walks_find 153 = .ok (.iinc 5 1, 3) := dc_132 (a := 5) (b := 1) (by decide +kernel) rfl
theorem d_Walks_find_156 : decode b_Walks_find 156 = .ok (.goto (-36), 3) := dc_167 (a := 255) (b := 220) (by decide +kernel) rfl
theorem d_Walks_find_159 : decode b_Walks_find 159 = .ok (.return_, 1) := dc_177 (by decide +kernel)
theorem d_Plans_likeliest_0 : decode b_Plans_likeliest 0 = .ok (.iconst (-1), 1) := dc_2 (by decide +kernel)
theorem d_Plans_likeliest_1 : decode b_Plans_likeliest 1 = .ok (.istore_n 3, 1) := dc_62 (by decide +kernel)
theorem d_Plans_likeliest_2 : decode b_Plans_likeliest 2 = .ok (.iconst 0, 1) := dc_3 (by decide +kernel)
theorem d_Plans_likeliest_3 : decode b_Plans_likeliest 3 = .ok (.istore 4, 2) := dc_54 (a := 4) (by decide +kernel) rfl
theorem d_Plans_likeliest_5 : decode b_Plans_likeliest 5 = .ok (.iload 4, 2) := dc_21 (a := 4) (by decide +kernel) rfl
theorem d_Plans_likeliest_7 : decode b_Plans_likeliest 7 = .ok (.aload_n 0, 1) := dc_42 (by decide +kernel)
theorem d_Plans_likeliest_8 : decode b_Plans_likeliest 8 = .ok (.invokevirtual 41, 3) := dc_182 (a := 0) (b := 41) (by decide +kernel) rfl
theorem d_Plans_likeliest_11 : decode b_Plans_likeliest 11 = .ok (.if_icmp .ge 74, 3) := dc_162 (a := 0) (b := 74) (by decide +kernel) rfl
theorem d_Plans_likeliest_14 : decode b_Plans_likeliest 14 = .ok (.aload_n 0, 1) := dc_42 (by decide +kernel)
theorem d_Plans_likeliest_15 : decode b_Plans_likeliest 15 = .ok (.getfield 44, 3) := dc_180 (a := 0) (b := 44) (by decide +kernel) rfl
theorem d_Plans_likeliest_18 : decode b_Plans_likeliest 18 = .ok (.iload 4, 2) := dc_21 (a := 4) (by decide +kernel) rfl
theorem d_Plans_likeliest_20 : decode b_Plans_likeliest 20 = .ok (.iaload, 1) := dc_46 (by decide +kernel)
theorem d_Plans_likeliest_21 : decode b_Plans_likeliest 21 = .ok (.iload_n 1, 1) := dc_27 (by decide +kernel)
theorem d_Plans_likeliest_22 : decode b_Plans_likeliest 22 = .ok (.if_icmp .ne 26, 3) := dc_160 (a := 0) (b := 26) (by decide +kernel) rfl
theorem d_Plans_likeliest_25 : decode b_Plans_likeliest 25 = .ok (.aload_n 0, 1) := dc_42 (by decide +kernel)
theorem d_Plans_likeliest_26 : decode b_Plans_likeliest 26 = .ok (.getfield 47, 3) := dc_180 (a := 0) (b := 47) (by decide +kernel) rfl
theorem d_Plans_likeliest_29 : decode b_Plans_likeliest 29 = .ok (.iload 4, 2) := dc_21 (a := 4) (by decide +kernel) rfl
theorem d_Plans_likeliest_31 : decode b_Plans_likeliest 31 = .ok (.iaload, 1) := dc_46 (by decide +kernel)
theorem d_Plans_likeliest_32 : decode b_Plans_likeliest 32 = .ok (.ifCond .ne 16, 3) := dc_154 (a := 0) (b := 16) (by decide +kernel) rfl
theorem d_Plans_likeliest_35 : decode b_Plans_likeliest 35 = .ok (.iload_n 2, 1) := dc_28 (by decide +kernel)
theorem d_Plans_likeliest_36 : decode b_Plans_likeliest 36 = .ok (.iload 4, 2) := dc_21 (a := 4) (by decide +kernel) rfl
theorem d_Plans_likeliest_38 : decode b_Plans_likeliest 38 = .ok (.ishr, 1) := dc_122 (by decide +kernel)
theorem d_Plans_likeliest_39 : decode b_Plans_likeliest 39 = .ok (.iconst 1, 1) := dc_4 (by decide +kernel)
theorem d_Plans_likeliest_40 : decode b_Plans_likeliest 40 = .ok (.iand, 1) := dc_126 (by decide +kernel)
theorem d_Plans_likeliest_41 : decode b_Plans_likeliest 41 = .ok (.ifCond .ne 7, 3) := dc_154 (a := 0) (b := 7) (by decide +kernel) rfl
theorem d_Plans_likeliest_44 : decode b_Plans_likeliest 44 = .ok (.iconst 1, 1) := dc_4 (by decide +kernel)
theorem d_Plans_likeliest_45 : decode b_Plans_likeliest 45 = .ok (.goto 4, 3) := dc_167 (a := 0) (b := 4) (by decide +kernel) rfl
theorem d_Plans_likeliest_48 : decode b_Plans_likeliest 48 = .ok (.iconst 0, 1) := dc_3 (by decide +kernel)
theorem d_Plans_likeliest_49 : decode b_Plans_likeliest 49 = .ok (.istore 5, 2) := dc_54 (a := 5) (by decide +kernel) rfl
theorem d_Plans_likeliest_51 : decode b_Plans_likeliest 51 = .ok (.iload 5, 2) := dc_21 (a := 5) (by decide +kernel) rfl
theorem d_Plans_likeliest_53 : decode b_Plans_likeliest 53 = .ok (.ifCond .eq 26, 3) := dc_153 (a := 0) (b := 26) (by decide +kernel) rfl
theorem d_Plans_likeliest_56 : decode b_Plans_likeliest 56 = .ok (.iload_n 3, 1) := dc_29 (by decide +kernel)
theorem d_Plans_likeliest_57 : decode b_Plans_likeliest 57 = .ok (.ifCond .lt 19, 3) := dc_155 (a := 0) (b := 19) (by decide +kernel) rfl
theorem d_Plans_likeliest_60 : decode b_Plans_likeliest 60 = .ok (.aload_n 0, 1) := dc_42 (by decide +kernel)
theorem d_Plans_likeliest_61 : decode b_Plans_likeliest 61 = .ok (.getfield 26, 3) := dc_180 (a := 0) (b := 26) (by decide +kernel) rfl
theorem d_Plans_likeliest_64 : decode b_Plans_likeliest 64 = .ok (.iload 4, 2) := dc_21 (a := 4) (by decide +kernel) rfl
theorem d_Plans_likeliest_66 : decode b_Plans_likeliest 66 = .ok (.iaload, 1) := dc_46 (by decide +kernel)
theorem d_Plans_likeliest_67 : decode b_Plans_likeliest 67 = .ok (.aload_n 0, 1) := dc_42 (by decide +kernel)
theorem d_Plans_likeliest_68 : decode b_Plans_likeliest 68 = .ok (.getfield 26, 3) := dc_180 (a := 0) (b := 26) (by decide +kernel) rfl
theorem d_Plans_likeliest_71 : decode b_Plans_likeliest 71 = .ok (.iload_n 3, 1) := dc_29 (by decide +kernel)
theorem d_Plans_likeliest_72 : decode b_Plans_likeliest 72 = .ok (.iaload, 1) := dc_46 (by decide +kernel)
theorem d_Plans_likeliest_73 : decode b_Plans_likeliest 73 = .ok (.if_icmp .le 6, 3) := dc_164 (a := 0) (b := 6) (by decide +kernel) rfl
theorem d_Plans_likeliest_76 : decode b_Plans_likeliest 76 = .ok (.iload 4, 2) := dc_21 (a := 4) (by decide +kernel) rfl
theorem d_Plans_likeliest_78 : decode b_Plans_likeliest 78 = .ok (.istore_n 3, 1) := dc_62 (by decide +kernel)
theorem d_Plans_likeliest_79 : decode b_Plans_likeliest 79 = .ok (.iinc 4 1, 3) := dc_132 (a := 4) (b := 1) (by decide +kernel) rfl
theorem d_Plans_likeliest_82 : decode b_Plans_likeliest 82 = .ok (.goto (-77), 3) := dc_167 (a := 255) (b := 179) (by decide +kernel) rfl
theorem d_Plans_likeliest_85 : decode b_Plans_likeliest 85 = .ok (.iload_n 3, 1) := dc_29 (by decide +kernel)
theorem d_Plans_likeliest_86 : decode b_Plans_likeliest 86 = .ok (.ireturn, 1) := dc_172 (by decide +kernel)
abbrev q_Plans_likeliest (h : Hp) (o : Int32) (oZ : Int) (d : Int32) (dZ : Int) : Option Value → Hp → Prop := pInt (fun r h' => h = h' ∧ (r.toInt = -1 ∨ 0 ≤ r.toInt ∧ r.toInt ≤ 15))
set_option maxRecDepth 100000 in
theorem c_Plans_likeliest (h : Hp) (hI : Inv h) (o : Int32) (oZ : Int) (oE : o.toInt = oZ) (d : Int32) (dZ : Int) (dE : d.toInt = dZ) : Ct y_Plans_likeliest b_Plans_likeliest 6 (some .int) 1 20 [.ref 1, .int o, .int d] h (q_Plans_likeliest h o oZ d dZ) := by
  refine ct_ow R_Plans [some (.ref 1), some (.int o), some (.int d), none, none, none] rfl (by decide) rfl (Nat.le_of_ble_eq_true rfl) ?_
  have f0 : fr [] h h := fr_rf
  refine V_iconst (-1) d_Plans_likeliest_0 (by decide) ?_
  refine V_istore_n 3 [some (.ref 1), some (.int o), some (.int d), some (.int (-1)), none, none] d_Plans_likeliest_1 rfl (by decide) rfl rfl ?_
  refine V_iconst 0 d_Plans_likeliest_2 (by decide) ?_
  refine V_istore 4 [some (.ref 1), some (.int o), some (.int d), some (.int (-1)), some (.int 0), none] d_Plans_likeliest_3 (by decide) rfl rfl ?_
  have L1 : ∀ (nn : Nat) (v3 : Int32) (v3Z : Int) (v4 : Int32) (v4Z : Int), v3.toInt = v3Z → v4.toInt = v4Z → (v3Z = -1 ∨ 0 ≤ v3Z ∧ v3Z ≤ 15) → 0 ≤ v4Z ∧ v4Z ≤ 16 → 16 - v4Z < (nn : Int) → V R_Plans b_Plans_likeliest 6 (some .int) 1 20 (q_Plans_likeliest h o oZ d dZ) h 5 [some (.ref 1), some (.int o), some (.int d), some (.int v3), some (.int v4), none] [] := by
    intro nn
    induction nn with
    | zero => intro v3 v3Z v4 v4Z v3E v4E q5 q6 hm7; exact absurd hm7 (by (first | decide +kernel | omega))
    | succ nn ihL1 =>
      intro v3 v3Z v4 v4Z v3E v4E q5 q6 hm7
      refine V_iload d_Plans_likeliest_5 rfl ?_
      refine V_aload_n 0 d_Plans_likeliest_7 rfl rfl ?_
      obtain ⟨z8, z8Z, z8E, z8e⟩ : ∃ (y : Int32) (Y : Int), y.toInt = Y ∧ y = h.1 1 0 := ⟨_, _, rfl, rfl⟩
      have g9 : 2 ≤ z8Z ∧ z8Z ≤ 4 := inv_at hI z8E z8e rfl
      obtain ⟨z10, z10Z, z10E, z10e⟩ : ∃ (y : Int32) (Y : Int), y.toInt = Y ∧ y = h.1 1 1 := ⟨_, _, rfl, rfl⟩
      have g11 : 2 ≤ z10Z ∧ z10Z ≤ 4 := inv_at hI z10E z10e rfl
      refine N_callVI [] [.int v4] cv_Plans_41 sk_1 rfl d_Plans_likeliest_8 rfl (Nat.le_of_ble_eq_true rfl) (by decide) (by decide) (c_Land_cells_0 h hI z8 z8Z z8E z8e.symm z10 z10Z z10E z10e.symm) (fun z12 h13 z12Z z12E p14 => ?_)
      obtain ⟨eh13, p14⟩ := p14
      subst eh13
      refine V_icmp_ge 85 v4E z12E d_Plans_likeliest_11 (by decide) (fun c15 => ?_) (fun c15 => ?_)
      ·
        refine V_iload_n 3 d_Plans_likeliest_85 rfl rfl ?_
        exact V_iret rfl d_Plans_likeliest_86 ⟨v3, rfl, ⟨rfl, (by (try rw [v3E]); omega)⟩⟩
      ·
        refine V_aload_n 0 d_Plans_likeliest_14 rfl rfl ?_
        refine V_getR fa_Plans_44 sk_1 rfl d_Plans_likeliest_15 ?_
        refine V_iload d_Plans_likeliest_18 rfl ?_
        refine N_iald sk_5 v4E (by (first | decide +kernel | omega)) d_Plans_likeliest_20 (fun z16 z16Z z16E z16e => ?_)
        refine V_iload_n 1 d_Plans_likeliest_21 rfl rfl ?_
        refine V_icmp_ne 48 z16E oE d_Plans_likeliest_22 (by decide) (fun c17 => ?_) (fun c17 => ?_)
        ·
          refine V_iconst 0 d_Plans_likeliest_48 (by decide) ?_
          refine V_istore 5 [some (.ref 1), some (.int o), some (.int d), some (.int v3), some (.int v4), some (.int 0)] d_Plans_likeliest_49 (by decide) rfl rfl ?_
          refine V_iload d_Plans_likeliest_51 rfl ?_
          refine V_if_eq 79 tc_0 d_Plans_likeliest_53 (by decide) (fun c18 => ?_) (fun c18 => ?_)
          ·
            obtain ⟨z19, z19E, z19e⟩ : ∃ y : Int32, y.toInt = v4Z + 1 ∧ y = v4 + Int32.ofInt 1 := ⟨_, ti_add v4E (by decide) (by (first | decide +kernel | omega)), rfl⟩
            refine V_iinc 4 [some (.ref 1), some (.int o), some (.int d), some (.int v3), some (.int z19), some (.int 0)] d_Plans_likeliest_79 rfl z19e.symm (by decide) rfl rfl ?_
            refine V_goto 5 d_Plans_likeliest_82 (by decide) ?_
            refine V_drop 5 [some (.ref 1), some (.int o), some (.int d), some (.int v3), some (.int z19), none] rfl ?_
            exact ihL1 v3 v3Z z19 ((v4Z + 1)) v3E z19E (by (first | decide +kernel | omega)) (by (first | decide +kernel | omega)) (by (first | decide +kernel | omega))
          ·
            exact absurd c18 (by decide)
        ·
          refine V_aload_n 0 d_Plans_likeliest_25 rfl rfl ?_
          refine V_getR fa_Plans_47 sk_1 rfl d_Plans_likeliest_26 ?_
          refine V_iload d_Plans_likeliest_29 rfl ?_
          refine N_iald sk_6 v4E (by (first | decide +kernel | omega)) d_Plans_likeliest_31 (fun z20 z20Z z20E z20e => ?_)
          refine V_if_ne 48 z20E d_Plans_likeliest_32 (by decide) (fun c21 => ?_) (fun c21 => ?_)
          ·
            refine V_iconst 0 d_Plans_likeliest_48 (by decide) ?_
            refine V_istore 5 [some (.ref 1), some (.int o), some (.int d), some (.int v3), some (.int v4), some (.int 0)] d_Plans_likeliest_49 (by decide) rfl rfl ?_
            refine V_iload d_Plans_likeliest_51 rfl ?_
            refine V_if_eq 79 tc_0 d_Plans_likeliest_53 (by decide) (fun c22 => ?_) (fun c22 => ?_)
            ·
              obtain ⟨z23, z23E, z23e⟩ : ∃ y : Int32, y.toInt = v4Z + 1 ∧ y = v4 + Int32.ofInt 1 := ⟨_, ti_add v4E (by decide) (by (first | decide +kernel | omega)), rfl⟩
              refine V_iinc 4 [some (.ref 1), some (.int o), some (.int d), some (.int v3), some (.int z23), some (.int 0)] d_Plans_likeliest_79 rfl z23e.symm (by decide) rfl rfl ?_
              refine V_goto 5 d_Plans_likeliest_82 (by decide) ?_
              refine V_drop 5 [some (.ref 1), some (.int o), some (.int d), some (.int v3), some (.int z23), none] rfl ?_
              exact ihL1 v3 v3Z z23 ((v4Z + 1)) v3E z23E (by (first | decide +kernel | omega)) (by (first | decide +kernel | omega)) (by (first | decide +kernel | omega))
            ·
              exact absurd c22 (by decide)
          ·
            refine V_iload_n 2 d_Plans_likeliest_35 rfl rfl ?_
            refine V_iload d_Plans_likeliest_36 rfl ?_
            refine N_ishr d_Plans_likeliest_38 (fun z24 z24Z z24E z24e => ?_)
            refine V_iconst 1 d_Plans_likeliest_39 (by decide) ?_
            refine N_iand d_Plans_likeliest_40 (fun z25 z25Z z25E z25e => ?_)
            refine V_if_ne 48 z25E d_Plans_likeliest_41 (by decide) (fun c26 => ?_) (fun c26 => ?_)
            ·
              refine V_iconst 0 d_Plans_likeliest_48 (by decide) ?_
              refine V_istore 5 [some (.ref 1), some (.int o), some (.int d), some (.int v3), some (.int v4), some (.int 0)] d_Plans_likeliest_49 (by decide) rfl rfl ?_
              refine V_iload d_Plans_likeliest_51 rfl ?_
              refine V_if_eq 79 tc_0 d_Plans_likeliest_53 (by decide) (fun c27 => ?_) (fun c27 => ?_)
              ·
                obtain ⟨z28, z28E, z28e⟩ : ∃ y : Int32, y.toInt = v4Z + 1 ∧ y = v4 + Int32.ofInt 1 := ⟨_, ti_add v4E (by decide) (by (first | decide +kernel | omega)), rfl⟩
                refine V_iinc 4 [some (.ref 1), some (.int o), some (.int d), some (.int v3), some (.int z28), some (.int 0)] d_Plans_likeliest_79 rfl z28e.symm (by decide) rfl rfl ?_
                refine V_goto 5 d_Plans_likeliest_82 (by decide) ?_
                refine V_drop 5 [some (.ref 1), some (.int o), some (.int d), some (.int v3), some (.int z28), none] rfl ?_
                exact ihL1 v3 v3Z z28 ((v4Z + 1)) v3E z28E (by (first | decide +kernel | omega)) (by (first | decide +kernel | omega)) (by (first | decide +kernel | omega))
              ·
                exact absurd c27 (by decide)
            ·
              refine V_iconst 1 d_Plans_likeliest_44 (by decide) ?_
              refine V_goto 49 d_Plans_likeliest_45 (by decide) ?_
              refine V_istore 5 [some (.ref 1), some (.int o), some (.int d), some (.int v3), some (.int v4), some (.int 1)] d_Plans_likeliest_49 (by decide) rfl rfl ?_
              refine V_iload d_Plans_likeliest_51 rfl ?_
              refine V_if_eq 79 tc_1 d_Plans_likeliest_53 (by decide) (fun c29 => ?_) (fun c29 => ?_)
              ·
                exact absurd c29 (by decide)
              ·
                refine V_iload_n 3 d_Plans_likeliest_56 rfl rfl ?_
                refine V_if_lt 76 v3E d_Plans_likeliest_57 (by decide) (fun c30 => ?_) (fun c30 => ?_)
                ·
                  refine V_iload d_Plans_likeliest_76 rfl ?_
                  refine V_istore_n 3 [some (.ref 1), some (.int o), some (.int d), some (.int v4), some (.int v4), some (.int 1)] d_Plans_likeliest_78 rfl (by decide) rfl rfl ?_
                  obtain ⟨z31, z31E, z31e⟩ : ∃ y : Int32, y.toInt = v4Z + 1 ∧ y = v4 + Int32.ofInt 1 := ⟨_, ti_add v4E (by decide) (by (first | decide +kernel | omega)), rfl⟩
                  refine V_iinc 4 [some (.ref 1), some (.int o), some (.int d), some (.int v4), some (.int z31), some (.int 1)] d_Plans_likeliest_79 rfl z31e.symm (by decide) rfl rfl ?_
                  refine V_goto 5 d_Plans_likeliest_82 (by decide) ?_
                  refine V_drop 5 [some (.ref 1), some (.int o), some (.int d), some (.int v4), some (.int z31), none] rfl ?_
                  exact ihL1 v4 v4Z z31 ((v4Z + 1)) v4E z31E (by (first | decide +kernel | omega)) (by (first | decide +kernel | omega)) (by (first | decide +kernel | omega))
                ·
                  refine V_aload_n 0 d_Plans_likeliest_60 rfl rfl ?_
                  refine V_getR fa_Plans_26 sk_1 rfl d_Plans_likeliest_61 ?_
                  refine V_iload d_Plans_likeliest_64 rfl ?_
                  refine N_iald sk_4 v4E (by (first | decide +kernel | omega)) d_Plans_likeliest_66 (fun z32 z32Z z32E z32e => ?_)
                  refine V_aload_n 0 d_Plans_likeliest_67 rfl rfl ?_
                  refine V_getR fa_Plans_26 sk_1 rfl d_Plans_likeliest_68 ?_
                  refine V_iload_n 3 d_Plans_likeliest_71 rfl rfl ?_
                  refine N_iald sk_4 v3E (by (first | decide +kernel | omega)) d_Plans_likeliest_72 (fun z33 z33Z z33E z33e => ?_)
                  refine V_icmp_le 79 z32E z33E d_Plans_likeliest_73 (by decide) (fun c34 => ?_) (fun c34 => ?_)
                  ·
                    obtain ⟨z35, z35E, z35e⟩ : ∃ y : Int32, y.toInt = v4Z + 1 ∧ y = v4 + Int32.ofInt 1 := ⟨_, ti_add v4E (by decide) (by (first | decide +kernel | omega)), rfl⟩
                    refine V_iinc 4 [some (.ref 1), some (.int o), some (.int d), some (.int v3), some (.int z35), some (.int 1)] d_Plans_likeliest_79 rfl z35e.symm (by decide) rfl rfl ?_
                    refine V_goto 5 d_Plans_likeliest_82 (by decide) ?_
                    refine V_drop 5 [some (.ref 1), some (.int o), some (.int d), some (.int v3), some (.int z35), none] rfl ?_
                    exact ihL1 v3 v3Z z35 ((v4Z + 1)) v3E z35E (by (first | decide +kernel | omega)) (by (first | decide +kernel | omega)) (by (first | decide +kernel | omega))
                  ·
                    refine V_iload d_Plans_likeliest_76 rfl ?_
                    refine V_istore_n 3 [some (.ref 1), some (.int o), some (.int d), some (.int v4), some (.int v4), some (.int 1)] d_Plans_likeliest_78 rfl (by decide) rfl rfl ?_
                    obtain ⟨z36, z36E, z36e⟩ : ∃ y : Int32, y.toInt = v4Z + 1 ∧ y = v4 + Int32.ofInt 1 := ⟨_, ti_add v4E (by decide) (by (first | decide +kernel | omega)), rfl⟩
                    refine V_iinc 4 [some (.ref 1), some (.int o), some (.int d), some (.int v4), some (.int z36), some (.int 1)] d_Plans_likeliest_79 rfl z36e.symm (by decide) rfl rfl ?_
                    refine V_goto 5 d_Plans_likeliest_82 (by decide) ?_
                    refine V_drop 5 [some (.ref 1), some (.int o), some (.int d), some (.int v4), some (.int z36), none] rfl ?_
                    exact ihL1 v4 v4Z z36 ((v4Z + 1)) v4E z36E (by (first | decide +kernel | omega)) (by (first | decide +kernel | omega)) (by (first | decide +kernel | omega))
  exact L1 (Int.toNat ((16 - 0 : Int) + 1)) (-1) ((-1)) 0 0 tc_m1 tc_0 (by (first | decide +kernel | omega)) (by (first | decide +kernel | omega)) (by (first | decide +kernel | omega))
theorem d_Plans_find_0 : decode b_Plans_find 0 = .ok (.aload_n 0, 1) := dc_42 (by decide +kernel)
theorem d_Plans_find_1 : decode b_Plans_find 1 = .ok (.iconst 0, 1) := dc_3 (by decide +kernel)
theorem d_Plans_find_2 : decode b_Plans_find 2 = .ok (.putfield 15, 3) := dc_181 (a := 0) (b := 15) (by decide +kernel) rfl
theorem d_Plans_find_5 : decode b_Plans_find 5 = .ok (.aload_n 0, 1) := dc_42 (by decide +kernel)
theorem d_Plans_find_6 : decode b_Plans_find 6 = .ok (.iconst 0, 1) := dc_3 (by decide +kernel)
theorem d_Plans_find_7 : decode b_Plans_find 7 = .ok (.putfield 19, 3) := dc_181 (a := 0) (b := 19) (by decide +kernel) rfl
theorem d_Plans_find_10 : decode b_Plans_find 10 = .ok (.iconst 0, 1) := dc_3 (by decide +kernel)
theorem d_Plans_find_11 : decode b_Plans_find 11 = .ok (.istore 5, 2) := dc_54 (a := 5) (by decide +kernel) rfl
theorem d_Plans_find_13 : decode b_Plans_find 13 = .ok (.iconst 1, 1) := dc_4 (by decide +kernel)
theorem d_Plans_find_14 : decode b_Plans_find 14 = .ok (.istore 6, 2) := dc_54 (a := 6) (by decide +kernel) rfl
theorem d_Plans_find_16 : decode b_Plans_find 16 = .ok (.sipush 1000, 3) := dc_17 (a := 3) (b := 232) (by decide +kernel) rfl
theorem d_Plans_find_19 : decode b_Plans_find 19 = .ok (.istore 7, 2) := dc_54 (a := 7) (by decide +kernel) rfl
theorem d_Plans_find_21 : decode b_Plans_find 21 = .ok (.iconst 1, 1) := dc_4 (by decide +kernel)
theorem d_Plans_find_22 : decode b_Plans_find 22 = .ok (.istore 8, 2) := dc_54 (a := 8) (by decide +kernel) rfl
theorem d_Plans_find_24 : decode b_Plans_find 24 = .ok (.iconst 0, 1) := dc_3 (by decide +kernel)
theorem d_Plans_find_25 : decode b_Plans_find 25 = .ok (.istore 9, 2) := dc_54 (a := 9) (by decide +kernel) rfl
theorem d_Plans_find_27 : decode b_Plans_find 27 = .ok (.iload 9, 2) := dc_21 (a := 9) (by decide +kernel) rfl
theorem d_Plans_find_29 : decode b_Plans_find 29 = .ok (.iload 4, 2) := dc_21 (a := 4) (by decide +kernel) rfl
theorem d_Plans_find_31 : decode b_Plans_find 31 = .ok (.if_icmp .ge 147, 3) := dc_162 (a := 0) (b := 147) (by decide +kernel) rfl
theorem d_Plans_find_34 : decode b_Plans_find 34 = .ok (.iload 8, 2) := dc_21 (a := 8) (by decide +kernel) rfl
theorem d_Plans_find_36 : decode b_Plans_find 36 = .ok (.ifCond .eq 142, 3) := dc_153 (a := 0) (b := 142) (by decide +kernel) rfl
theorem d_Plans_find_39 : decode b_Plans_find 39 = .ok (.aload_n 1, 1) := dc_43 (by decide +kernel)
theorem d_Plans_find_40 : decode b_Plans_find 40 = .ok (.iload_n 2, 1) := dc_28 (by decide +kernel)
theorem d_Plans_find_41 : decode b_Plans_find 41 = .ok (.iload 5, 2) := dc_21 (a := 5) (by decide +kernel) rfl
theorem d_Plans_find_43 : decode b_Plans_find 43 = .ok (.invokestatic 22, 3) := dc_184 (a := 0) (b := 22) (by decide +kernel) rfl
theorem d_Plans_find_46 : decode b_Plans_find 46 = .ok (.istore 10, 2) := dc_54 (a := 10) (by decide +kernel) rfl
theorem d_Plans_find_48 : decode b_Plans_find 48 = .ok (.iload 10, 2) := dc_21 (a := 10) (by decide +kernel) rfl
theorem d_Plans_find_50 : decode b_Plans_find 50 = .ok (.ifCond .ge 7, 3) := dc_156 (a := 0) (b := 7) (by decide +kernel) rfl
theorem d_Plans_find_53 : decode b_Plans_find 53 = .ok (.iconst 0, 1) := dc_3 (by decide +kernel)
theorem d_Plans_find_54 : decode b_Plans_find 54 = .ok (.goto 25, 3) := dc_167 (a := 0) (b := 25) (by decide +kernel) rfl
theorem d_Plans_find_57 : decode b_Plans_find 57 = .ok (.aload_n 1, 1) := dc_43 (by decide +kernel)
theorem d_Plans_find_58 : decode b_Plans_find 58 = .ok (.getfield 26, 3) := dc_180 (a := 0) (b := 26) (by decide +kernel) rfl
theorem d_Plans_find_61 : decode b_Plans_find 61 = .ok (.iload 10, 2) := dc_21 (a := 10) (by decide +kernel) rfl
theorem d_Plans_find_63 : decode b_Plans_find 63 = .ok (.iaload, 1) := dc_46 (by decide +kernel)
theorem d_Plans_find_64 : decode b_Plans_find 64 = .ok (.aload_n 1, 1) := dc_43 (by decide +kernel)
theorem d_Plans_find_65 : decode b_Plans_find 65 = .ok (.getfield 31, 3) := dc_180 (a := 0) (b := 31) (by decide +kernel) rfl
theorem d_Plans_find_68 : decode b_Plans_find 68 = .ok (.imul, 1) := dc_104 (by decide +kernel)
theorem d_Plans_find_69 : decode b_Plans_find 69 = .ok (.bipush 10, 2) := dc_16 (a := 10) (by decide +kernel) rfl
theorem d_Plans_find_71 : decode b_Plans_find 71 = .ok (.aload_n 1, 1) := dc_43 (by decide +kernel)
theorem d_Plans_find_72 : decode b_Plans_find 72 = .ok (.getfield 34, 3) := dc_180 (a := 0) (b := 34) (by decide +kernel) rfl
theorem d_Plans_find_75 : decode b_Plans_find 75 = .ok (.imul, 1) := dc_104 (by decide +kernel)
theorem d_Plans_find_76 : decode b_Plans_find 76 = .ok (.iload_n 3, 1) := dc_29 (by decide +kernel)
theorem d_Plans_find_77 : decode b_Plans_find 77 = .ok (.imul, 1) := dc_104 (by decide +kernel)
theorem d_Plans_find_78 : decode b_Plans_find 78 = .ok (.isub, 1) := dc_100 (by decide +kernel)
theorem d_Plans_find_79 : decode b_Plans_find 79 = .ok (.istore 11, 2) := dc_54 (a := 11) (by decide +kernel) rfl
theorem d_Plans_find_81 : decode b_Plans_find 81 = .ok (.iload 11, 2) := dc_21 (a := 11) (by decide +kernel) rfl
theorem d_Plans_find_83 : decode b_Plans_find 83 = .ok (.ifCond .le 12, 3) := dc_158 (a := 0) (b := 12) (by decide +kernel) rfl
theorem d_Plans_find_86 : decode b_Plans_find 86 = .ok (.iload 6, 2) := dc_21 (a := 6) (by decide +kernel) rfl
theorem d_Plans_find_88 : decode b_Plans_find 88 = .ok (.ifCond .le 7, 3) := dc_158 (a := 0) (b := 7) (by decide +kernel) rfl
theorem d_Plans_find_91 : decode b_Plans_find 91 = .ok (.iconst 1, 1) := dc_4 (by decide +kernel)
theorem d_Plans_find_92 : decode b_Plans_find 92 = .ok (.goto 4, 3) := dc_167 (a := 0) (b := 4) (by decide +kernel) rfl
theorem d_Plans_find_95 : decode b_Plans_find 95 = .ok (.iconst 0, 1) := dc_3 (by decide +kernel)
theorem d_Plans_find_96 : decode b_Plans_find 96 = .ok (.istore 8, 2) := dc_54 (a := 8) (by decide +kernel) rfl
theorem d_Plans_find_98 : decode b_Plans_find 98 = .ok (.iload 8, 2) := dc_21 (a := 8) (by decide +kernel) rfl
theorem d_Plans_find_100 : decode b_Plans_find 100 = .ok (.ifCond .eq 72, 3) := dc_153 (a := 0) (b := 72) (by decide +kernel) rfl
theorem d_Plans_find_103 : decode b_Plans_find 103 = .ok (.iload 5, 2) := dc_21 (a := 5) (by decide +kernel) rfl
theorem d_Plans_find_105 : decode b_Plans_find 105 = .ok (.iconst 1, 1) := dc_4 (by decide +kernel)
theorem d_Plans_find_106 : decode b_Plans_find 106 = .ok (.iload 10, 2) := dc_21 (a := 10) (by decide +kernel) rfl
theorem d_Plans_find_108 : decode b_Plans_find 108 = .ok (.ishl, 1) := dc_120 (by decide +kernel)
theorem d_Plans_find_109 : decode b_Plans_find 109 = .ok (.ior, 1) := dc_128 (by decide +kernel)
theorem d_Plans_find_110 : decode b_Plans_find 110 = .ok (.istore 5, 2) := dc_54 (a := 5) (by decide +kernel) rfl
theorem d_Plans_find_112 : decode b_Plans_find 112 = .ok (.aload_n 0, 1) := dc_42 (by decide +kernel)
theorem d_Plans_find_113 : decode b_Plans_find 113 = .ok (.getfield 9, 3) := dc_180 (a := 0) (b := 9) (by decide +kernel) rfl
theorem d_Plans_find_116 : decode b_Plans_find 116 = .ok (.aload_n 0, 1) := dc_42 (by decide +kernel)
theorem d_Plans_find_117 : decode b_Plans_find 117 = .ok (.getfield 15, 3) := dc_180 (a := 0) (b := 15) (by decide +kernel) rfl
theorem d_Plans_find_120 : decode b_Plans_find 120 = .ok (.iload 10, 2) := dc_21 (a := 10) (by decide +kernel) rfl
theorem d_Plans_find_122 : decode b_Plans_find 122 = .ok (.iastore, 1) := dc_79 (by decide +kernel)
theorem d_Plans_find_123 : decode b_Plans_find 123 = .ok (.aload_n 0, 1) := dc_42 (by decide +kernel)
theorem d_Plans_find_124 : decode b_Plans_find 124 = .ok (.dup, 1) := dc_89 (by decide +kernel)
theorem d_Plans_find_125 : decode b_Plans_find 125 = .ok (.getfield 15, 3) := dc_180 (a := 0) (b := 15) (by decide +kernel) rfl
theorem d_Plans_find_128 : decode b_Plans_find 128 = .ok (.iconst 1, 1) := dc_4 (by decide +kernel)
theorem d_Plans_find_129 : decode b_Plans_find 129 = .ok (.iadd, 1) := dc_96 (by decide +kernel)
theorem d_Plans_find_130 : decode b_Plans_find 130 = .ok (.putfield 15, 3) := dc_181 (a := 0) (b := 15) (by decide +kernel) rfl
theorem d_Plans_find_133 : decode b_Plans_find 133 = .ok (.aload_n 0, 1) := dc_42 (by decide +kernel)
theorem d_Plans_find_134 : decode b_Plans_find 134 = .ok (.dup, 1) := dc_89 (by decide +kernel)
theorem d_Plans_find_135 : decode b_Plans_find 135 = .ok (.getfield 19, 3) := dc_180 (a := 0) (b := 19) (by decide +kernel) rfl
theorem d_Plans_find_138 : decode b_Plans_find 138 = .ok (.iload 6, 2) := dc_21 (a := 6) (by decide +kernel) rfl
theorem d_Plans_find_140 : decode b_Plans_find 140 = .ok (.iload 7, 2) := dc_21 (a := 7) (by decide +kernel) rfl
theorem d_Plans_find_142 : decode b_Plans_find 142 = .ok (.imul, 1) := dc_104 (by decide +kernel)
theorem d_Plans_find_143 : decode b_Plans_find 143 = .ok (.iload 11, 2) := dc_21 (a := 11) (by decide +kernel) rfl
theorem d_Plans_find_145 : decode b_Plans_find 145 = .ok (.imul, 1) := dc_104 (by decide +kernel)
theorem d_Plans_find_146 : decode b_Plans_find 146 = .ok (.iadd, 1) := dc_96 (by decide +kernel)
theorem d_Plans_find_147 : decode b_Plans_find 147 = .ok (.putfield 19, 3) := dc_181 (a := 0) (b := 19) (by decide +kernel) rfl
theorem d_Plans_find_150 : decode b_Plans_find 150 = .ok (.iload 6, 2) := dc_21 (a := 6) (by decide +kernel) rfl
theorem d_Plans_find_152 : decode b_Plans_find 152 = .ok (.bipush 10, 2) := dc_16 (a := 10) (by decide +kernel) rfl
theorem d_Plans_find_154 : decode b_Plans_find 154 = .ok (.aload_n 1, 1) := dc_43 (by decide +kernel)
theorem d_Plans_find_155 : decode b_Plans_find 155 = .ok (.getfield 26, 3) := dc_180 (a := 0) (b := 26) (by decide +kernel) rfl
theorem d_Plans_find_158 : decode b_Plans_find 158 = .ok (.iload 10, 2) := dc_21 (a := 10) (by decide +kernel) rfl
theorem d_Plans_find_160 : decode b_Plans_find 160 = .ok (.iaload, 1) := dc_46 (by decide +kernel)
theorem d_Plans_find_161 : decode b_Plans_find 161 = .ok (.isub, 1) := dc_100 (by decide +kernel)
theorem d_Plans_find_162 : decode b_Plans_find 162 = .ok (.imul, 1) := dc_104 (by decide +kernel)
theorem d_Plans_find_163 : decode b_Plans_find 163 = .ok (.istore 6, 2) := dc_54 (a := 6) (by decide +kernel) rfl
theorem d_Plans_find_165 : decode b_Plans_find 165 = .ok (.iload 7, 2) := dc_21 (a := 7) (by decide +kernel) rfl
theorem d_Plans_find_167 : decode b_Plans_find 167 = .ok (.bipush 10, 2) := dc_16 (a := 10) (by decide +kernel) rfl
theorem d_Plans_find_169 : decode b_Plans_find 169 = .ok (.idiv, 1) := dc_108 (by decide +kernel)
theorem d_Plans_find_170 : decode b_Plans_find 170 = .ok (.istore 7, 2) := dc_54 (a := 7) (by decide +kernel) rfl
theorem d_Plans_find_172 : decode b_Plans_find 172 = .ok (.iinc 9 1, 3) := dc_132 (a := 9) (b := 1) (by decide +kernel) rfl
theorem d_Plans_find_175 : decode b_Plans_find 175 = .ok (.goto (-148), 3) := dc_167 (a := 255) (b := 108) (by decide +kernel) rfl
theorem d_Plans_find_178 : decode b_Plans_find 178 = .ok (.return_, 1) := dc_177 (by decide +kernel)
def S_Plans_find : List (Nat × Option Nat) := [(102, some 1), (102, some 2), (103, none)]
abbrev q_Plans_find (h : Hp) (o : Int32) (oZ : Int) (d : Int32) (dZ : Int) (n : Int32) (nZ : Int) : Option Value → Hp → Prop := pVd (fun h' => Inv h' ∧ fr S_Plans_find h h')
set_option maxRecDepth 100000 in
theorem c_Plans_find (h : Hp) (hI : Inv h) (o : Int32) (oZ : Int) (oE : o.toInt = oZ) (d : Int32) (dZ : Int) (dE : d.toInt = dZ) (n : Int32) (nZ : Int) (nE : n.toInt = nZ) (hy0 : 0 ≤ nZ ∧ nZ ≤ 4) : Ct y_Plans_find b_Plans_find 12 none 2 45 [.ref 102, .ref 1, .int o, .int d, .int n] h (q_Plans_find h o oZ d dZ n nZ) := by
  refine ct_ow R_Plans [some (.ref 102), some (.ref 1), some (.int o), some (.int d), some (.int n), none, none, none, none, none, none, none] rfl (by decide) rfl (Nat.le_of_ble_eq_true rfl) ?_
  have f0 : fr S_Plans_find h h := fr_rf
  refine V_aload_n 0 d_Plans_find_0 rfl rfl ?_
  refine V_iconst 0 d_Plans_find_1 (by decide) ?_
  refine N_putI fp_Plans_15 sk_102 rfl d_Plans_find_2 (fun h1 eh1 => ?_)
  have hI2 : Inv h1 := inv_put (lo := 0) (hi := 4) hI eh1 rfl tc_0 (by (first | decide +kernel | omega))
  have f3 : fr S_Plans_find h h1 := fr_put f0 eh1 rfl
  refine V_aload_n 0 d_Plans_find_5 rfl rfl ?_
  refine V_iconst 0 d_Plans_find_6 (by decide) ?_
  refine N_putI fp_Plans_19 sk_102 rfl d_Plans_find_7 (fun h4 eh4 => ?_)
  have hI5 : Inv h4 := inv_full hI2 eh4 rfl
  have f6 : fr S_Plans_find h h4 := fr_put f3 eh4 rfl
  refine V_iconst 0 d_Plans_find_10 (by decide) ?_
  refine V_istore 5 [some (.ref 102), some (.ref 1), some (.int o), some (.int d), some (.int n), some (.int 0), none, none, none, none, none, none] d_Plans_find_11 (by decide) rfl rfl ?_
  refine V_iconst 1 d_Plans_find_13 (by decide) ?_
  refine V_istore 6 [some (.ref 102), some (.ref 1), some (.int o), some (.int d), some (.int n), some (.int 0), some (.int 1), none, none, none, none, none] d_Plans_find_14 (by decide) rfl rfl ?_
  refine V_sipush 1000 d_Plans_find_16 (by decide) ?_
  refine V_istore 7 [some (.ref 102), some (.ref 1), some (.int o), some (.int d), some (.int n), some (.int 0), some (.int 1), some (.int 1000), none, none, none, none] d_Plans_find_19 (by decide) rfl rfl ?_
  refine V_iconst 1 d_Plans_find_21 (by decide) ?_
  refine V_istore 8 [some (.ref 102), some (.ref 1), some (.int o), some (.int d), some (.int n), some (.int 0), some (.int 1), some (.int 1000), some (.int 1), none, none, none] d_Plans_find_22 (by decide) rfl rfl ?_
  refine V_iconst 0 d_Plans_find_24 (by decide) ?_
  refine V_istore 9 [some (.ref 102), some (.ref 1), some (.int o), some (.int d), some (.int n), some (.int 0), some (.int 1), some (.int 1000), some (.int 1), some (.int 0), none, none] d_Plans_find_25 (by decide) rfl rfl ?_
  have L7 : ∀ (nn : Nat) (v9 : Int32) (v9Z : Int) (v10 : Int32) (v10Z : Int) (v11 : Int32) (v11Z : Int) (v12 : Int32) (v12Z : Int) (v13 : Int32) (v13Z : Int) (h14 : Hp) (v15 : Int32) (v15Z : Int), v9.toInt = v9Z → v10.toInt = v10Z → v11.toInt = v11Z → v12.toInt = v12Z → v13.toInt = v13Z → Inv h14 → fr S_Plans_find h h14 → v15.toInt = v15Z → h14.1 102 1 = v15 → 0 ≤ v12Z ∧ v12Z ≤ 1 → 0 ≤ v13Z ∧ v13Z ≤ nZ → 0 ≤ v15Z ∧ v15Z ≤ v13Z → 0 ≤ v11Z → nZ - v13Z < (nn : Int) → V R_Plans b_Plans_find 12 none 2 45 (q_Plans_find h o oZ d dZ n nZ) h14 27 [some (.ref 102), some (.ref 1), some (.int o), some (.int d), some (.int n), some (.int v9), some (.int v10), some (.int v11), some (.int v12), some (.int v13), none, none] [] := by
    intro nn
    induction nn with
    | zero => intro v9 v9Z v10 v10Z v11 v11Z v12 v12Z v13 v13Z h14 v15 v15Z v9E v10E v11E v12E v13E Ih14 Fh14 v15E K16 q17 q18 q19 q20 hm21; exact absurd hm21 (by (first | decide +kernel | omega))
    | succ nn ihL7 =>
      intro v9 v9Z v10 v10Z v11 v11Z v12 v12Z v13 v13Z h14 v15 v15Z v9E v10E v11E v12E v13E Ih14 Fh14 v15E K16 q17 q18 q19 q20 hm21
      have g22 : 0 ≤ v15Z ∧ v15Z ≤ 4 := inv_at Ih14 v15E K16.symm rfl
      refine V_iload d_Plans_find_27 rfl ?_
      refine V_iload d_Plans_find_29 rfl ?_
      refine V_icmp_ge 178 v13E nE d_Plans_find_31 (by decide) (fun c23 => ?_) (fun c23 => ?_)
      ·
        exact V_vret rfl d_Plans_find_178 ⟨rfl, ⟨Ih14, Fh14⟩⟩
      ·
        refine V_iload d_Plans_find_34 rfl ?_
        refine V_if_eq 178 v12E d_Plans_find_36 (by decide) (fun c24 => ?_) (fun c24 => ?_)
        ·
          exact V_vret rfl d_Plans_find_178 ⟨rfl, ⟨Ih14, Fh14⟩⟩
        ·
          refine V_aload_n 1 d_Plans_find_39 rfl rfl ?_
          refine V_iload_n 2 d_Plans_find_40 rfl rfl ?_
          refine V_iload d_Plans_find_41 rfl ?_
          refine N_callSI [.ref 1, .int o, .int v9] [] cs_Plans_22 d_Plans_find_43 rfl (Nat.le_of_ble_eq_true rfl) (by decide) (by decide) (c_Plans_likeliest h14 Ih14 o oZ oE v9 v9Z v9E) (fun z25 h26 z25Z z25E p27 => ?_)
          obtain ⟨eh26, p27⟩ := p27
          subst eh26
          refine V_istore 10 [some (.ref 102), some (.ref 1), some (.int o), some (.int d), some (.int n), some (.int v9), some (.int v10), some (.int v11), some (.int v12), some (.int v13), some (.int z25), none] d_Plans_find_46 (by decide) rfl rfl ?_
          refine V_iload d_Plans_find_48 rfl ?_
          refine V_if_ge 57 z25E d_Plans_find_50 (by decide) (fun c28 => ?_) (fun c28 => ?_)
          ·
            refine V_aload_n 1 d_Plans_find_57 rfl rfl ?_
            refine V_getR fa_Plans_26 sk_1 rfl d_Plans_find_58 ?_
            refine V_iload d_Plans_find_61 rfl ?_
            refine N_iald sk_4 z25E (by (first | decide +kernel | omega)) d_Plans_find_63 (fun z29 z29Z z29E z29e => ?_)
            refine V_aload_n 1 d_Plans_find_64 rfl rfl ?_
            refine N_getI fa_Plans_31 sk_1 rfl d_Plans_find_65 (fun z30 z30Z z30E z30e => ?_)
            refine N_imulw d_Plans_find_68 (fun z31 z31Z z31E z31e => ?_)
            refine V_bipush 10 d_Plans_find_69 (by decide) ?_
            refine V_aload_n 1 d_Plans_find_71 rfl rfl ?_
            refine N_getI fa_Plans_34 sk_1 rfl d_Plans_find_72 (fun z32 z32Z z32E z32e => ?_)
            refine N_imulw d_Plans_find_75 (fun z33 z33Z z33E z33e => ?_)
            refine V_iload_n 3 d_Plans_find_76 rfl rfl ?_
            refine N_imulw d_Plans_find_77 (fun z34 z34Z z34E z34e => ?_)
            refine N_isubw d_Plans_find_78 (fun z35 z35Z z35E z35e => ?_)
            refine V_istore 11 [some (.ref 102), some (.ref 1), some (.int o), some (.int d), some (.int n), some (.int v9), some (.int v10), some (.int v11), some (.int v12), some (.int v13), some (.int z25), some (.int z35)] d_Plans_find_79 (by decide) rfl rfl ?_
            refine V_iload d_Plans_find_81 rfl ?_
            refine V_if_le 95 z35E d_Plans_find_83 (by decide) (fun c36 => ?_) (fun c36 => ?_)
            ·
              refine V_iconst 0 d_Plans_find_95 (by decide) ?_
              refine V_istore 8 [some (.ref 102), some (.ref 1), some (.int o), some (.int d), some (.int n), some (.int v9), some (.int v10), some (.int v11), some (.int 0), some (.int v13), some (.int z25), some (.int z35)] d_Plans_find_96 (by decide) rfl rfl ?_
              refine V_iload d_Plans_find_98 rfl ?_
              refine V_if_eq 172 tc_0 d_Plans_find_100 (by decide) (fun c37 => ?_) (fun c37 => ?_)
              ·
                obtain ⟨z38, z38E, z38e⟩ : ∃ y : Int32, y.toInt = v13Z + 1 ∧ y = v13 + Int32.ofInt 1 := ⟨_, ti_add v13E (by decide) (by (first | decide +kernel | omega)), rfl⟩
                refine V_iinc 9 [some (.ref 102), some (.ref 1), some (.int o), some (.int d), some (.int n), some (.int v9), some (.int v10), some (.int v11), some (.int 0), some (.int z38), some (.int z25), some (.int z35)] d_Plans_find_172 rfl z38e.symm (by decide) rfl rfl ?_
                refine V_goto 27 d_Plans_find_175 (by decide) ?_
                refine V_drop 10 [some (.ref 102), some (.ref 1), some (.int o), some (.int d), some (.int n), some (.int v9), some (.int v10), some (.int v11), some (.int 0), some (.int z38), none, some (.int z35)] rfl ?_
                refine V_drop 11 [some (.ref 102), some (.ref 1), some (.int o), some (.int d), some (.int n), some (.int v9), some (.int v10), some (.int v11), some (.int 0), some (.int z38), none, none] rfl ?_
                exact ihL7 v9 v9Z v10 v10Z v11 v11Z 0 0 z38 ((v13Z + 1)) h14 v15 v15Z v9E v10E v11E tc_0 z38E Ih14 Fh14 v15E K16 (by (first | decide +kernel | omega)) (by (first | decide +kernel | omega)) (by (first | decide +kernel | omega)) (by (first | decide +kernel | omega)) (by (first | decide +kernel | omega))
              ·
                exact absurd c37 (by decide)
            ·
              refine V_iload d_Plans_find_86 rfl ?_
              refine V_if_le 95 v10E d_Plans_find_88 (by decide) (fun c39 => ?_) (fun c39 => ?_)
              ·
                refine V_iconst 0 d_Plans_find_95 (by decide) ?_
                refine V_istore 8 [some (.ref 102), some (.ref 1), some (.int o), some (.int d), some (.int n), some (.int v9), some (.int v10), some (.int v11), some (.int 0), some (.int v13), some (.int z25), some (.int z35)] d_Plans_find_96 (by decide) rfl rfl ?_
                refine V_iload d_Plans_find_98 rfl ?_
                refine V_if_eq 172 tc_0 d_Plans_find_100 (by decide) (fun c40 => ?_) (fun c40 => ?_)
                ·
                  obtain ⟨z41, z41E, z41e⟩ : ∃ y : Int32, y.toInt = v13Z + 1 ∧ y = v13 + Int32.ofInt 1 := ⟨_, ti_add v13E (by decide) (by (first | decide +kernel | omega)), rfl⟩
                  refine V_iinc 9 [some (.ref 102), some (.ref 1), some (.int o), some (.int d), some (.int n), some (.int v9), some (.int v10), some (.int v11), some (.int 0), some (.int z41), some (.int z25), some (.int z35)] d_Plans_find_172 rfl z41e.symm (by decide) rfl rfl ?_
                  refine V_goto 27 d_Plans_find_175 (by decide) ?_
                  refine V_drop 10 [some (.ref 102), some (.ref 1), some (.int o), some (.int d), some (.int n), some (.int v9), some (.int v10), some (.int v11), some (.int 0), some (.int z41), none, some (.int z35)] rfl ?_
                  refine V_drop 11 [some (.ref 102), some (.ref 1), some (.int o), some (.int d), some (.int n), some (.int v9), some (.int v10), some (.int v11), some (.int 0), some (.int z41), none, none] rfl ?_
                  exact ihL7 v9 v9Z v10 v10Z v11 v11Z 0 0 z41 ((v13Z + 1)) h14 v15 v15Z v9E v10E v11E tc_0 z41E Ih14 Fh14 v15E K16 (by (first | decide +kernel | omega)) (by (first | decide +kernel | omega)) (by (first | decide +kernel | omega)) (by (first | decide +kernel | omega)) (by (first | decide +kernel | omega))
                ·
                  exact absurd c40 (by decide)
              ·
                refine V_iconst 1 d_Plans_find_91 (by decide) ?_
                refine V_goto 96 d_Plans_find_92 (by decide) ?_
                refine V_istore 8 [some (.ref 102), some (.ref 1), some (.int o), some (.int d), some (.int n), some (.int v9), some (.int v10), some (.int v11), some (.int 1), some (.int v13), some (.int z25), some (.int z35)] d_Plans_find_96 (by decide) rfl rfl ?_
                refine V_iload d_Plans_find_98 rfl ?_
                refine V_if_eq 172 tc_1 d_Plans_find_100 (by decide) (fun c42 => ?_) (fun c42 => ?_)
                ·
                  exact absurd c42 (by decide)
                ·
                  refine V_iload d_Plans_find_103 rfl ?_
                  refine V_iconst 1 d_Plans_find_105 (by decide) ?_
                  refine V_iload d_Plans_find_106 rfl ?_
                  refine N_ishl d_Plans_find_108 (fun z43 z43Z z43E z43e => ?_)
                  refine N_ior d_Plans_find_109 (fun z44 z44Z z44E z44e => ?_)
                  refine V_istore 5 [some (.ref 102), some (.ref 1), some (.int o), some (.int d), some (.int n), some (.int z44), some (.int v10), some (.int v11), some (.int 1), some (.int v13), some (.int z25), some (.int z35)] d_Plans_find_110 (by decide) rfl rfl ?_
                  refine V_aload_n 0 d_Plans_find_112 rfl rfl ?_
                  refine V_getR fa_Plans_9 sk_102 rfl d_Plans_find_113 ?_
                  refine V_aload_n 0 d_Plans_find_116 rfl rfl ?_
                  refine N_getK fa_Plans_15 sk_102 rfl d_Plans_find_117 K16 ?_
                  refine V_iload d_Plans_find_120 rfl ?_
                  refine N_iast sk_103 v15E (by (first | decide +kernel | omega)) d_Plans_find_122 (fun h45 eh45 => ?_)
                  have hI46 : Inv h45 := inv_full Ih14 eh45 rfl
                  have f47 : fr S_Plans_find h h45 := fr_put Fh14 eh45 rfl
                  refine V_aload_n 0 d_Plans_find_123 rfl rfl ?_
                  refine V_dup d_Plans_find_124 rfl ?_
                  refine N_getK fa_Plans_15 sk_102 rfl d_Plans_find_125 (kn_ne eh45 K16 (by decide)) ?_
                  refine V_iconst 1 d_Plans_find_128 (by decide) ?_
                  refine V_iadd v15E tc_1 (by (first | decide +kernel | omega)) d_Plans_find_129 (fun z48 z48e z48E => ?_)
                  refine N_putI fp_Plans_15 sk_102 rfl d_Plans_find_130 (fun h49 eh49 => ?_)
                  have hI50 : Inv h49 := inv_put (lo := 0) (hi := 4) hI46 eh49 rfl z48E (by (first | decide +kernel | omega))
                  have f51 : fr S_Plans_find h h49 := fr_put f47 eh49 rfl
                  refine V_aload_n 0 d_Plans_find_133 rfl rfl ?_
                  refine V_dup d_Plans_find_134 rfl ?_
                  refine N_getI fa_Plans_19 sk_102 rfl d_Plans_find_135 (fun z52 z52Z z52E z52e => ?_)
                  refine V_iload d_Plans_find_138 rfl ?_
                  refine V_iload d_Plans_find_140 rfl ?_
                  refine N_imulw d_Plans_find_142 (fun z53 z53Z z53E z53e => ?_)
                  refine V_iload d_Plans_find_143 rfl ?_
                  refine N_imulw d_Plans_find_145 (fun z54 z54Z z54E z54e => ?_)
                  refine N_iaddw d_Plans_find_146 (fun z55 z55Z z55E z55e => ?_)
                  refine N_putI fp_Plans_19 sk_102 rfl d_Plans_find_147 (fun h56 eh56 => ?_)
                  have hI57 : Inv h56 := inv_full hI50 eh56 rfl
                  have f58 : fr S_Plans_find h h56 := fr_put f51 eh56 rfl
                  refine V_iload d_Plans_find_150 rfl ?_
                  refine V_bipush 10 d_Plans_find_152 (by decide) ?_
                  refine V_aload_n 1 d_Plans_find_154 rfl rfl ?_
                  refine V_getR fa_Plans_26 sk_1 rfl d_Plans_find_155 ?_
                  refine V_iload d_Plans_find_158 rfl ?_
                  refine N_iald sk_4 z25E (by (first | decide +kernel | omega)) d_Plans_find_160 (fun z59 z59Z z59E z59e => ?_)
                  refine N_isubw d_Plans_find_161 (fun z60 z60Z z60E z60e => ?_)
                  refine N_imulw d_Plans_find_162 (fun z61 z61Z z61E z61e => ?_)
                  refine V_istore 6 [some (.ref 102), some (.ref 1), some (.int o), some (.int d), some (.int n), some (.int z44), some (.int z61), some (.int v11), some (.int 1), some (.int v13), some (.int z25), some (.int z35)] d_Plans_find_163 (by decide) rfl rfl ?_
                  refine V_iload d_Plans_find_165 rfl ?_
                  refine V_bipush 10 d_Plans_find_167 (by decide) ?_
                  refine N_idiv v11E tc_10 (by (first | decide +kernel | omega)) d_Plans_find_169 (fun z62 z62e z62E => ?_)
                  refine V_istore 7 [some (.ref 102), some (.ref 1), some (.int o), some (.int d), some (.int n), some (.int z44), some (.int z61), some (.int z62), some (.int 1), some (.int v13), some (.int z25), some (.int z35)] d_Plans_find_170 (by decide) rfl rfl ?_
                  obtain ⟨z63, z63E, z63e⟩ : ∃ y : Int32, y.toInt = v13Z + 1 ∧ y = v13 + Int32.ofInt 1 := ⟨_, ti_add v13E (by decide) (by (first | decide +kernel | omega)), rfl⟩
                  refine V_iinc 9 [some (.ref 102), some (.ref 1), some (.int o), some (.int d), some (.int n), some (.int z44), some (.int z61), some (.int z62), some (.int 1), some (.int z63), some (.int z25), some (.int z35)] d_Plans_find_172 rfl z63e.symm (by decide) rfl rfl ?_
                  refine V_goto 27 d_Plans_find_175 (by decide) ?_
                  refine V_drop 10 [some (.ref 102), some (.ref 1), some (.int o), some (.int d), some (.int n), some (.int z44), some (.int z61), some (.int z62), some (.int 1), some (.int z63), none, some (.int z35)] rfl ?_
                  refine V_drop 11 [some (.ref 102), some (.ref 1), some (.int o), some (.int d), some (.int n), some (.int z44), some (.int z61), some (.int z62), some (.int 1), some (.int z63), none, none] rfl ?_
                  exact ihL7 z44 z44Z z61 z61Z z62 ((v11Z / 10)) 1 1 z63 ((v13Z + 1)) h56 z48 ((v15Z + 1)) z44E z61E z62E tc_1 z63E hI57 f58 z48E (kn_nei eh56 (kn_put eh49) (by decide)) (by (first | decide +kernel | omega)) (by (first | decide +kernel | omega)) (by (first | decide +kernel | omega)) (by (first | decide +kernel | omega)) (by (first | decide +kernel | omega))
          ·
            refine V_iconst 0 d_Plans_find_53 (by decide) ?_
            refine V_goto 79 d_Plans_find_54 (by decide) ?_
            refine V_istore 11 [some (.ref 102), some (.ref 1), some (.int o), some (.int d), some (.int n), some (.int v9), some (.int v10), some (.int v11), some (.int v12), some (.int v13), some (.int z25), some (.int 0)] d_Plans_find_79 (by decide) rfl rfl ?_
            refine V_iload d_Plans_find_81 rfl ?_
            refine V_if_le 95 tc_0 d_Plans_find_83 (by decide) (fun c64 => ?_) (fun c64 => ?_)
            ·
              refine V_iconst 0 d_Plans_find_95 (by decide) ?_
              refine V_istore 8 [some (.ref 102), some (.ref 1), some (.int o), some (.int d), some (.int n), some (.int v9), some (.int v10), some (.int v11), some (.int 0), some (.int v13), some (.int z25), some (.int 0)] d_Plans_find_96 (by decide) rfl rfl ?_
              refine V_iload d_Plans_find_98 rfl ?_
              refine V_if_eq 172 tc_0 d_Plans_find_100 (by decide) (fun c65 => ?_) (fun c65 => ?_)
              ·
                obtain ⟨z66, z66E, z66e⟩ : ∃ y : Int32, y.toInt = v13Z + 1 ∧ y = v13 + Int32.ofInt 1 := ⟨_, ti_add v13E (by decide) (by (first | decide +kernel | omega)), rfl⟩
                refine V_iinc 9 [some (.ref 102), some (.ref 1), some (.int o), some (.int d), some (.int n), some (.int v9), some (.int v10), some (.int v11), some (.int 0), some (.int z66), some (.int z25), some (.int 0)] d_Plans_find_172 rfl z66e.symm (by decide) rfl rfl ?_
                refine V_goto 27 d_Plans_find_175 (by decide) ?_
                refine V_drop 10 [some (.ref 102), some (.ref 1), some (.int o), some (.int d), some (.int n), some (.int v9), some (.int v10), some (.int v11), some (.int 0), some (.int z66), none, some (.int 0)] rfl ?_
                refine V_drop 11 [some (.ref 102), some (.ref 1), some (.int o), some (.int d), some (.int n), some (.int v9), some (.int v10), some (.int v11), some (.int 0), some (.int z66), none, none] rfl ?_
                exact ihL7 v9 v9Z v10 v10Z v11 v11Z 0 0 z66 ((v13Z + 1)) h14 v15 v15Z v9E v10E v11E tc_0 z66E Ih14 Fh14 v15E K16 (by (first | decide +kernel | omega)) (by (first | decide +kernel | omega)) (by (first | decide +kernel | omega)) (by (first | decide +kernel | omega)) (by (first | decide +kernel | omega))
              ·
                exact absurd c65 (by decide)
            ·
              exact absurd c64 (by decide)
  exact L7 (Int.toNat ((nZ - 0 : Int) + 1)) 0 0 1 1 1000 1000 1 1 0 0 h4 0 0 tc_0 tc_1 tc_1000 tc_1 tc_0 hI5 f6 tc_0 (kn_nei eh4 (kn_put eh1) (by decide)) (by (first | decide +kernel | omega)) (by (first | decide +kernel | omega)) (by (first | decide +kernel | omega)) (by (first | decide +kernel | omega)) (by (first | decide +kernel | omega))
theorem d_Plans_commonDivisor_0 : decode b_Plans_commonDivisor 0 = .ok (.sipush 10000, 3) := dc_17 (a := 39) (b := 16) (by decide +kernel) rfl
theorem d_Plans_commonDivisor_3 : decode b_Plans_commonDivisor 3 = .ok (.istore_n 1, 1) := dc_60 (by decide +kernel)
theorem d_Plans_commonDivisor_4 : decode b_Plans_commonDivisor 4 = .ok (.aload_n 0, 1) := dc_42 (by decide +kernel)
theorem d_Plans_commonDivisor_5 : decode b_Plans_commonDivisor 5 = .ok (.getfield 19, 3) := dc_180 (a := 0) (b := 19) (by decide +kernel) rfl
theorem d_Plans_commonDivisor_8 : decode b_Plans_commonDivisor 8 = .ok (.istore_n 2, 1) := dc_61 (by decide +kernel)
theorem d_Plans_commonDivisor_9 : decode b_Plans_commonDivisor 9 = .ok (.iconst 0, 1) := dc_3 (by decide +kernel)
theorem d_Plans_commonDivisor_10 : decode b_Plans_commonDivisor 10 = .ok (.istore_n 3, 1) := dc_62 (by decide +kernel)
theorem d_Plans_commonDivisor_11 : decode b_Plans_commonDivisor 11 = .ok (.iload_n 3, 1) := dc_29 (by decide +kernel)
theorem d_Plans_commonDivisor_12 : decode b_Plans_commonDivisor 12 = .ok (.bipush 64, 2) := dc_16 (a := 64) (by decide +kernel) rfl
theorem d_Plans_commonDivisor_14 : decode b_Plans_commonDivisor 14 = .ok (.if_icmp .ge 23, 3) := dc_162 (a := 0) (b := 23) (by decide +kernel) rfl
theorem d_Plans_commonDivisor_17 : decode b_Plans_commonDivisor 17 = .ok (.iload_n 2, 1) := dc_28 (by decide +kernel)
theorem d_Plans_commonDivisor_18 : decode b_Plans_commonDivisor 18 = .ok (.ifCond .eq 19, 3) := dc_153 (a := 0) (b := 19) (by decide +kernel) rfl
theorem d_Plans_commonDivisor_21 : decode b_Plans_commonDivisor 21 = .ok (.iload_n 1, 1) := dc_27 (by decide +kernel)
theorem d_Plans_commonDivisor_22 : decode b_Plans_commonDivisor 22 = .ok (.iload_n 2, 1) := dc_28 (by decide +kernel)
theorem d_Plans_commonDivisor_23 : decode b_Plans_commonDivisor 23 = .ok (.irem, 1) := dc_112 (by decide +kernel)
theorem d_Plans_commonDivisor_24 : decode b_Plans_commonDivisor 24 = .ok (.istore 4, 2) := dc_54 (a := 4) (by decide +kernel) rfl
theorem d_Plans_commonDivisor_26 : decode b_Plans_commonDivisor 26 = .ok (.iload_n 2, 1) := dc_28 (by decide +kernel)
theorem d_Plans_commonDivisor_27 : decode b_Plans_commonDivisor 27 = .ok (.istore_n 1, 1) := dc_60 (by decide +kernel)
theorem d_Plans_commonDivisor_28 : decode b_Plans_commonDivisor 28 = .ok (.iload 4, 2) := dc_21 (a := 4) (by decide +kernel) rfl
theorem d_Plans_commonDivisor_30 : decode b_Plans_commonDivisor 30 = .ok (.istore_n 2, 1) := dc_61 (by decide +kernel)
theorem d_Plans_commonDivisor_31 : decode b_Plans_commonDivisor 31 = .ok (.iinc 3 1, 3) := dc_132 (a := 3) (b := 1) (by decide +kernel) rfl
theorem d_Plans_commonDivisor_34 : decode b_Plans_commonDivisor 34 = .ok (.goto (-23), 3) := dc_167 (a := 255) (b := 233) (by decide +kernel) rfl
theorem d_Plans_commonDivisor_37 : decode b_Plans_commonDivisor 37 = .ok (.iconst 1, 1) := dc_4 (by decide +kernel)
theorem d_Plans_commonDivisor_38 : decode b_Plans_commonDivisor 38 = .ok (.iload_n 1, 1) := dc_27 (by decide +kernel)
theorem d_Plans_commonDivisor_39 : decode b_Plans_commonDivisor 39 = .ok (.invokestatic 50, 3) := dc_184 (a := 0) (b := 50) (by decide +kernel) rfl
theorem d_Plans_commonDivisor_42 : decode b_Plans_commonDivisor 42 = .ok (.ireturn, 1) := dc_172 (by decide +kernel)
abbrev q_Plans_commonDivisor (h : Hp)  : Option Value → Hp → Prop := pInt (fun r h' => h = h' ∧ (1 ≤ r.toInt))
set_option maxRecDepth 100000 in
theorem c_Plans_commonDivisor (h : Hp) (hI : Inv h) : Ct y_Plans_commonDivisor b_Plans_commonDivisor 5 (some .int) 1 21 [.ref 102] h (q_Plans_commonDivisor h ) := by
  refine ct_ow R_Plans [some (.ref 102), none, none, none, none] rfl (by decide) rfl (Nat.le_of_ble_eq_true rfl) ?_
  have f0 : fr [] h h := fr_rf
  refine V_sipush 10000 d_Plans_commonDivisor_0 (by decide) ?_
  refine V_istore_n 1 [some (.ref 102), some (.int 10000), none, none, none] d_Plans_commonDivisor_3 rfl (by decide) rfl rfl ?_
  refine V_aload_n 0 d_Plans_commonDivisor_4 rfl rfl ?_
  refine N_getI fa_Plans_19 sk_102 rfl d_Plans_commonDivisor_5 (fun z1 z1Z z1E z1e => ?_)
  refine V_istore_n 2 [some (.ref 102), some (.int 10000), some (.int z1), none, none] d_Plans_commonDivisor_8 rfl (by decide) rfl rfl ?_
  refine V_iconst 0 d_Plans_commonDivisor_9 (by decide) ?_
  refine V_istore_n 3 [some (.ref 102), some (.int 10000), some (.int z1), some (.int 0), none] d_Plans_commonDivisor_10 rfl (by decide) rfl rfl ?_
  have L2 : ∀ (nn : Nat) (v4 : Int32) (v4Z : Int) (v5 : Int32) (v5Z : Int) (v6 : Int32) (v6Z : Int), v4.toInt = v4Z → v5.toInt = v5Z → v6.toInt = v6Z → 0 ≤ v6Z ∧ v6Z ≤ 64 → 64 - v6Z < (nn : Int) → V R_Plans b_Plans_commonDivisor 5 (some .int) 1 21 (q_Plans_commonDivisor h ) h 11 [some (.ref 102), some (.int v4), some (.int v5), some (.int v6), none] [] := by
    intro nn
    induction nn with
    | zero => intro v4 v4Z v5 v5Z v6 v6Z v4E v5E v6E q7 hm8; exact absurd hm8 (by (first | decide +kernel | omega))
    | succ nn ihL2 =>
      intro v4 v4Z v5 v5Z v6 v6Z v4E v5E v6E q7 hm8
      refine V_iload_n 3 d_Plans_commonDivisor_11 rfl rfl ?_
      refine V_bipush 64 d_Plans_commonDivisor_12 (by decide) ?_
      refine V_icmp_ge 37 v6E tc_64 d_Plans_commonDivisor_14 (by decide) (fun c9 => ?_) (fun c9 => ?_)
      ·
        refine V_iconst 1 d_Plans_commonDivisor_37 (by decide) ?_
        refine V_iload_n 1 d_Plans_commonDivisor_38 rfl rfl ?_
        refine N_max tc_1 v4E wm_Plans_50 d_Plans_commonDivisor_39 (Nat.le_of_ble_eq_true rfl) (by decide) wmax1 wM2 wmax3 (fun z10 z10Z z10E z10e z10g => ?_)
        exact V_iret rfl d_Plans_commonDivisor_42 ⟨z10, rfl, ⟨rfl, (by (try rw [z10E]); omega)⟩⟩
      ·
        refine V_iload_n 2 d_Plans_commonDivisor_17 rfl rfl ?_
        refine V_if_eq 37 v5E d_Plans_commonDivisor_18 (by decide) (fun c11 => ?_) (fun c11 => ?_)
        ·
          refine V_iconst 1 d_Plans_commonDivisor_37 (by decide) ?_
          refine V_iload_n 1 d_Plans_commonDivisor_38 rfl rfl ?_
          refine N_max tc_1 v4E wm_Plans_50 d_Plans_commonDivisor_39 (Nat.le_of_ble_eq_true rfl) (by decide) wmax1 wM2 wmax3 (fun z12 z12Z z12E z12e z12g => ?_)
          exact V_iret rfl d_Plans_commonDivisor_42 ⟨z12, rfl, ⟨rfl, (by (try rw [z12E]); omega)⟩⟩
        ·
          refine V_iload_n 1 d_Plans_commonDivisor_21 rfl rfl ?_
          refine V_iload_n 2 d_Plans_commonDivisor_22 rfl rfl ?_
          refine N_iremn (fun q => by have := (ti_eq v5E tc_0).mp q; omega) d_Plans_commonDivisor_23 (fun z13 z13Z z13E z13e => ?_)
          refine V_istore 4 [some (.ref 102), some (.int v4), some (.int v5), some (.int v6), some (.int z13)] d_Plans_commonDivisor_24 (by decide) rfl rfl ?_
          refine V_iload_n 2 d_Plans_commonDivisor_26 rfl rfl ?_
          refine V_istore_n 1 [some (.ref 102), some (.int v5), some (.int v5), some (.int v6), some (.int z13)] d_Plans_commonDivisor_27 rfl (by decide) rfl rfl ?_
          refine V_iload d_Plans_commonDivisor_28 rfl ?_
          refine V_istore_n 2 [some (.ref 102), some (.int v5), some (.int z13), some (.int v6), some (.int z13)] d_Plans_commonDivisor_30 rfl (by decide) rfl rfl ?_
          obtain ⟨z14, z14E, z14e⟩ : ∃ y : Int32, y.toInt = v6Z + 1 ∧ y = v6 + Int32.ofInt 1 := ⟨_, ti_add v6E (by decide) (by (first | decide +kernel | omega)), rfl⟩
          refine V_iinc 3 [some (.ref 102), some (.int v5), some (.int z13), some (.int z14), some (.int z13)] d_Plans_commonDivisor_31 rfl z14e.symm (by decide) rfl rfl ?_
          refine V_goto 11 d_Plans_commonDivisor_34 (by decide) ?_
          refine V_drop 4 [some (.ref 102), some (.int v5), some (.int z13), some (.int z14), none] rfl ?_
          exact ihL2 v5 v5Z z13 z13Z z14 ((v6Z + 1)) v5E z13E z14E (by (first | decide +kernel | omega)) (by (first | decide +kernel | omega))
  exact L2 (Int.toNat ((64 - 0 : Int) + 1)) 10000 10000 z1 z1Z 0 0 tc_10000 z1E tc_0 (by (first | decide +kernel | omega)) (by (first | decide +kernel | omega))
theorem d_Plans_meanAbove_0 : decode b_Plans_meanAbove 0 = .ok (.aload_n 0, 1) := dc_42 (by decide +kernel)
theorem d_Plans_meanAbove_1 : decode b_Plans_meanAbove 1 = .ok (.getfield 19, 3) := dc_180 (a := 0) (b := 19) (by decide +kernel) rfl
theorem d_Plans_meanAbove_4 : decode b_Plans_meanAbove 4 = .ok (.aload_n 0, 1) := dc_42 (by decide +kernel)
theorem d_Plans_meanAbove_5 : decode b_Plans_meanAbove 5 = .ok (.invokevirtual 37, 3) := dc_182 (a := 0) (b := 37) (by decide +kernel) rfl
theorem d_Plans_meanAbove_8 : decode b_Plans_meanAbove 8 = .ok (.idiv, 1) := dc_108 (by decide +kernel)
theorem d_Plans_meanAbove_9 : decode b_Plans_meanAbove 9 = .ok (.ireturn, 1) := dc_172 (by decide +kernel)
abbrev q_Plans_meanAbove (h : Hp)  : Option Value → Hp → Prop := pInt (fun r h' => h = h')
set_option maxRecDepth 100000 in
theorem c_Plans_meanAbove (h : Hp) (hI : Inv h) : Ct y_Plans_meanAbove b_Plans_meanAbove 1 (some .int) 2 45 [.ref 102] h (q_Plans_meanAbove h ) := by
  refine ct_ow R_Plans [some (.ref 102)] rfl (by decide) rfl (Nat.le_of_ble_eq_true rfl) ?_
  have f0 : fr [] h h := fr_rf
  refine V_aload_n 0 d_Plans_meanAbove_0 rfl rfl ?_
  refine N_getI fa_Plans_19 sk_102 rfl d_Plans_meanAbove_1 (fun z1 z1Z z1E z1e => ?_)
  refine V_aload_n 0 d_Plans_meanAbove_4 rfl rfl ?_
  refine N_callVI [] [.int z1] cv_Plans_37 sk_102 rfl d_Plans_meanAbove_5 rfl (Nat.le_of_ble_eq_true rfl) (by decide) (by decide) (c_Plans_commonDivisor h hI) (fun z2 h3 z2Z z2E p4 => ?_)
  obtain ⟨eh3, p4⟩ := p4
  subst eh3
  refine N_idivn (fun q => by have := (ti_eq z2E tc_0).mp q; omega) d_Plans_meanAbove_8 (fun z5 z5Z z5E z5e => ?_)
  exact V_iret rfl d_Plans_meanAbove_9 ⟨z5, rfl, rfl⟩
theorem d_Plans_meanBelow_0 : decode b_Plans_meanBelow 0 = .ok (.sipush 10000, 3) := dc_17 (a := 39) (b := 16) (by decide +kernel) rfl
theorem d_Plans_meanBelow_3 : decode b_Plans_meanBelow 3 = .ok (.aload_n 0, 1) := dc_42 (by decide +kernel)
theorem d_Plans_meanBelow_4 : decode b_Plans_meanBelow 4 = .ok (.invokevirtual 37, 3) := dc_182 (a := 0) (b := 37) (by decide +kernel) rfl
theorem d_Plans_meanBelow_7 : decode b_Plans_meanBelow 7 = .ok (.idiv, 1) := dc_108 (by decide +kernel)
theorem d_Plans_meanBelow_8 : decode b_Plans_meanBelow 8 = .ok (.ireturn, 1) := dc_172 (by decide +kernel)
abbrev q_Plans_meanBelow (h : Hp)  : Option Value → Hp → Prop := pInt (fun r h' => h = h')
set_option maxRecDepth 100000 in
theorem c_Plans_meanBelow (h : Hp) (hI : Inv h) : Ct y_Plans_meanBelow b_Plans_meanBelow 1 (some .int) 2 45 [.ref 102] h (q_Plans_meanBelow h ) := by
  refine ct_ow R_Plans [some (.ref 102)] rfl (by decide) rfl (Nat.le_of_ble_eq_true rfl) ?_
  have f0 : fr [] h h := fr_rf
  refine V_sipush 10000 d_Plans_meanBelow_0 (by decide) ?_
  refine V_aload_n 0 d_Plans_meanBelow_3 rfl rfl ?_
  refine N_callVI [] [.int 10000] cv_Plans_37 sk_102 rfl d_Plans_meanBelow_4 rfl (Nat.le_of_ble_eq_true rfl) (by decide) (by decide) (c_Plans_commonDivisor h hI) (fun z1 h2 z1Z z1E p3 => ?_)
  obtain ⟨eh2, p3⟩ := p3
  subst eh2
  refine N_idivn (fun q => by have := (ti_eq z1E tc_0).mp q; omega) d_Plans_meanBelow_7 (fun z4 z4Z z4E z4e => ?_)
  exact V_iret rfl d_Plans_meanBelow_8 ⟨z4, rfl, rfl⟩
theorem d_Beds_isFitting_0 : decode b_Beds_isFitting 0 = .ok (.iload_n 1, 1) := dc_27 (by decide +kernel)
theorem d_Beds_isFitting_1 : decode b_Beds_isFitting 1 = .ok (.aload_n 0, 1) := dc_42 (by decide +kernel)
theorem d_Beds_isFitting_2 : decode b_Beds_isFitting 2 = .ok (.getfield 15, 3) := dc_180 (a := 0) (b := 15) (by decide +kernel) rfl
theorem d_Beds_isFitting_5 : decode b_Beds_isFitting 5 = .ok (.iload_n 2, 1) := dc_28 (by decide +kernel)
theorem d_Beds_isFitting_6 : decode b_Beds_isFitting 6 = .ok (.iaload, 1) := dc_46 (by decide +kernel)
theorem d_Beds_isFitting_7 : decode b_Beds_isFitting 7 = .ok (.iand, 1) := dc_126 (by decide +kernel)
theorem d_Beds_isFitting_8 : decode b_Beds_isFitting 8 = .ok (.aload_n 0, 1) := dc_42 (by decide +kernel)
theorem d_Beds_isFitting_9 : decode b_Beds_isFitting 9 = .ok (.getfield 28, 3) := dc_180 (a := 0) (b := 28) (by decide +kernel) rfl
theorem d_Beds_isFitting_12 : decode b_Beds_isFitting 12 = .ok (.if_icmp .ne 7, 3) := dc_160 (a := 0) (b := 7) (by decide +kernel) rfl
theorem d_Beds_isFitting_15 : decode b_Beds_isFitting 15 = .ok (.iconst 1, 1) := dc_4 (by decide +kernel)
theorem d_Beds_isFitting_16 : decode b_Beds_isFitting 16 = .ok (.goto 4, 3) := dc_167 (a := 0) (b := 4) (by decide +kernel) rfl
theorem d_Beds_isFitting_19 : decode b_Beds_isFitting 19 = .ok (.iconst 0, 1) := dc_3 (by decide +kernel)
theorem d_Beds_isFitting_20 : decode b_Beds_isFitting 20 = .ok (.ireturn, 1) := dc_172 (by decide +kernel)
theorem d_Beds_listRowsAlong_0 : decode b_Beds_listRowsAlong 0 = .ok (.iconst 0, 1) := dc_3 (by decide +kernel)
theorem d_Beds_listRowsAlong_1 : decode b_Beds_listRowsAlong 1 = .ok (.istore 4, 2) := dc_54 (a := 4) (by decide +kernel) rfl
theorem d_Beds_listRowsAlong_3 : decode b_Beds_listRowsAlong 3 = .ok (.iload 4, 2) := dc_21 (a := 4) (by decide +kernel) rfl
theorem d_Beds_listRowsAlong_5 : decode b_Beds_listRowsAlong 5 = .ok (.iload_n 3, 1) := dc_29 (by decide +kernel)
theorem d_Beds_listRowsAlong_6 : decode b_Beds_listRowsAlong 6 = .ok (.if_icmp .ge 80, 3) := dc_162 (a := 0) (b := 80) (by decide +kernel) rfl
theorem d_Beds_listRowsAlong_9 : decode b_Beds_listRowsAlong 9 = .ok (.iconst 1, 1) := dc_4 (by decide +kernel)
theorem d_Beds_listRowsAlong_10 : decode b_Beds_listRowsAlong 10 = .ok (.iload_n 1, 1) := dc_27 (by decide +kernel)
theorem d_Beds_listRowsAlong_11 : decode b_Beds_listRowsAlong 11 = .ok (.iload 4, 2) := dc_21 (a := 4) (by decide +kernel) rfl
theorem d_Beds_listRowsAlong_13 : decode b_Beds_listRowsAlong 13 = .ok (.iload_n 2, 1) := dc_28 (by decide +kernel)
theorem d_Beds_listRowsAlong_14 : decode b_Beds_listRowsAlong 14 = .ok (.imul, 1) := dc_104 (by decide +kernel)
theorem d_Beds_listRowsAlong_15 : decode b_Beds_listRowsAlong 15 = .ok (.iadd, 1) := dc_96 (by decide +kernel)
theorem d_Beds_listRowsAlong_16 : decode b_Beds_listRowsAlong 16 = .ok (.ishl, 1) := dc_120 (by decide +kernel)
theorem d_Beds_listRowsAlong_17 : decode b_Beds_listRowsAlong 17 = .ok (.istore 5, 2) := dc_54 (a := 5) (by decide +kernel) rfl
theorem d_Beds_listRowsAlong_19 : decode b_Beds_listRowsAlong 19 = .ok (.iload 4, 2) := dc_21 (a := 4) (by decide +kernel) rfl
theorem d_Beds_listRowsAlong_21 : decode b_Beds_listRowsAlong 21 = .ok (.iconst 1, 1) := dc_4 (by decide +kernel)
theorem d_Beds_listRowsAlong_22 : decode b_Beds_listRowsAlong 22 = .ok (.iadd, 1) := dc_96 (by decide +kernel)
theorem d_Beds_listRowsAlong_23 : decode b_Beds_listRowsAlong 23 = .ok (.istore 6, 2) := dc_54 (a := 6) (by decide +kernel) rfl
theorem d_Beds_listRowsAlong_25 : decode b_Beds_listRowsAlong 25 = .ok (.iload 6, 2) := dc_21 (a := 6) (by decide +kernel) rfl
theorem d_Beds_listRowsAlong_27 : decode b_Beds_listRowsAlong 27 = .ok (.iload_n 3, 1) := dc_29 (by decide +kernel)
theorem d_Beds_listRowsAlong_28 : decode b_Beds_listRowsAlong 28 = .ok (.if_icmp .ge 52, 3) := dc_162 (a := 0) (b := 52) (by decide +kernel) rfl
theorem d_Beds_listRowsAlong_31 : decode b_Beds_listRowsAlong 31 = .ok (.iload 5, 2) := dc_21 (a := 5) (by decide +kernel) rfl
theorem d_Beds_listRowsAlong_33 : decode b_Beds_listRowsAlong 33 = .ok (.iconst 1, 1) := dc_4 (by decide +kernel)
theorem d_Beds_listRowsAlong_34 : decode b_Beds_listRowsAlong 34 = .ok (.iload_n 1, 1) := dc_27 (by decide +kernel)
theorem d_Beds_listRowsAlong_35 : decode b_Beds_listRowsAlong 35 = .ok (.iload 6, 2) := dc_21 (a := 6) (by decide +kernel) rfl
theorem d_Beds_listRowsAlong_37 : decode b_Beds_listRowsAlong 37 = .ok (.iload_n 2, 1) := dc_28 (by decide +kernel)
theorem d_Beds_listRowsAlong_38 : decode b_Beds_listRowsAlong 38 = .ok (.imul, 1) := dc_104 (by decide +kernel)
theorem d_Beds_listRowsAlong_39 : decode b_Beds_listRowsAlong 39 = .ok (.iadd, 1) := dc_96 (by decide +kernel)
theorem d_Beds_listRowsAlong_40 : decode b_Beds_listRowsAlong 40 = .ok (.ishl, 1) := dc_120 (by decide +kernel)
theorem d_Beds_listRowsAlong_41 : decode b_Beds_listRowsAlong 41 = .ok (.ior, 1) := dc_128 (by decide +kernel)
theorem d_Beds_listRowsAlong_42 : decode b_Beds_listRowsAlong 42 = .ok (.istore 5, 2) := dc_54 (a := 5) (by decide +kernel) rfl
theorem d_Beds_listRowsAlong_44 : decode b_Beds_listRowsAlong 44 = .ok (.aload_n 0, 1) := dc_42 (by decide +kernel)
theorem d_Beds_listRowsAlong_45 : decode b_Beds_listRowsAlong 45 = .ok (.getfield 51, 3) := dc_180 (a := 0) (b := 51) (by decide +kernel) rfl
theorem d_Beds_listRowsAlong_48 : decode b_Beds_listRowsAlong 48 = .ok (.bipush 48, 2) := dc_16 (a := 48) (by decide +kernel) rfl
theorem d_Beds_listRowsAlong_50 : decode b_Beds_listRowsAlong 50 = .ok (.if_icmp .ge 24, 3) := dc_162 (a := 0) (b := 24) (by decide +kernel) rfl
theorem d_Beds_listRowsAlong_53 : decode b_Beds_listRowsAlong 53 = .ok (.aload_n 0, 1) := dc_42 (by decide +kernel)
theorem d_Beds_listRowsAlong_54 : decode b_Beds_listRowsAlong 54 = .ok (.getfield 9, 3) := dc_180 (a := 0) (b := 9) (by decide +kernel) rfl
theorem d_Beds_listRowsAlong_57 : decode b_Beds_listRowsAlong 57 = .ok (.aload_n 0, 1) := dc_42 (by decide +kernel)
theorem d_Beds_listRowsAlong_58 : decode b_Beds_listRowsAlong 58 = .ok (.getfield 51, 3) := dc_180 (a := 0) (b := 51) (by decide +kernel) rfl
theorem d_Beds_listRowsAlong_61 : decode b_Beds_listRowsAlong 61 = .ok (.iload 5, 2) := dc_21 (a := 5) (by decide +kernel) rfl
theorem d_Beds_listRowsAlong_63 : decode b_Beds_listRowsAlong 63 = .ok (.iastore, 1) := dc_79 (by decide +kernel)
theorem d_Beds_listRowsAlong_64 : decode b_Beds_listRowsAlong 64 = .ok (.aload_n 0, 1) := dc_42 (by decide +kernel)
theorem d_Beds_listRowsAlong_65 : decode b_Beds_listRowsAlong 65 = .ok (.dup, 1) := dc_89 (by decide +kernel)
theorem d_Beds_listRowsAlong_66 : decode b_Beds_listRowsAlong 66 = .ok (.getfield 51, 3) := dc_180 (a := 0) (b := 51) (by decide +kernel) rfl
theorem d_Beds_listRowsAlong_69 : decode b_Beds_listRowsAlong 69 = .ok (.iconst 1, 1) := dc_4 (by decide +kernel)
theorem d_Beds_listRowsAlong_70 : decode b_Beds_listRowsAlong 70 = .ok (.iadd, 1) := dc_96 (by decide +kernel)
theorem d_Beds_listRowsAlong_71 : decode b_Beds_listRowsAlong 71 = .ok (.putfield 51, 3) := dc_181 (a := 0) (b := 51) (by decide +kernel) rfl
theorem d_Beds_listRowsAlong_74 : decode b_Beds_listRowsAlong 74 = .ok (.iinc 6 1, 3) := dc_132 (a := 6) (b := 1) (by decide +kernel) rfl
theorem d_Beds_listRowsAlong_77 : decode b_Beds_listRowsAlong 77 = .ok (.goto (-52), 3) := dc_167 (a := 255) (b := 204) (by decide +kernel) rfl
theorem d_Beds_listRowsAlong_80 : decode b_Beds_listRowsAlong 80 = .ok (.iinc 4 1, 3) := dc_132 (a := 4) (b := 1) (by decide +kernel) rfl
theorem d_Beds_listRowsAlong_83 : decode b_Beds_listRowsAlong 83 = .ok (.goto (-80), 3) := dc_167 (a := 255) (b := 176) (by decide +kernel) rfl
theorem d_Beds_listRowsAlong_86 : decode b_Beds_listRowsAlong 86 = .ok (.return_, 1) := dc_177 (by decide +kernel)
theorem d_Beds_listRows_0 : decode b_Beds_listRows 0 = .ok (.aload_n 0, 1) := dc_42 (by decide +kernel)
theorem d_Beds_listRows_1 : decode b_Beds_listRows 1 = .ok (.iconst 0, 1) := dc_3 (by decide +kernel)
theorem d_Beds_listRows_2 : decode b_Beds_listRows 2 = .ok (.putfield 51, 3) := dc_181 (a := 0) (b := 51) (by decide +kernel) rfl
theorem d_Beds_listRows_5 : decode b_Beds_listRows 5 = .ok (.iconst 0, 1) := dc_3 (by decide +kernel)
theorem d_Beds_listRows_6 : decode b_Beds_listRows 6 = .ok (.istore_n 2, 1) := dc_61 (by decide +kernel)
theorem d_Beds_listRows_7 : decode b_Beds_listRows 7 = .ok (.iload_n 2, 1) := dc_28 (by decide +kernel)
theorem d_Beds_listRows_8 : decode b_Beds_listRows 8 = .ok (.aload_n 1, 1) := dc_43 (by decide +kernel)
theorem d_Beds_listRows_9 : decode b_Beds_listRows 9 = .ok (.getfield 58, 3) := dc_180 (a := 0) (b := 58) (by decide +kernel) rfl
theorem d_Beds_listRows_12 : decode b_Beds_listRows 12 = .ok (.if_icmp .ge 24, 3) := dc_162 (a := 0) (b := 24) (by decide +kernel) rfl
theorem d_Beds_listRows_15 : decode b_Beds_listRows 15 = .ok (.aload_n 0, 1) := dc_42 (by decide +kernel)
theorem d_Beds_listRows_16 : decode b_Beds_listRows 16 = .ok (.iload_n 2, 1) := dc_28 (by decide +kernel)
theorem d_Beds_listRows_17 : decode b_Beds_listRows 17 = .ok (.aload_n 1, 1) := dc_43 (by decide +kernel)
theorem d_Beds_listRows_18 : decode b_Beds_listRows 18 = .ok (.getfield 61, 3) := dc_180 (a := 0) (b := 61) (by decide +kernel) rfl
theorem d_Beds_listRows_21 : decode b_Beds_listRows 21 = .ok (.imul, 1) := dc_104 (by decide +kernel)
theorem d_Beds_listRows_22 : decode b_Beds_listRows 22 = .ok (.iconst 1, 1) := dc_4 (by decide +kernel)
theorem d_Beds_listRows_23 : decode b_Beds_listRows 23 = .ok (.aload_n 1, 1) := dc_43 (by decide +kernel)
theorem d_Beds_listRows_24 : decode b_Beds_listRows 24 = .ok (.getfield 61, 3) := dc_180 (a := 0) (b := 61) (by decide +kernel) rfl
theorem d_Beds_listRows_27 : decode b_Beds_listRows 27 = .ok (.invokevirtual 64, 3) := dc_182 (a := 0) (b := 64) (by decide +kernel) rfl
theorem d_Beds_listRows_30 : decode b_Beds_listRows 30 = .ok (.iinc 2 1, 3) := dc_132 (a := 2) (b := 1) (by decide +kernel) rfl
theorem d_Beds_listRows_33 : decode b_Beds_listRows 33 = .ok (.goto (-26), 3) := dc_167 (a := 255) (b := 230) (by decide +kernel) rfl
theorem d_Beds_listRows_36 : decode b_Beds_listRows 36 = .ok (.iconst 0, 1) := dc_3 (by decide +kernel)
theorem d_Beds_listRows_37 : decode b_Beds_listRows 37 = .ok (.istore_n 2, 1) := dc_61 (by decide +kernel)
theorem d_Beds_listRows_38 : decode b_Beds_listRows 38 = .ok (.iload_n 2, 1) := dc_28 (by decide +kernel)
theorem d_Beds_listRows_39 : decode b_Beds_listRows 39 = .ok (.aload_n 1, 1) := dc_43 (by decide +kernel)
theorem d_Beds_listRows_40 : decode b_Beds_listRows 40 = .ok (.getfield 61, 3) := dc_180 (a := 0) (b := 61) (by decide +kernel) rfl
theorem d_Beds_listRows_43 : decode b_Beds_listRows 43 = .ok (.if_icmp .ge 22, 3) := dc_162 (a := 0) (b := 22) (by decide +kernel) rfl
theorem d_Beds_listRows_46 : decode b_Beds_listRows 46 = .ok (.aload_n 0, 1) := dc_42 (by decide +kernel)
theorem d_Beds_listRows_47 : decode b_Beds_listRows 47 = .ok (.iload_n 2, 1) := dc_28 (by decide +kernel)
theorem d_Beds_listRows_48 : decode b_Beds_listRows 48 = .ok (.aload_n 1, 1) := dc_43 (by decide +kernel)
theorem d_Beds_listRows_49 : decode b_Beds_listRows 49 = .ok (.getfield 61, 3) := dc_180 (a := 0) (b := 61) (by decide +kernel) rfl
theorem d_Beds_listRows_52 : decode b_Beds_listRows 52 = .ok (.aload_n 1, 1) := dc_43 (by decide +kernel)
theorem d_Beds_listRows_53 : decode b_Beds_listRows 53 = .ok (.getfield 58, 3) := dc_180 (a := 0) (b := 58) (by decide +kernel) rfl
theorem d_Beds_listRows_56 : decode b_Beds_listRows 56 = .ok (.invokevirtual 64, 3) := dc_182 (a := 0) (b := 64) (by decide +kernel) rfl
theorem d_Beds_listRows_59 : decode b_Beds_listRows 59 = .ok (.iinc 2 1, 3) := dc_132 (a := 2) (b := 1) (by decide +kernel) rfl
theorem d_Beds_listRows_62 : decode b_Beds_listRows 62 = .ok (.goto (-24), 3) := dc_167 (a := 255) (b := 232) (by decide +kernel) rfl
theorem d_Beds_listRows_65 : decode b_Beds_listRows 65 = .ok (.return_, 1) := dc_177 (by decide +kernel)
theorem d_Beds_find_0 : decode b_Beds_find 0 = .ok (.aload_n 0, 1) := dc_42 (by decide +kernel)
theorem d_Beds_find_1 : decode b_Beds_find 1 = .ok (.aload_n 1, 1) := dc_43 (by decide +kernel)
theorem d_Beds_find_2 : decode b_Beds_find 2 = .ok (.invokevirtual 18, 3) := dc_182 (a := 0) (b := 18) (by decide +kernel) rfl
theorem d_Beds_find_5 : decode b_Beds_find 5 = .ok (.aload_n 0, 1) := dc_42 (by decide +kernel)
theorem d_Beds_find_6 : decode b_Beds_find 6 = .ok (.aload_n 1, 1) := dc_43 (by decide +kernel)
theorem d_Beds_find_7 : decode b_Beds_find 7 = .ok (.invokevirtual 22, 3) := dc_182 (a := 0) (b := 22) (by decide +kernel) rfl
theorem d_Beds_find_10 : decode b_Beds_find 10 = .ok (.putfield 28, 3) := dc_181 (a := 0) (b := 28) (by decide +kernel) rfl
theorem d_Beds_find_13 : decode b_Beds_find 13 = .ok (.aload_n 0, 1) := dc_42 (by decide +kernel)
theorem d_Beds_find_14 : decode b_Beds_find 14 = .ok (.iconst 0, 1) := dc_3 (by decide +kernel)
theorem d_Beds_find_15 : decode b_Beds_find 15 = .ok (.putfield 32, 3) := dc_181 (a := 0) (b := 32) (by decide +kernel) rfl
theorem d_Beds_find_18 : decode b_Beds_find 18 = .ok (.aload_n 0, 1) := dc_42 (by decide +kernel)
theorem d_Beds_find_19 : decode b_Beds_find 19 = .ok (.aload_n 1, 1) := dc_43 (by decide +kernel)
theorem d_Beds_find_20 : decode b_Beds_find 20 = .ok (.invokevirtual 35, 3) := dc_182 (a := 0) (b := 35) (by decide +kernel) rfl
theorem d_Beds_find_23 : decode b_Beds_find 23 = .ok (.putfield 38, 3) := dc_181 (a := 0) (b := 38) (by decide +kernel) rfl
theorem d_Beds_find_26 : decode b_Beds_find 26 = .ok (.aload_n 0, 1) := dc_42 (by decide +kernel)
theorem d_Beds_find_27 : decode b_Beds_find 27 = .ok (.iconst 0, 1) := dc_3 (by decide +kernel)
theorem d_Beds_find_28 : decode b_Beds_find 28 = .ok (.putfield 41, 3) := dc_181 (a := 0) (b := 41) (by decide +kernel) rfl
theorem d_Beds_find_31 : decode b_Beds_find 31 = .ok (.aload_n 0, 1) := dc_42 (by decide +kernel)
theorem d_Beds_find_32 : decode b_Beds_find 32 = .ok (.iconst 0, 1) := dc_3 (by decide +kernel)
theorem d_Beds_find_33 : decode b_Beds_find 33 = .ok (.putfield 44, 3) := dc_181 (a := 0) (b := 44) (by decide +kernel) rfl
theorem d_Beds_find_36 : decode b_Beds_find 36 = .ok (.iconst 1, 1) := dc_4 (by decide +kernel)
theorem d_Beds_find_37 : decode b_Beds_find 37 = .ok (.istore_n 2, 1) := dc_61 (by decide +kernel)
theorem d_Beds_find_38 : decode b_Beds_find 38 = .ok (.iload_n 2, 1) := dc_28 (by decide +kernel)
theorem d_Beds_find_39 : decode b_Beds_find 39 = .ok (.bipush 9, 2) := dc_16 (a := 9) (by decide +kernel) rfl
theorem d_Beds_find_41 : decode b_Beds_find 41 = .ok (.if_icmp .gt 95, 3) := dc_163 (a := 0) (b := 95) (by decide +kernel) rfl
theorem d_Beds_find_44 : decode b_Beds_find 44 = .ok (.aload_n 0, 1) := dc_42 (by decide +kernel)
theorem d_Beds_find_45 : decode b_Beds_find 45 = .ok (.getfield 15, 3) := dc_180 (a := 0) (b := 15) (by decide +kernel) rfl
theorem d_Beds_find_48 : decode b_Beds_find 48 = .ok (.iload_n 2, 1) := dc_28 (by decide +kernel)
theorem d_Beds_find_49 : decode b_Beds_find 49 = .ok (.aload_n 1, 1) := dc_43 (by decide +kernel)
theorem d_Beds_find_50 : decode b_Beds_find 50 = .ok (.iload_n 2, 1) := dc_28 (by decide +kernel)
theorem d_Beds_find_51 : decode b_Beds_find 51 = .ok (.invokevirtual 47, 3) := dc_182 (a := 0) (b := 47) (by decide +kernel) rfl
theorem d_Beds_find_54 : decode b_Beds_find 54 = .ok (.iastore, 1) := dc_79 (by decide +kernel)
theorem d_Beds_find_55 : decode b_Beds_find 55 = .ok (.iconst 0, 1) := dc_3 (by decide +kernel)
theorem d_Beds_find_56 : decode b_Beds_find 56 = .ok (.istore_n 3, 1) := dc_62 (by decide +kernel)
theorem d_Beds_find_57 : decode b_Beds_find 57 = .ok (.iload_n 3, 1) := dc_29 (by decide +kernel)
theorem d_Beds_find_58 : decode b_Beds_find 58 = .ok (.aload_n 0, 1) := dc_42 (by decide +kernel)
theorem d_Beds_find_59 : decode b_Beds_find 59 = .ok (.getfield 51, 3) := dc_180 (a := 0) (b := 51) (by decide +kernel) rfl
theorem d_Beds_find_62 : decode b_Beds_find 62 = .ok (.if_icmp .ge 68, 3) := dc_162 (a := 0) (b := 68) (by decide +kernel) rfl
theorem d_Beds_find_65 : decode b_Beds_find 65 = .ok (.aload_n 0, 1) := dc_42 (by decide +kernel)
theorem d_Beds_find_66 : decode b_Beds_find 66 = .ok (.aload_n 0, 1) := dc_42 (by decide +kernel)
theorem d_Beds_find_67 : decode b_Beds_find 67 = .ok (.getfield 9, 3) := dc_180 (a := 0) (b := 9) (by decide +kernel) rfl
theorem d_Beds_find_70 : decode b_Beds_find 70 = .ok (.iload_n 3, 1) := dc_29 (by decide +kernel)
theorem d_Beds_find_71 : decode b_Beds_find 71 = .ok (.iaload, 1) := dc_46 (by decide +kernel)
theorem d_Beds_find_72 : decode b_Beds_find 72 = .ok (.iload_n 2, 1) := dc_28 (by decide +kernel)
theorem d_Beds_find_73 : decode b_Beds_find 73 = .ok (.invokevirtual 54, 3) := dc_182 (a := 0) (b := 54) (by decide +kernel) rfl
theorem d_Beds_find_76 : decode b_Beds_find 76 = .ok (.ifCond .eq 48, 3) := dc_153 (a := 0) (b := 48) (by decide +kernel) rfl
theorem d_Beds_find_79 : decode b_Beds_find 79 = .ok (.aload_n 0, 1) := dc_42 (by decide +kernel)
theorem d_Beds_find_80 : decode b_Beds_find 80 = .ok (.dup, 1) := dc_89 (by decide +kernel)
theorem d_Beds_find_81 : decode b_Beds_find 81 = .ok (.getfield 32, 3) := dc_180 (a := 0) (b := 32) (by decide +kernel) rfl
theorem d_Beds_find_84 : decode b_Beds_find 84 = .ok (.iconst 1, 1) := dc_4 (by decide +kernel)
theorem d_Beds_find_85 : decode b_Beds_find 85 = .ok (.iadd, 1) := dc_96 (by decide +kernel)
theorem d_Beds_find_86 : decode b_Beds_find 86 = .ok (.putfield 32, 3) := dc_181 (a := 0) (b := 32) (by decide +kernel) rfl
theorem d_Beds_find_89 : decode b_Beds_find 89 = .ok (.aload_n 0, 1) := dc_42 (by decide +kernel)
theorem d_Beds_find_90 : decode b_Beds_find 90 = .ok (.dup, 1) := dc_89 (by decide +kernel)
theorem d_Beds_find_91 : decode b_Beds_find 91 = .ok (.getfield 38, 3) := dc_180 (a := 0) (b := 38) (by decide +kernel) rfl
theorem d_Beds_find_94 : decode b_Beds_find 94 = .ok (.aload_n 0, 1) := dc_42 (by decide +kernel)
theorem d_Beds_find_95 : decode b_Beds_find 95 = .ok (.getfield 9, 3) := dc_180 (a := 0) (b := 9) (by decide +kernel) rfl
theorem d_Beds_find_98 : decode b_Beds_find 98 = .ok (.iload_n 3, 1) := dc_29 (by decide +kernel)
theorem d_Beds_find_99 : decode b_Beds_find 99 = .ok (.iaload, 1) := dc_46 (by decide +kernel)
theorem d_Beds_find_100 : decode b_Beds_find 100 = .ok (.iand, 1) := dc_126 (by decide +kernel)
theorem d_Beds_find_101 : decode b_Beds_find 101 = .ok (.putfield 38, 3) := dc_181 (a := 0) (b := 38) (by decide +kernel) rfl
theorem d_Beds_find_104 : decode b_Beds_find 104 = .ok (.aload_n 0, 1) := dc_42 (by decide +kernel)
theorem d_Beds_find_105 : decode b_Beds_find 105 = .ok (.dup, 1) := dc_89 (by decide +kernel)
theorem d_Beds_find_106 : decode b_Beds_find 106 = .ok (.getfield 41, 3) := dc_180 (a := 0) (b := 41) (by decide +kernel) rfl
theorem d_Beds_find_109 : decode b_Beds_find 109 = .ok (.aload_n 0, 1) := dc_42 (by decide +kernel)
theorem d_Beds_find_110 : decode b_Beds_find 110 = .ok (.getfield 9, 3) := dc_180 (a := 0) (b := 9) (by decide +kernel) rfl
theorem d_Beds_find_113 : decode b_Beds_find 113 = .ok (.iload_n 3, 1) := dc_29 (by decide +kernel)
theorem d_Beds_find_114 : decode b_Beds_find 114 = .ok (.iaload, 1) := dc_46 (by decide +kernel)
theorem d_Beds_find_115 : decode b_Beds_find 115 = .ok (.ior, 1) := dc_128 (by decide +kernel)
theorem d_Beds_find_116 : decode b_Beds_find 116 = .ok (.putfield 41, 3) := dc_181 (a := 0) (b := 41) (by decide +kernel) rfl
theorem d_Beds_find_119 : decode b_Beds_find 119 = .ok (.aload_n 0, 1) := dc_42 (by decide +kernel)
theorem d_Beds_find_120 : decode b_Beds_find 120 = .ok (.iload_n 2, 1) := dc_28 (by decide +kernel)
theorem d_Beds_find_121 : decode b_Beds_find 121 = .ok (.putfield 44, 3) := dc_181 (a := 0) (b := 44) (by decide +kernel) rfl
theorem d_Beds_find_124 : decode b_Beds_find 124 = .ok (.iinc 3 1, 3) := dc_132 (a := 3) (b := 1) (by decide +kernel) rfl
theorem d_Beds_find_127 : decode b_Beds_find 127 = .ok (.goto (-70), 3) := dc_167 (a := 255) (b := 186) (by decide +kernel) rfl
theorem d_Beds_find_130 : decode b_Beds_find 130 = .ok (.iinc 2 1, 3) := dc_132 (a := 2) (b := 1) (by decide +kernel) rfl
theorem d_Beds_find_133 : decode b_Beds_find 133 = .ok (.goto (-95), 3) := dc_167 (a := 255) (b := 161) (by decide +kernel) rfl
theorem d_Beds_find_136 : decode b_Beds_find 136 = .ok (.return_, 1) := dc_177 (by decide +kernel)
theorem d_Beds_fittingWithWell_0 : decode b_Beds_fittingWithWell 0 = .ok (.iconst 0, 1) := dc_3 (by decide +kernel)
theorem d_Beds_fittingWithWell_1 : decode b_Beds_fittingWithWell 1 = .ok (.istore_n 3, 1) := dc_62 (by decide +kernel)
theorem d_Beds_fittingWithWell_2 : decode b_Beds_fittingWithWell 2 = .ok (.iconst 1, 1) := dc_4 (by decide +kernel)
theorem d_Beds_fittingWithWell_3 : decode b_Beds_fittingWithWell 3 = .ok (.istore 4, 2) := dc_54 (a := 4) (by decide +kernel) rfl
theorem d_Beds_fittingWithWell_5 : decode b_Beds_fittingWithWell 5 = .ok (.iload 4, 2) := dc_21 (a := 4) (by decide +kernel) rfl
theorem d_Beds_fittingWithWell_7 : decode b_Beds_fittingWithWell 7 = .ok (.iload_n 2, 1) := dc_28 (by decide +kernel)
theorem d_Beds_fittingWithWell_8 : decode b_Beds_fittingWithWell 8 = .ok (.if_icmp .gt 60, 3) := dc_163 (a := 0) (b := 60) (by decide +kernel) rfl
theorem d_Beds_fittingWithWell_11 : decode b_Beds_fittingWithWell 11 = .ok (.iconst 0, 1) := dc_3 (by decide +kernel)
theorem d_Beds_fittingWithWell_12 : decode b_Beds_fittingWithWell 12 = .ok (.istore 5, 2) := dc_54 (a := 5) (by decide +kernel) rfl
theorem d_Beds_fittingWithWell_14 : decode b_Beds_fittingWithWell 14 = .ok (.iload 5, 2) := dc_21 (a := 5) (by decide +kernel) rfl
theorem d_Beds_fittingWithWell_16 : decode b_Beds_fittingWithWell 16 = .ok (.aload_n 0, 1) := dc_42 (by decide +kernel)
theorem d_Beds_fittingWithWell_17 : decode b_Beds_fittingWithWell 17 = .ok (.getfield 51, 3) := dc_180 (a := 0) (b := 51) (by decide +kernel) rfl
theorem d_Beds_fittingWithWell_20 : decode b_Beds_fittingWithWell 20 = .ok (.if_icmp .ge 42, 3) := dc_162 (a := 0) (b := 42) (by decide +kernel) rfl
theorem d_Beds_fittingWithWell_23 : decode b_Beds_fittingWithWell 23 = .ok (.aload_n 0, 1) := dc_42 (by decide +kernel)
theorem d_Beds_fittingWithWell_24 : decode b_Beds_fittingWithWell 24 = .ok (.getfield 9, 3) := dc_180 (a := 0) (b := 9) (by decide +kernel) rfl
theorem d_Beds_fittingWithWell_27 : decode b_Beds_fittingWithWell 27 = .ok (.iload 5, 2) := dc_21 (a := 5) (by decide +kernel) rfl
theorem d_Beds_fittingWithWell_29 : decode b_Beds_fittingWithWell 29 = .ok (.iaload, 1) := dc_46 (by decide +kernel)
theorem d_Beds_fittingWithWell_30 : decode b_Beds_fittingWithWell 30 = .ok (.iload_n 1, 1) := dc_27 (by decide +kernel)
theorem d_Beds_fittingWithWell_31 : decode b_Beds_fittingWithWell 31 = .ok (.ishr, 1) := dc_122 (by decide +kernel)
theorem d_Beds_fittingWithWell_32 : decode b_Beds_fittingWithWell 32 = .ok (.iconst 1, 1) := dc_4 (by decide +kernel)
theorem d_Beds_fittingWithWell_33 : decode b_Beds_fittingWithWell 33 = .ok (.iand, 1) := dc_126 (by decide +kernel)
theorem d_Beds_fittingWithWell_34 : decode b_Beds_fittingWithWell 34 = .ok (.ifCond .eq 22, 3) := dc_153 (a := 0) (b := 22) (by decide +kernel) rfl
theorem d_Beds_fittingWithWell_37 : decode b_Beds_fittingWithWell 37 = .ok (.aload_n 0, 1) := dc_42 (by decide +kernel)
theorem d_Beds_fittingWithWell_38 : decode b_Beds_fittingWithWell 38 = .ok (.aload_n 0, 1) := dc_42 (by decide +kernel)
theorem d_Beds_fittingWithWell_39 : decode b_Beds_fittingWithWell 39 = .ok (.getfield 9, 3) := dc_180 (a := 0) (b := 9) (by decide +kernel) rfl
theorem d_Beds_fittingWithWell_42 : decode b_Beds_fittingWithWell 42 = .ok (.iload 5, 2) := dc_21 (a := 5) (by decide +kernel) rfl
theorem d_Beds_fittingWithWell_44 : decode b_Beds_fittingWithWell 44 = .ok (.iaload, 1) := dc_46 (by decide +kernel)
theorem d_Beds_fittingWithWell_45 : decode b_Beds_fittingWithWell 45 = .ok (.iload 4, 2) := dc_21 (a := 4) (by decide +kernel) rfl
theorem d_Beds_fittingWithWell_47 : decode b_Beds_fittingWithWell 47 = .ok (.invokevirtual 54, 3) := dc_182 (a := 0) (b := 54) (by decide +kernel) rfl
theorem d_Beds_fittingWithWell_50 : decode b_Beds_fittingWithWell 50 = .ok (.ifCond .eq 6, 3) := dc_153 (a := 0) (b := 6) (by decide +kernel) rfl
theorem d_Beds_fittingWithWell_53 : decode b_Beds_fittingWithWell 53 = .ok (.iinc 3 1, 3) := dc_132 (a := 3) (b := 1) (by decide +kernel) rfl
theorem d_Beds_fittingWithWell_56 : decode b_Beds_fittingWithWell 56 = .ok (.iinc 5 1, 3) := dc_132 (a := 5) (b := 1) (by decide +kernel) rfl
theorem d_Beds_fittingWithWell_59 : decode b_Beds_fittingWithWell 59 = .ok (.goto (-45), 3) := dc_167 (a := 255) (b := 211) (by decide +kernel) rfl
theorem d_Beds_fittingWithWell_62 : decode b_Beds_fittingWithWell 62 = .ok (.iinc 4 1, 3) := dc_132 (a := 4) (b := 1) (by decide +kernel) rfl
theorem d_Beds_fittingWithWell_65 : decode b_Beds_fittingWithWell 65 = .ok (.goto (-60), 3) := dc_167 (a := 255) (b := 196) (by decide +kernel) rfl
theorem d_Beds_fittingWithWell_68 : decode b_Beds_fittingWithWell 68 = .ok (.iload_n 3, 1) := dc_29 (by decide +kernel)
theorem d_Beds_fittingWithWell_69 : decode b_Beds_fittingWithWell 69 = .ok (.ireturn, 1) := dc_172 (by decide +kernel)
end
