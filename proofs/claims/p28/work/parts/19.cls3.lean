section
theorem tc_127 : (127 : Int32).toInt = 127 := rfl
theorem fa_Rod_38 : FA R_Rod 38 10 5 := ⟨_, _, _, rfl, i_Rod, by decide, vv_Gin (List.mem_append_right _ (List.mem_append_right _ (List.mem_append_left _ (List.mem_of_getElem? (i := 118) rfl)))) rfl⟩
theorem fa_Rod_67 : FA R_Rod 67 8 1 := ⟨_, _, _, rfl, i_Tape, by decide, vv_Gin (List.mem_append_right _ (List.mem_append_left _ (List.mem_of_getElem? (i := 212) rfl))) rfl⟩
theorem fa_Rod_73 : FA R_Rod 73 8 0 := ⟨_, _, _, rfl, i_Tape, by decide, vv_Gin (List.mem_append_right _ (List.mem_append_left _ (List.mem_of_getElem? (i := 211) rfl))) rfl⟩
theorem fp_Rod_67 : FP R_Rod 67 8 1 .int := ⟨_, _, _, t_Tape, rfl, i_Tape, by decide, vv_Gin (List.mem_append_right _ (List.mem_append_left _ (List.mem_of_getElem? (i := 212) rfl))) rfl, t_Tape_ok, n_Tape, rfl, t_Tape_ok 1 (by decide)⟩
theorem fa_Rod_30 : FA R_Rod 30 10 4 := ⟨_, _, _, rfl, i_Rod, by decide, vv_Gin (List.mem_append_right _ (List.mem_append_right _ (List.mem_append_left _ (List.mem_of_getElem? (i := 117) rfl)))) rfl⟩
theorem cb_Reader_readAll : CB y_Reader_readAll b_Reader_readAll 2 (some .int) 0 := ⟨vv_Gin (List.mem_append_right _ (List.mem_append_right _ (List.mem_append_left _ (List.mem_of_getElem? (i := 162) rfl)))) rfl, by decide +kernel, vv_Gin (List.mem_append_right _ (List.mem_append_left _ (List.mem_of_getElem? (i := 7) rfl))) rfl⟩
theorem im_Reader_readAll : Cond.instanceMethod y_Reader_readAll ∈ vv_G := vv_Gin (List.mem_append_right _ (List.mem_append_right _ (List.mem_append_left _ (List.mem_of_getElem? (i := 160) rfl)))) rfl
theorem se_Reader_readAll : Cond.selects y_Reader_readAll.cls y_Reader_readAll y_Reader_readAll ∈ vv_G := vv_Gin (List.mem_append_right _ (List.mem_append_right _ (List.mem_append_left _ (List.mem_of_getElem? (i := 161) rfl)))) rfl
theorem cv_Rod_77 : CV R_Rod 77 y_Reader_readAll b_Reader_readAll 2 (some .int) 0 := ⟨cb_Reader_readAll, im_Reader_readAll, se_Reader_readAll, vv_Gin (List.mem_append_right _ (List.mem_append_right _ (List.mem_append_left _ (List.mem_of_getElem? (i := 159) rfl)))) rfl⟩
theorem fa_Rod_12 : FA R_Rod 12 10 0 := ⟨_, _, _, rfl, i_Rod, by decide, vv_Gin (List.mem_append_right _ (List.mem_append_right _ (List.mem_append_left _ (List.mem_of_getElem? (i := 113) rfl)))) rfl⟩
theorem fa_Rod_81 : FA R_Rod 81 5 1 := ⟨_, _, _, rfl, i_Reader, by decide, vv_Gin (List.mem_append_right _ (List.mem_append_right _ (List.mem_append_left _ (List.mem_of_getElem? (i := 2) rfl)))) rfl⟩
theorem cb_County_copyFrom : CB y_County_copyFrom b_County_copyFrom 2 none 1 := ⟨vv_Gin (List.mem_append_right _ (List.mem_append_right _ (List.mem_append_right _ (List.mem_append_left _ (List.mem_of_getElem? (i := 82) rfl))))) rfl, by decide +kernel, vv_Gin (List.mem_append_right _ (List.mem_append_left _ (List.mem_of_getElem? (i := 2) rfl))) rfl⟩
theorem im_County_copyFrom : Cond.instanceMethod y_County_copyFrom ∈ vv_G := vv_Gin (List.mem_append_right _ (List.mem_append_right _ (List.mem_append_right _ (List.mem_append_left _ (List.mem_of_getElem? (i := 80) rfl))))) rfl
theorem se_County_copyFrom : Cond.selects y_County_copyFrom.cls y_County_copyFrom y_County_copyFrom ∈ vv_G := vv_Gin (List.mem_append_right _ (List.mem_append_right _ (List.mem_append_right _ (List.mem_append_left _ (List.mem_of_getElem? (i := 81) rfl))))) rfl
theorem cv_Rod_84 : CV R_Rod 84 y_County_copyFrom b_County_copyFrom 2 none 1 := ⟨cb_County_copyFrom, im_County_copyFrom, se_County_copyFrom, vv_Gin (List.mem_append_right _ (List.mem_append_right _ (List.mem_append_right _ (List.mem_append_left _ (List.mem_of_getElem? (i := 79) rfl))))) rfl⟩
theorem fa_Rod_23 : FA R_Rod 23 10 3 := ⟨_, _, _, rfl, i_Rod, by decide, vv_Gin (List.mem_append_right _ (List.mem_append_right _ (List.mem_append_left _ (List.mem_of_getElem? (i := 116) rfl)))) rfl⟩
theorem fa_Rod_88 : FA R_Rod 88 5 6 := ⟨_, _, _, rfl, i_Reader, by decide, vv_Gin (List.mem_append_right _ (List.mem_append_right _ (List.mem_append_left _ (List.mem_of_getElem? (i := 8) rfl)))) rfl⟩
theorem fa_Rod_91 : FA R_Rod 91 1 0 := ⟨_, _, _, rfl, i_County, by decide, vv_Gin (List.mem_append_right _ (List.mem_append_left _ (List.mem_of_getElem? (i := 174) rfl))) rfl⟩
theorem fa_Rod_95 : FA R_Rod 95 2 0 := ⟨_, _, _, rfl, i_Land, by decide, vv_Gin (List.mem_append_right _ (List.mem_append_left _ (List.mem_of_getElem? (i := 43) rfl))) rfl⟩
theorem fa_Rod_100 : FA R_Rod 100 2 1 := ⟨_, _, _, rfl, i_Land, by decide, vv_Gin (List.mem_append_right _ (List.mem_append_left _ (List.mem_of_getElem? (i := 47) rfl))) rfl⟩
theorem fa_Rod_103 : FA R_Rod 103 2 2 := ⟨_, _, _, rfl, i_Land, by decide, vv_Gin (List.mem_append_right _ (List.mem_append_left _ (List.mem_of_getElem? (i := 51) rfl))) rfl⟩
theorem fa_Rod_106 : FA R_Rod 106 2 3 := ⟨_, _, _, rfl, i_Land, by decide, vv_Gin (List.mem_append_right _ (List.mem_append_left _ (List.mem_of_getElem? (i := 56) rfl))) rfl⟩
theorem fa_Rod_109 : FA R_Rod 109 1 3 := ⟨_, _, _, rfl, i_County, by decide, vv_Gin (List.mem_append_right _ (List.mem_append_left _ (List.mem_of_getElem? (i := 181) rfl))) rfl⟩
theorem fa_Rod_112 : FA R_Rod 112 1 4 := ⟨_, _, _, rfl, i_County, by decide, vv_Gin (List.mem_append_right _ (List.mem_append_left _ (List.mem_of_getElem? (i := 184) rfl))) rfl⟩
theorem fa_Rod_115 : FA R_Rod 115 1 1 := ⟨_, _, _, rfl, i_County, by decide, vv_Gin (List.mem_append_right _ (List.mem_append_left _ (List.mem_of_getElem? (i := 177) rfl))) rfl⟩
theorem fa_Rod_119 : FA R_Rod 119 3 4 := ⟨_, _, _, rfl, i_Ledger, by decide, vv_Gin (List.mem_append_right _ (List.mem_append_left _ (List.mem_of_getElem? (i := 115) rfl))) rfl⟩
theorem cv_Rod_124 : CV R_Rod 124 y_Land_has b_Land_has 2 (some .boolean) 1 := ⟨cb_Land_has, im_Land_has, se_Land_has, vv_Gin (List.mem_append_right _ (List.mem_append_right _ (List.mem_append_right _ (List.mem_append_left _ (List.mem_of_getElem? (i := 112) rfl))))) rfl⟩
theorem fa_Rod_128 : FA R_Rod 128 2 4 := ⟨_, _, _, rfl, i_Land, by decide, vv_Gin (List.mem_append_right _ (List.mem_append_left _ (List.mem_of_getElem? (i := 62) rfl))) rfl⟩
theorem fa_Rod_132 : FA R_Rod 132 2 5 := ⟨_, _, _, rfl, i_Land, by decide, vv_Gin (List.mem_append_right _ (List.mem_append_left _ (List.mem_of_getElem? (i := 65) rfl))) rfl⟩
theorem fa_Rod_135 : FA R_Rod 135 2 6 := ⟨_, _, _, rfl, i_Land, by decide, vv_Gin (List.mem_append_right _ (List.mem_append_left _ (List.mem_of_getElem? (i := 69) rfl))) rfl⟩
theorem fa_Rod_138 : FA R_Rod 138 2 7 := ⟨_, _, _, rfl, i_Land, by decide, vv_Gin (List.mem_append_right _ (List.mem_append_left _ (List.mem_of_getElem? (i := 74) rfl))) rfl⟩
theorem fa_Rod_141 : FA R_Rod 141 2 8 := ⟨_, _, _, rfl, i_Land, by decide, vv_Gin (List.mem_append_right _ (List.mem_append_left _ (List.mem_of_getElem? (i := 79) rfl))) rfl⟩
theorem cv_Rod_144 : CV R_Rod 144 y_Land_isWell b_Land_isWell 2 (some .boolean) 1 := ⟨cb_Land_isWell, im_Land_isWell, se_Land_isWell, vv_Gin (List.mem_append_right _ (List.mem_append_right _ (List.mem_append_right _ (List.mem_append_left _ (List.mem_of_getElem? (i := 116) rfl))))) rfl⟩
theorem cs_Rod_147 : CS R_Rod 147 y_Rod_oneIf b_Rod_oneIf 1 (some .int) 1 := ⟨cb_Rod_oneIf, st_Rod_oneIf, Or.inl (vv_Gin (List.mem_append_right _ (List.mem_append_right _ (List.mem_append_right _ (List.mem_append_left _ (List.mem_of_getElem? (i := 120) rfl))))) rfl)⟩
theorem cs_Rod_151 : CS R_Rod 151 y_Rod_isOwner b_Rod_isOwner 1 (some .boolean) 1 := ⟨cb_Rod_isOwner, st_Rod_isOwner, Or.inl (vv_Gin (List.mem_append_right _ (List.mem_append_right _ (List.mem_append_right _ (List.mem_append_left _ (List.mem_of_getElem? (i := 127) rfl))))) rfl)⟩
theorem fa_Rod_154 : FA R_Rod 154 3 0 := ⟨_, _, _, rfl, i_Ledger, by decide, vv_Gin (List.mem_append_right _ (List.mem_append_left _ (List.mem_of_getElem? (i := 108) rfl))) rfl⟩
theorem cb_Rod_isNature : CB y_Rod_isNature b_Rod_isNature 1 (some .boolean) 1 := ⟨vv_Gin (List.mem_append_right _ (List.mem_append_right _ (List.mem_append_right _ (List.mem_append_left _ (List.mem_of_getElem? (i := 156) rfl))))) rfl, by decide +kernel, vv_Gin (List.mem_append_right _ (List.mem_append_left _ (List.mem_of_getElem? (i := 1) rfl))) rfl⟩
theorem st_Rod_isNature : Cond.static y_Rod_isNature ∈ vv_G := vv_Gin (List.mem_append_right _ (List.mem_append_right _ (List.mem_append_right _ (List.mem_append_left _ (List.mem_of_getElem? (i := 155) rfl))))) rfl
theorem cs_Rod_157 : CS R_Rod 157 y_Rod_isNature b_Rod_isNature 1 (some .boolean) 1 := ⟨cb_Rod_isNature, st_Rod_isNature, Or.inl (vv_Gin (List.mem_append_right _ (List.mem_append_right _ (List.mem_append_right _ (List.mem_append_left _ (List.mem_of_getElem? (i := 154) rfl))))) rfl)⟩
theorem fp_Rod_109 : FP R_Rod 109 1 3 .int := ⟨_, _, _, t_County, rfl, i_County, by decide, vv_Gin (List.mem_append_right _ (List.mem_append_left _ (List.mem_of_getElem? (i := 181) rfl))) rfl, t_County_ok, n_County, rfl, t_County_ok 3 (by decide)⟩
theorem fp_Rod_112 : FP R_Rod 112 1 4 .int := ⟨_, _, _, t_County, rfl, i_County, by decide, vv_Gin (List.mem_append_right _ (List.mem_append_left _ (List.mem_of_getElem? (i := 184) rfl))) rfl, t_County_ok, n_County, rfl, t_County_ok 4 (by decide)⟩
theorem cv_Rod_160 : CV R_Rod 160 y_Ledger_addDebt b_Ledger_addDebt 4 none 3 := ⟨cb_Ledger_addDebt, im_Ledger_addDebt, se_Ledger_addDebt, vv_Gin (List.mem_append_right _ (List.mem_append_right _ (List.mem_append_right _ (List.mem_append_left _ (List.mem_of_getElem? (i := 161) rfl))))) rfl⟩
theorem fp_Rod_119 : FP R_Rod 119 3 4 .int := ⟨_, _, _, t_Ledger, rfl, i_Ledger, by decide, vv_Gin (List.mem_append_right _ (List.mem_append_left _ (List.mem_of_getElem? (i := 115) rfl))) rfl, t_Ledger_ok, n_Ledger, rfl, t_Ledger_ok 4 (by decide)⟩
theorem cb_Land_raiseWater : CB y_Land_raiseWater b_Land_raiseWater 3 none 1 := ⟨vv_Gin (List.mem_append_right _ (List.mem_append_right _ (List.mem_append_right _ (List.mem_append_left _ (List.mem_of_getElem? (i := 173) rfl))))) rfl, by decide +kernel, vv_Gin (List.mem_append_right _ (List.mem_append_left _ (List.mem_of_getElem? (i := 3) rfl))) rfl⟩
theorem im_Land_raiseWater : Cond.instanceMethod y_Land_raiseWater ∈ vv_G := vv_Gin (List.mem_append_right _ (List.mem_append_right _ (List.mem_append_right _ (List.mem_append_left _ (List.mem_of_getElem? (i := 171) rfl))))) rfl
theorem se_Land_raiseWater : Cond.selects y_Land_raiseWater.cls y_Land_raiseWater y_Land_raiseWater ∈ vv_G := vv_Gin (List.mem_append_right _ (List.mem_append_right _ (List.mem_append_right _ (List.mem_append_left _ (List.mem_of_getElem? (i := 172) rfl))))) rfl
theorem cv_Rod_164 : CV R_Rod 164 y_Land_raiseWater b_Land_raiseWater 3 none 1 := ⟨cb_Land_raiseWater, im_Land_raiseWater, se_Land_raiseWater, vv_Gin (List.mem_append_right _ (List.mem_append_right _ (List.mem_append_right _ (List.mem_append_left _ (List.mem_of_getElem? (i := 170) rfl))))) rfl⟩
theorem cb_Land_wells : CB y_Land_wells b_Land_wells 1 (some .int) 0 := ⟨vv_Gin (List.mem_append_right _ (List.mem_append_right _ (List.mem_append_right _ (List.mem_append_left _ (List.mem_of_getElem? (i := 180) rfl))))) rfl, by decide +kernel, vv_Gin (List.mem_append_right _ (List.mem_append_left _ (List.mem_of_getElem? (i := 3) rfl))) rfl⟩
theorem im_Land_wells : Cond.instanceMethod y_Land_wells ∈ vv_G := vv_Gin (List.mem_append_right _ (List.mem_append_right _ (List.mem_append_right _ (List.mem_append_left _ (List.mem_of_getElem? (i := 178) rfl))))) rfl
theorem se_Land_wells : Cond.selects y_Land_wells.cls y_Land_wells y_Land_wells ∈ vv_G := vv_Gin (List.mem_append_right _ (List.mem_append_right _ (List.mem_append_right _ (List.mem_append_left _ (List.mem_of_getElem? (i := 179) rfl))))) rfl
theorem cv_Rod_168 : CV R_Rod 168 y_Land_wells b_Land_wells 1 (some .int) 0 := ⟨cb_Land_wells, im_Land_wells, se_Land_wells, vv_Gin (List.mem_append_right _ (List.mem_append_right _ (List.mem_append_right _ (List.mem_append_left _ (List.mem_of_getElem? (i := 177) rfl))))) rfl⟩
theorem cb_Rod_isSight : CB y_Rod_isSight b_Rod_isSight 4 (some .boolean) 3 := ⟨vv_Gin (List.mem_append_right _ (List.mem_append_right _ (List.mem_append_right _ (List.mem_append_left _ (List.mem_of_getElem? (i := 199) rfl))))) rfl, by decide +kernel, vv_Gin (List.mem_append_right _ (List.mem_append_left _ (List.mem_of_getElem? (i := 1) rfl))) rfl⟩
theorem im_Rod_isSight : Cond.instanceMethod y_Rod_isSight ∈ vv_G := vv_Gin (List.mem_append_right _ (List.mem_append_right _ (List.mem_append_right _ (List.mem_append_left _ (List.mem_of_getElem? (i := 198) rfl))))) rfl
theorem se_Rod_isSight : Cond.selects y_Rod_isSight.cls y_Rod_isSight y_Rod_isSight ∈ vv_G := vv_Gin (List.mem_append_left _ (List.mem_of_getElem? (i := 11) rfl)) rfl
theorem cv_Rod_171 : CV R_Rod 171 y_Rod_isSight b_Rod_isSight 4 (some .boolean) 3 := ⟨cb_Rod_isSight, im_Rod_isSight, se_Rod_isSight, vv_Gin (List.mem_append_right _ (List.mem_append_right _ (List.mem_append_right _ (List.mem_append_left _ (List.mem_of_getElem? (i := 196) rfl))))) rfl⟩
theorem cv_Rod_175 : CV R_Rod 175 y_County_twitches b_County_twitches 4 (some .boolean) 3 := ⟨cb_County_twitches, im_County_twitches, se_County_twitches, vv_Gin (List.mem_append_right _ (List.mem_append_right _ (List.mem_append_right _ (List.mem_append_left _ (List.mem_of_getElem? (i := 200) rfl))))) rfl⟩
theorem fa_Rod_178 : FA R_Rod 178 1 2 := ⟨_, _, _, rfl, i_County, by decide, vv_Gin (List.mem_append_right _ (List.mem_append_left _ (List.mem_of_getElem? (i := 179) rfl))) rfl⟩
theorem fa_Rod_182 : FA R_Rod 182 7 4 := ⟨_, _, _, rfl, i_Sights, by decide, vv_Gin (List.mem_append_right _ (List.mem_append_left _ (List.mem_of_getElem? (i := 143) rfl))) rfl⟩
theorem cb_Sights_add : CB y_Sights_add b_Sights_add 5 none 4 := ⟨vv_Gin (List.mem_append_right _ (List.mem_append_right _ (List.mem_append_right _ (List.mem_append_left _ (List.mem_of_getElem? (i := 215) rfl))))) rfl, by decide +kernel, vv_Gin (List.mem_append_right _ (List.mem_append_left _ (List.mem_of_getElem? (i := 5) rfl))) rfl⟩
theorem im_Sights_add : Cond.instanceMethod y_Sights_add ∈ vv_G := vv_Gin (List.mem_append_right _ (List.mem_append_right _ (List.mem_append_right _ (List.mem_append_left _ (List.mem_of_getElem? (i := 213) rfl))))) rfl
theorem se_Sights_add : Cond.selects y_Sights_add.cls y_Sights_add y_Sights_add ∈ vv_G := vv_Gin (List.mem_append_right _ (List.mem_append_right _ (List.mem_append_right _ (List.mem_append_left _ (List.mem_of_getElem? (i := 214) rfl))))) rfl
theorem cv_Rod_185 : CV R_Rod 185 y_Sights_add b_Sights_add 5 none 4 := ⟨cb_Sights_add, im_Sights_add, se_Sights_add, vv_Gin (List.mem_append_right _ (List.mem_append_right _ (List.mem_append_right _ (List.mem_append_left _ (List.mem_of_getElem? (i := 212) rfl))))) rfl⟩
theorem fp_Rod_182 : FP R_Rod 182 7 4 .int := ⟨_, _, _, t_Sights, rfl, i_Sights, by decide, vv_Gin (List.mem_append_right _ (List.mem_append_left _ (List.mem_of_getElem? (i := 143) rfl))) rfl, t_Sights_ok, n_Sights, rfl, t_Sights_ok 4 (by decide)⟩
theorem cb_County_fittingRods : CB y_County_fittingRods b_County_fittingRods 4 (some .int) 0 := ⟨vv_Gin (List.mem_append_right _ (List.mem_append_right _ (List.mem_append_right _ (List.mem_append_left _ (List.mem_of_getElem? (i := 227) rfl))))) rfl, by decide +kernel, vv_Gin (List.mem_append_right _ (List.mem_append_left _ (List.mem_of_getElem? (i := 2) rfl))) rfl⟩
theorem im_County_fittingRods : Cond.instanceMethod y_County_fittingRods ∈ vv_G := vv_Gin (List.mem_append_right _ (List.mem_append_right _ (List.mem_append_right _ (List.mem_append_left _ (List.mem_of_getElem? (i := 225) rfl))))) rfl
theorem se_County_fittingRods : Cond.selects y_County_fittingRods.cls y_County_fittingRods y_County_fittingRods ∈ vv_G := vv_Gin (List.mem_append_right _ (List.mem_append_right _ (List.mem_append_right _ (List.mem_append_left _ (List.mem_of_getElem? (i := 226) rfl))))) rfl
theorem cv_Rod_189 : CV R_Rod 189 y_County_fittingRods b_County_fittingRods 4 (some .int) 0 := ⟨cb_County_fittingRods, im_County_fittingRods, se_County_fittingRods, vv_Gin (List.mem_append_right _ (List.mem_append_right _ (List.mem_append_right _ (List.mem_append_left _ (List.mem_of_getElem? (i := 224) rfl))))) rfl⟩
theorem cs_Rod_192 : CS R_Rod 192 y_Rod_natureOf b_Rod_natureOf 1 (some .int) 1 := ⟨cb_Rod_natureOf, st_Rod_natureOf, Or.inl (vv_Gin (List.mem_append_right _ (List.mem_append_right _ (List.mem_append_right _ (List.mem_append_right _ (List.mem_append_left _ (List.mem_of_getElem? (i := 0) rfl)))))) rfl)⟩
theorem cb_Rod_reachBits : CB y_Rod_reachBits b_Rod_reachBits 1 (some .int) 1 := ⟨vv_Gin (List.mem_append_right _ (List.mem_append_right _ (List.mem_append_right _ (List.mem_append_right _ (List.mem_append_left _ (List.mem_of_getElem? (i := 7) rfl)))))) rfl, by decide +kernel, vv_Gin (List.mem_append_right _ (List.mem_append_left _ (List.mem_of_getElem? (i := 1) rfl))) rfl⟩
theorem st_Rod_reachBits : Cond.static y_Rod_reachBits ∈ vv_G := vv_Gin (List.mem_append_right _ (List.mem_append_right _ (List.mem_append_right _ (List.mem_append_right _ (List.mem_append_left _ (List.mem_of_getElem? (i := 6) rfl)))))) rfl
theorem cs_Rod_196 : CS R_Rod 196 y_Rod_reachBits b_Rod_reachBits 1 (some .int) 1 := ⟨cb_Rod_reachBits, st_Rod_reachBits, Or.inl (vv_Gin (List.mem_append_right _ (List.mem_append_right _ (List.mem_append_right _ (List.mem_append_right _ (List.mem_append_left _ (List.mem_of_getElem? (i := 5) rfl)))))) rfl)⟩
theorem cs_Rod_199 : CS R_Rod 199 y_Int_bitCount b_Int_bitCount 1 (some .int) 1 := ⟨cb_Int_bitCount, st_Int_bitCount, Or.inl (vv_Gin (List.mem_append_right _ (List.mem_append_right _ (List.mem_append_right _ (List.mem_append_right _ (List.mem_append_left _ (List.mem_of_getElem? (i := 13) rfl)))))) rfl)⟩
theorem cv_Rod_204 : CV R_Rod 204 y_Land_cells b_Land_cells 1 (some .int) 0 := ⟨cb_Land_cells, im_Land_cells, se_Land_cells, vv_Gin (List.mem_append_right _ (List.mem_append_right _ (List.mem_append_right _ (List.mem_append_right _ (List.mem_append_left _ (List.mem_of_getElem? (i := 14) rfl)))))) rfl⟩
theorem cv_Rod_207 : CV R_Rod 207 y_Land_twitchingRods b_Land_twitchingRods 6 (some .int) 3 := ⟨cb_Land_twitchingRods, im_Land_twitchingRods, se_Land_twitchingRods, vv_Gin (List.mem_append_right _ (List.mem_append_right _ (List.mem_append_right _ (List.mem_append_right _ (List.mem_append_left _ (List.mem_of_getElem? (i := 15) rfl)))))) rfl⟩
theorem wm_Rod_211 : Cond.methodLink R_Rod 211 Lib.Math.max.name ∈ vv_G := vv_Gin (List.mem_append_right _ (List.mem_append_right _ (List.mem_append_right _ (List.mem_append_right _ (List.mem_append_left _ (List.mem_of_getElem? (i := 16) (by decide +kernel))))))) (by decide +kernel)
theorem fa_Rod_42 : FA R_Rod 42 10 6 := ⟨_, _, _, rfl, i_Rod, by decide, vv_Gin (List.mem_append_right _ (List.mem_append_right _ (List.mem_append_left _ (List.mem_of_getElem? (i := 119) rfl)))) rfl⟩
theorem cb_Walks_find : CB y_Walks_find b_Walks_find 8 none 4 := ⟨vv_Gin (List.mem_append_right _ (List.mem_append_right _ (List.mem_append_right _ (List.mem_append_right _ (List.mem_append_left _ (List.mem_of_getElem? (i := 24) rfl)))))) rfl, by decide +kernel, vv_Gin (List.mem_append_right _ (List.mem_append_left _ (List.mem_of_getElem? (i := 9) rfl))) rfl⟩
theorem im_Walks_find : Cond.instanceMethod y_Walks_find ∈ vv_G := vv_Gin (List.mem_append_right _ (List.mem_append_right _ (List.mem_append_right _ (List.mem_append_right _ (List.mem_append_left _ (List.mem_of_getElem? (i := 22) rfl)))))) rfl
theorem se_Walks_find : Cond.selects y_Walks_find.cls y_Walks_find y_Walks_find ∈ vv_G := vv_Gin (List.mem_append_right _ (List.mem_append_right _ (List.mem_append_right _ (List.mem_append_right _ (List.mem_append_left _ (List.mem_of_getElem? (i := 23) rfl)))))) rfl
theorem cv_Rod_217 : CV R_Rod 217 y_Walks_find b_Walks_find 8 none 4 := ⟨cb_Walks_find, im_Walks_find, se_Walks_find, vv_Gin (List.mem_append_right _ (List.mem_append_right _ (List.mem_append_right _ (List.mem_append_right _ (List.mem_append_left _ (List.mem_of_getElem? (i := 21) rfl)))))) rfl⟩
theorem fa_Rod_224 : FA R_Rod 224 9 1 := ⟨_, _, _, rfl, i_Walks, by decide, vv_Gin (List.mem_append_right _ (List.mem_append_right _ (List.mem_append_left _ (List.mem_of_getElem? (i := 34) rfl)))) rfl⟩
theorem cb_Walks_most : CB y_Walks_most b_Walks_most 2 (some .int) 1 := ⟨vv_Gin (List.mem_append_right _ (List.mem_append_right _ (List.mem_append_right _ (List.mem_append_right _ (List.mem_append_left _ (List.mem_of_getElem? (i := 42) rfl)))))) rfl, by decide +kernel, vv_Gin (List.mem_append_right _ (List.mem_append_left _ (List.mem_of_getElem? (i := 9) rfl))) rfl⟩
theorem im_Walks_most : Cond.instanceMethod y_Walks_most ∈ vv_G := vv_Gin (List.mem_append_right _ (List.mem_append_right _ (List.mem_append_right _ (List.mem_append_right _ (List.mem_append_left _ (List.mem_of_getElem? (i := 40) rfl)))))) rfl
theorem se_Walks_most : Cond.selects y_Walks_most.cls y_Walks_most y_Walks_most ∈ vv_G := vv_Gin (List.mem_append_right _ (List.mem_append_right _ (List.mem_append_right _ (List.mem_append_right _ (List.mem_append_left _ (List.mem_of_getElem? (i := 41) rfl)))))) rfl
theorem cv_Rod_221 : CV R_Rod 221 y_Walks_most b_Walks_most 2 (some .int) 1 := ⟨cb_Walks_most, im_Walks_most, se_Walks_most, vv_Gin (List.mem_append_right _ (List.mem_append_right _ (List.mem_append_right _ (List.mem_append_right _ (List.mem_append_left _ (List.mem_of_getElem? (i := 39) rfl)))))) rfl⟩
theorem cb_County_boreBy : CB y_County_boreBy b_County_boreBy 9 (some .int) 3 := ⟨vv_Gin (List.mem_append_right _ (List.mem_append_right _ (List.mem_append_right _ (List.mem_append_right _ (List.mem_append_left _ (List.mem_of_getElem? (i := 50) rfl)))))) rfl, by decide +kernel, vv_Gin (List.mem_append_right _ (List.mem_append_left _ (List.mem_of_getElem? (i := 2) rfl))) rfl⟩
theorem im_County_boreBy : Cond.instanceMethod y_County_boreBy ∈ vv_G := vv_Gin (List.mem_append_right _ (List.mem_append_right _ (List.mem_append_right _ (List.mem_append_right _ (List.mem_append_left _ (List.mem_of_getElem? (i := 48) rfl)))))) rfl
theorem se_County_boreBy : Cond.selects y_County_boreBy.cls y_County_boreBy y_County_boreBy ∈ vv_G := vv_Gin (List.mem_append_right _ (List.mem_append_right _ (List.mem_append_right _ (List.mem_append_right _ (List.mem_append_left _ (List.mem_of_getElem? (i := 49) rfl)))))) rfl
theorem cv_Rod_227 : CV R_Rod 227 y_County_boreBy b_County_boreBy 9 (some .int) 3 := ⟨cb_County_boreBy, im_County_boreBy, se_County_boreBy, vv_Gin (List.mem_append_right _ (List.mem_append_right _ (List.mem_append_right _ (List.mem_append_right _ (List.mem_append_left _ (List.mem_of_getElem? (i := 47) rfl)))))) rfl⟩
theorem wl_Rod_233 : Cond.constantLong R_Rod 233 (-1) ∈ vv_G := vv_Gin (List.mem_append_right _ (List.mem_append_right _ (List.mem_append_right _ (List.mem_append_right _ (List.mem_append_left _ (List.mem_of_getElem? (i := 64) (by decide +kernel))))))) (by decide +kernel)
theorem cs_Rod_230 : CS R_Rod 230 y_Rod_isDepth b_Rod_isDepth 1 (some .boolean) 1 := ⟨cb_Rod_isDepth, st_Rod_isDepth, Or.inl (vv_Gin (List.mem_append_right _ (List.mem_append_right _ (List.mem_append_right _ (List.mem_append_right _ (List.mem_append_left _ (List.mem_of_getElem? (i := 63) rfl)))))) rfl)⟩
theorem fa_Rod_49 : FA R_Rod 49 10 7 := ⟨_, _, _, rfl, i_Rod, by decide, vv_Gin (List.mem_append_right _ (List.mem_append_right _ (List.mem_append_left _ (List.mem_of_getElem? (i := 120) rfl)))) rfl⟩
theorem cb_Plans_find : CB y_Plans_find b_Plans_find 12 none 4 := ⟨vv_Gin (List.mem_append_right _ (List.mem_append_right _ (List.mem_append_right _ (List.mem_append_right _ (List.mem_append_left _ (List.mem_of_getElem? (i := 68) rfl)))))) rfl, by decide +kernel, vv_Gin (List.mem_append_right _ (List.mem_append_left _ (List.mem_of_getElem? (i := 10) rfl))) rfl⟩
theorem im_Plans_find : Cond.instanceMethod y_Plans_find ∈ vv_G := vv_Gin (List.mem_append_right _ (List.mem_append_right _ (List.mem_append_right _ (List.mem_append_right _ (List.mem_append_left _ (List.mem_of_getElem? (i := 66) rfl)))))) rfl
theorem se_Plans_find : Cond.selects y_Plans_find.cls y_Plans_find y_Plans_find ∈ vv_G := vv_Gin (List.mem_append_right _ (List.mem_append_right _ (List.mem_append_right _ (List.mem_append_right _ (List.mem_append_left _ (List.mem_of_getElem? (i := 67) rfl)))))) rfl
theorem cv_Rod_235 : CV R_Rod 235 y_Plans_find b_Plans_find 12 none 4 := ⟨cb_Plans_find, im_Plans_find, se_Plans_find, vv_Gin (List.mem_append_right _ (List.mem_append_right _ (List.mem_append_right _ (List.mem_append_right _ (List.mem_append_left _ (List.mem_of_getElem? (i := 65) rfl)))))) rfl⟩
theorem fa_Rod_244 : FA R_Rod 244 4 1 := ⟨_, _, _, rfl, i_Plans, by decide, vv_Gin (List.mem_append_right _ (List.mem_append_right _ (List.mem_append_left _ (List.mem_of_getElem? (i := 49) rfl)))) rfl⟩
theorem wl_Rod_248 : Cond.constantLong R_Rod 248 (-4) ∈ vv_G := vv_Gin (List.mem_append_right _ (List.mem_append_right _ (List.mem_append_right _ (List.mem_append_right _ (List.mem_append_left _ (List.mem_of_getElem? (i := 86) (by decide +kernel))))))) (by decide +kernel)
theorem fa_Rod_245 : FA R_Rod 245 4 0 := ⟨_, _, _, rfl, i_Plans, by decide, vv_Gin (List.mem_append_right _ (List.mem_append_right _ (List.mem_append_left _ (List.mem_of_getElem? (i := 47) rfl)))) rfl⟩
theorem cb_Plans_meanBelow : CB y_Plans_meanBelow b_Plans_meanBelow 1 (some .int) 0 := ⟨vv_Gin (List.mem_append_right _ (List.mem_append_right _ (List.mem_append_right _ (List.mem_append_right _ (List.mem_append_left _ (List.mem_of_getElem? (i := 85) rfl)))))) rfl, by decide +kernel, vv_Gin (List.mem_append_right _ (List.mem_append_left _ (List.mem_of_getElem? (i := 10) rfl))) rfl⟩
theorem im_Plans_meanBelow : Cond.instanceMethod y_Plans_meanBelow ∈ vv_G := vv_Gin (List.mem_append_right _ (List.mem_append_right _ (List.mem_append_right _ (List.mem_append_right _ (List.mem_append_left _ (List.mem_of_getElem? (i := 83) rfl)))))) rfl
theorem se_Plans_meanBelow : Cond.selects y_Plans_meanBelow.cls y_Plans_meanBelow y_Plans_meanBelow ∈ vv_G := vv_Gin (List.mem_append_right _ (List.mem_append_right _ (List.mem_append_right _ (List.mem_append_right _ (List.mem_append_left _ (List.mem_of_getElem? (i := 84) rfl)))))) rfl
theorem cv_Rod_241 : CV R_Rod 241 y_Plans_meanBelow b_Plans_meanBelow 1 (some .int) 0 := ⟨cb_Plans_meanBelow, im_Plans_meanBelow, se_Plans_meanBelow, vv_Gin (List.mem_append_right _ (List.mem_append_right _ (List.mem_append_right _ (List.mem_append_right _ (List.mem_append_left _ (List.mem_of_getElem? (i := 82) rfl)))))) rfl⟩
theorem cb_Plans_meanAbove : CB y_Plans_meanAbove b_Plans_meanAbove 1 (some .int) 0 := ⟨vv_Gin (List.mem_append_right _ (List.mem_append_right _ (List.mem_append_right _ (List.mem_append_right _ (List.mem_append_left _ (List.mem_of_getElem? (i := 76) rfl)))))) rfl, by decide +kernel, vv_Gin (List.mem_append_right _ (List.mem_append_left _ (List.mem_of_getElem? (i := 10) rfl))) rfl⟩
theorem im_Plans_meanAbove : Cond.instanceMethod y_Plans_meanAbove ∈ vv_G := vv_Gin (List.mem_append_right _ (List.mem_append_right _ (List.mem_append_right _ (List.mem_append_right _ (List.mem_append_left _ (List.mem_of_getElem? (i := 74) rfl)))))) rfl
theorem se_Plans_meanAbove : Cond.selects y_Plans_meanAbove.cls y_Plans_meanAbove y_Plans_meanAbove ∈ vv_G := vv_Gin (List.mem_append_right _ (List.mem_append_right _ (List.mem_append_right _ (List.mem_append_right _ (List.mem_append_left _ (List.mem_of_getElem? (i := 75) rfl)))))) rfl
theorem cv_Rod_238 : CV R_Rod 238 y_Plans_meanAbove b_Plans_meanAbove 1 (some .int) 0 := ⟨cb_Plans_meanAbove, im_Plans_meanAbove, se_Plans_meanAbove, vv_Gin (List.mem_append_right _ (List.mem_append_right _ (List.mem_append_right _ (List.mem_append_right _ (List.mem_append_left _ (List.mem_of_getElem? (i := 73) rfl)))))) rfl⟩
theorem fa_Rod_56 : FA R_Rod 56 10 8 := ⟨_, _, _, rfl, i_Rod, by decide, vv_Gin (List.mem_append_right _ (List.mem_append_right _ (List.mem_append_left _ (List.mem_of_getElem? (i := 121) rfl)))) rfl⟩
theorem cb_Beds_find : CB y_Beds_find b_Beds_find 4 none 1 := ⟨vv_Gin (List.mem_append_right _ (List.mem_append_right _ (List.mem_append_right _ (List.mem_append_right _ (List.mem_append_left _ (List.mem_of_getElem? (i := 94) rfl)))))) rfl, by decide +kernel, vv_Gin (List.mem_append_right _ (List.mem_append_left _ (List.mem_of_getElem? (i := 11) rfl))) rfl⟩
theorem im_Beds_find : Cond.instanceMethod y_Beds_find ∈ vv_G := vv_Gin (List.mem_append_right _ (List.mem_append_right _ (List.mem_append_right _ (List.mem_append_right _ (List.mem_append_left _ (List.mem_of_getElem? (i := 92) rfl)))))) rfl
theorem se_Beds_find : Cond.selects y_Beds_find.cls y_Beds_find y_Beds_find ∈ vv_G := vv_Gin (List.mem_append_right _ (List.mem_append_right _ (List.mem_append_right _ (List.mem_append_right _ (List.mem_append_left _ (List.mem_of_getElem? (i := 93) rfl)))))) rfl
theorem cv_Rod_250 : CV R_Rod 250 y_Beds_find b_Beds_find 4 none 1 := ⟨cb_Beds_find, im_Beds_find, se_Beds_find, vv_Gin (List.mem_append_right _ (List.mem_append_right _ (List.mem_append_right _ (List.mem_append_right _ (List.mem_append_left _ (List.mem_of_getElem? (i := 91) rfl)))))) rfl⟩
theorem fa_Rod_253 : FA R_Rod 253 0 4 := ⟨_, _, _, rfl, i_Beds, by decide, vv_Gin (List.mem_append_right _ (List.mem_append_right _ (List.mem_append_left _ (List.mem_of_getElem? (i := 69) rfl)))) rfl⟩
theorem fa_Rod_256 : FA R_Rod 256 0 5 := ⟨_, _, _, rfl, i_Beds, by decide, vv_Gin (List.mem_append_right _ (List.mem_append_right _ (List.mem_append_left _ (List.mem_of_getElem? (i := 71) rfl)))) rfl⟩
theorem cv_Rod_259 : CV R_Rod 259 y_Land_allBits b_Land_allBits 1 (some .int) 0 := ⟨cb_Land_allBits, im_Land_allBits, se_Land_allBits, vv_Gin (List.mem_append_right _ (List.mem_append_right _ (List.mem_append_right _ (List.mem_append_right _ (List.mem_append_left _ (List.mem_of_getElem? (i := 113) rfl)))))) rfl⟩
theorem fa_Rod_262 : FA R_Rod 262 0 6 := ⟨_, _, _, rfl, i_Beds, by decide, vv_Gin (List.mem_append_right _ (List.mem_append_right _ (List.mem_append_left _ (List.mem_of_getElem? (i := 73) rfl)))) rfl⟩
theorem fa_Rod_265 : FA R_Rod 265 0 7 := ⟨_, _, _, rfl, i_Beds, by decide, vv_Gin (List.mem_append_right _ (List.mem_append_right _ (List.mem_append_left _ (List.mem_of_getElem? (i := 75) rfl)))) rfl⟩
theorem cb_Beds_fittingWithWell : CB y_Beds_fittingWithWell b_Beds_fittingWithWell 6 (some .int) 2 := ⟨vv_Gin (List.mem_append_right _ (List.mem_append_right _ (List.mem_append_right _ (List.mem_append_right _ (List.mem_append_left _ (List.mem_of_getElem? (i := 121) rfl)))))) rfl, by decide +kernel, vv_Gin (List.mem_append_right _ (List.mem_append_left _ (List.mem_of_getElem? (i := 11) rfl))) rfl⟩
theorem im_Beds_fittingWithWell : Cond.instanceMethod y_Beds_fittingWithWell ∈ vv_G := vv_Gin (List.mem_append_right _ (List.mem_append_right _ (List.mem_append_right _ (List.mem_append_right _ (List.mem_append_left _ (List.mem_of_getElem? (i := 119) rfl)))))) rfl
theorem se_Beds_fittingWithWell : Cond.selects y_Beds_fittingWithWell.cls y_Beds_fittingWithWell y_Beds_fittingWithWell ∈ vv_G := vv_Gin (List.mem_append_right _ (List.mem_append_right _ (List.mem_append_right _ (List.mem_append_right _ (List.mem_append_left _ (List.mem_of_getElem? (i := 120) rfl)))))) rfl
theorem cv_Rod_268 : CV R_Rod 268 y_Beds_fittingWithWell b_Beds_fittingWithWell 6 (some .int) 2 := ⟨cb_Beds_fittingWithWell, im_Beds_fittingWithWell, se_Beds_fittingWithWell, vv_Gin (List.mem_append_right _ (List.mem_append_right _ (List.mem_append_right _ (List.mem_append_right _ (List.mem_append_left _ (List.mem_of_getElem? (i := 118) rfl)))))) rfl⟩
theorem cb_Ledger_failingAfter : CB y_Ledger_failingAfter b_Ledger_failingAfter 4 (some .int) 1 := ⟨vv_Gin (List.mem_append_right _ (List.mem_append_right _ (List.mem_append_right _ (List.mem_append_right _ (List.mem_append_left _ (List.mem_of_getElem? (i := 129) rfl)))))) rfl, by decide +kernel, vv_Gin (List.mem_append_right _ (List.mem_append_left _ (List.mem_of_getElem? (i := 4) rfl))) rfl⟩
theorem im_Ledger_failingAfter : Cond.instanceMethod y_Ledger_failingAfter ∈ vv_G := vv_Gin (List.mem_append_right _ (List.mem_append_right _ (List.mem_append_right _ (List.mem_append_right _ (List.mem_append_left _ (List.mem_of_getElem? (i := 127) rfl)))))) rfl
theorem se_Ledger_failingAfter : Cond.selects y_Ledger_failingAfter.cls y_Ledger_failingAfter y_Ledger_failingAfter ∈ vv_G := vv_Gin (List.mem_append_right _ (List.mem_append_right _ (List.mem_append_right _ (List.mem_append_right _ (List.mem_append_left _ (List.mem_of_getElem? (i := 128) rfl)))))) rfl
theorem cv_Rod_271 : CV R_Rod 271 y_Ledger_failingAfter b_Ledger_failingAfter 4 (some .int) 1 := ⟨cb_Ledger_failingAfter, im_Ledger_failingAfter, se_Ledger_failingAfter, vv_Gin (List.mem_append_right _ (List.mem_append_right _ (List.mem_append_right _ (List.mem_append_right _ (List.mem_append_left _ (List.mem_of_getElem? (i := 126) rfl)))))) rfl⟩
theorem cv_Rod_274 : CV R_Rod 274 y_Ledger_lacking b_Ledger_lacking 5 (some .int) 2 := ⟨cb_Ledger_lacking, im_Ledger_lacking, se_Ledger_lacking, vv_Gin (List.mem_append_right _ (List.mem_append_right _ (List.mem_append_right _ (List.mem_append_right _ (List.mem_append_left _ (List.mem_of_getElem? (i := 138) rfl)))))) rfl⟩
theorem tc_60 : (60 : Int32).toInt = 60 := rfl
theorem fa_Rod_16 : FA R_Rod 16 10 1 := ⟨_, _, _, rfl, i_Rod, by decide, vv_Gin (List.mem_append_right _ (List.mem_append_right _ (List.mem_append_left _ (List.mem_of_getElem? (i := 114) rfl)))) rfl⟩
theorem cb_Rod_stirred : CB y_Rod_stirred b_Rod_stirred 1 (some .int) 1 := ⟨vv_Gin (List.mem_append_right _ (List.mem_append_right _ (List.mem_append_right _ (List.mem_append_right _ (List.mem_append_left _ (List.mem_of_getElem? (i := 145) rfl)))))) rfl, by decide +kernel, vv_Gin (List.mem_append_right _ (List.mem_append_left _ (List.mem_of_getElem? (i := 1) rfl))) rfl⟩
theorem st_Rod_stirred : Cond.static y_Rod_stirred ∈ vv_G := vv_Gin (List.mem_append_right _ (List.mem_append_right _ (List.mem_append_right _ (List.mem_append_right _ (List.mem_append_left _ (List.mem_of_getElem? (i := 144) rfl)))))) rfl
theorem cs_Rod_277 : CS R_Rod 277 y_Rod_stirred b_Rod_stirred 1 (some .int) 1 := ⟨cb_Rod_stirred, st_Rod_stirred, Or.inl (vv_Gin (List.mem_append_right _ (List.mem_append_right _ (List.mem_append_right _ (List.mem_append_right _ (List.mem_append_left _ (List.mem_of_getElem? (i := 143) rfl)))))) rfl)⟩
theorem cb_Rod_drawnBits : CB y_Rod_drawnBits b_Rod_drawnBits 1 (some .int) 1 := ⟨vv_Gin (List.mem_append_right _ (List.mem_append_right _ (List.mem_append_right _ (List.mem_append_right _ (List.mem_append_left _ (List.mem_of_getElem? (i := 149) rfl)))))) rfl, by decide +kernel, vv_Gin (List.mem_append_right _ (List.mem_append_left _ (List.mem_of_getElem? (i := 1) rfl))) rfl⟩
theorem st_Rod_drawnBits : Cond.static y_Rod_drawnBits ∈ vv_G := vv_Gin (List.mem_append_right _ (List.mem_append_right _ (List.mem_append_right _ (List.mem_append_right _ (List.mem_append_left _ (List.mem_of_getElem? (i := 148) rfl)))))) rfl
theorem cs_Rod_280 : CS R_Rod 280 y_Rod_drawnBits b_Rod_drawnBits 1 (some .int) 1 := ⟨cb_Rod_drawnBits, st_Rod_drawnBits, Or.inl (vv_Gin (List.mem_append_right _ (List.mem_append_right _ (List.mem_append_right _ (List.mem_append_right _ (List.mem_append_left _ (List.mem_of_getElem? (i := 147) rfl)))))) rfl)⟩
theorem fa_Rod_19 : FA R_Rod 19 10 2 := ⟨_, _, _, rfl, i_Rod, by decide, vv_Gin (List.mem_append_right _ (List.mem_append_right _ (List.mem_append_left _ (List.mem_of_getElem? (i := 115) rfl)))) rfl⟩
theorem cb_Rod_isSheet : CB y_Rod_isSheet b_Rod_isSheet 1 (some .boolean) 1 := ⟨vv_Gin (List.mem_append_right _ (List.mem_append_right _ (List.mem_append_right _ (List.mem_append_right _ (List.mem_append_left _ (List.mem_of_getElem? (i := 164) rfl)))))) rfl, by decide +kernel, vv_Gin (List.mem_append_right _ (List.mem_append_left _ (List.mem_of_getElem? (i := 1) rfl))) rfl⟩
theorem st_Rod_isSheet : Cond.static y_Rod_isSheet ∈ vv_G := vv_Gin (List.mem_append_right _ (List.mem_append_right _ (List.mem_append_right _ (List.mem_append_right _ (List.mem_append_left _ (List.mem_of_getElem? (i := 163) rfl)))))) rfl
theorem cs_Rod_283 : CS R_Rod 283 y_Rod_isSheet b_Rod_isSheet 1 (some .boolean) 1 := ⟨cb_Rod_isSheet, st_Rod_isSheet, Or.inl (vv_Gin (List.mem_append_right _ (List.mem_append_right _ (List.mem_append_right _ (List.mem_append_right _ (List.mem_append_left _ (List.mem_of_getElem? (i := 162) rfl)))))) rfl)⟩
theorem cb_Rod_isLane : CB y_Rod_isLane b_Rod_isLane 1 (some .boolean) 1 := ⟨vv_Gin (List.mem_append_right _ (List.mem_append_right _ (List.mem_append_right _ (List.mem_append_right _ (List.mem_append_left _ (List.mem_of_getElem? (i := 167) rfl)))))) rfl, by decide +kernel, vv_Gin (List.mem_append_right _ (List.mem_append_left _ (List.mem_of_getElem? (i := 1) rfl))) rfl⟩
theorem st_Rod_isLane : Cond.static y_Rod_isLane ∈ vv_G := vv_Gin (List.mem_append_right _ (List.mem_append_right _ (List.mem_append_right _ (List.mem_append_right _ (List.mem_append_left _ (List.mem_of_getElem? (i := 166) rfl)))))) rfl
theorem cs_Rod_286 : CS R_Rod 286 y_Rod_isLane b_Rod_isLane 1 (some .boolean) 1 := ⟨cb_Rod_isLane, st_Rod_isLane, Or.inl (vv_Gin (List.mem_append_right _ (List.mem_append_right _ (List.mem_append_right _ (List.mem_append_right _ (List.mem_append_left _ (List.mem_of_getElem? (i := 165) rfl)))))) rfl)⟩
theorem fa_Rod_62 : FA R_Rod 62 10 9 := ⟨_, _, _, rfl, i_Rod, by decide, vv_Gin (List.mem_append_right _ (List.mem_append_right _ (List.mem_append_left _ (List.mem_of_getElem? (i := 122) rfl)))) rfl⟩
theorem cb_Sheet_makeNew : CB y_Sheet_makeNew b_Sheet_makeNew 3 none 2 := ⟨vv_Gin (List.mem_append_right _ (List.mem_append_right _ (List.mem_append_right _ (List.mem_append_right _ (List.mem_append_left _ (List.mem_of_getElem? (i := 171) rfl)))))) rfl, by decide +kernel, vv_Gin (List.mem_append_right _ (List.mem_append_left _ (List.mem_of_getElem? (i := 12) rfl))) rfl⟩
theorem im_Sheet_makeNew : Cond.instanceMethod y_Sheet_makeNew ∈ vv_G := vv_Gin (List.mem_append_right _ (List.mem_append_right _ (List.mem_append_right _ (List.mem_append_right _ (List.mem_append_left _ (List.mem_of_getElem? (i := 169) rfl)))))) rfl
theorem se_Sheet_makeNew : Cond.selects y_Sheet_makeNew.cls y_Sheet_makeNew y_Sheet_makeNew ∈ vv_G := vv_Gin (List.mem_append_right _ (List.mem_append_right _ (List.mem_append_right _ (List.mem_append_right _ (List.mem_append_left _ (List.mem_of_getElem? (i := 170) rfl)))))) rfl
theorem cv_Rod_289 : CV R_Rod 289 y_Sheet_makeNew b_Sheet_makeNew 3 none 2 := ⟨cb_Sheet_makeNew, im_Sheet_makeNew, se_Sheet_makeNew, vv_Gin (List.mem_append_right _ (List.mem_append_right _ (List.mem_append_right _ (List.mem_append_right _ (List.mem_append_left _ (List.mem_of_getElem? (i := 168) rfl)))))) rfl⟩
theorem fa_Rod_293 : FA R_Rod 293 6 1 := ⟨_, _, _, rfl, i_Sheet, by decide, vv_Gin (List.mem_append_right _ (List.mem_append_right _ (List.mem_append_left _ (List.mem_of_getElem? (i := 103) rfl)))) rfl⟩
theorem fa_Rod_296 : FA R_Rod 296 6 2 := ⟨_, _, _, rfl, i_Sheet, by decide, vv_Gin (List.mem_append_right _ (List.mem_append_right _ (List.mem_append_left _ (List.mem_of_getElem? (i := 105) rfl)))) rfl⟩
theorem cb_Sheet_put : CB y_Sheet_put b_Sheet_put 3 none 2 := ⟨vv_Gin (List.mem_append_right _ (List.mem_append_right _ (List.mem_append_right _ (List.mem_append_right _ (List.mem_append_left _ (List.mem_of_getElem? (i := 180) rfl)))))) rfl, by decide +kernel, vv_Gin (List.mem_append_right _ (List.mem_append_left _ (List.mem_of_getElem? (i := 12) rfl))) rfl⟩
theorem im_Sheet_put : Cond.instanceMethod y_Sheet_put ∈ vv_G := vv_Gin (List.mem_append_right _ (List.mem_append_right _ (List.mem_append_right _ (List.mem_append_right _ (List.mem_append_left _ (List.mem_of_getElem? (i := 178) rfl)))))) rfl
theorem se_Sheet_put : Cond.selects y_Sheet_put.cls y_Sheet_put y_Sheet_put ∈ vv_G := vv_Gin (List.mem_append_right _ (List.mem_append_right _ (List.mem_append_right _ (List.mem_append_right _ (List.mem_append_left _ (List.mem_of_getElem? (i := 179) rfl)))))) rfl
theorem cv_Rod_297 : CV R_Rod 297 y_Sheet_put b_Sheet_put 3 none 2 := ⟨cb_Sheet_put, im_Sheet_put, se_Sheet_put, vv_Gin (List.mem_append_right _ (List.mem_append_right _ (List.mem_append_right _ (List.mem_append_right _ (List.mem_append_left _ (List.mem_of_getElem? (i := 177) rfl)))))) rfl⟩
theorem cb_Sheet_wholeBores : CB y_Sheet_wholeBores b_Sheet_wholeBores 4 (some .int) 3 := ⟨vv_Gin (List.mem_append_right _ (List.mem_append_right _ (List.mem_append_right _ (List.mem_append_right _ (List.mem_append_left _ (List.mem_of_getElem? (i := 188) rfl)))))) rfl, by decide +kernel, vv_Gin (List.mem_append_right _ (List.mem_append_left _ (List.mem_of_getElem? (i := 12) rfl))) rfl⟩
theorem im_Sheet_wholeBores : Cond.instanceMethod y_Sheet_wholeBores ∈ vv_G := vv_Gin (List.mem_append_right _ (List.mem_append_right _ (List.mem_append_right _ (List.mem_append_right _ (List.mem_append_left _ (List.mem_of_getElem? (i := 186) rfl)))))) rfl
theorem se_Sheet_wholeBores : Cond.selects y_Sheet_wholeBores.cls y_Sheet_wholeBores y_Sheet_wholeBores ∈ vv_G := vv_Gin (List.mem_append_right _ (List.mem_append_right _ (List.mem_append_right _ (List.mem_append_right _ (List.mem_append_left _ (List.mem_of_getElem? (i := 187) rfl)))))) rfl
theorem cv_Rod_300 : CV R_Rod 300 y_Sheet_wholeBores b_Sheet_wholeBores 4 (some .int) 3 := ⟨cb_Sheet_wholeBores, im_Sheet_wholeBores, se_Sheet_wholeBores, vv_Gin (List.mem_append_right _ (List.mem_append_right _ (List.mem_append_right _ (List.mem_append_right _ (List.mem_append_left _ (List.mem_of_getElem? (i := 185) rfl)))))) rfl⟩
theorem cb_Sheet_readFault : CB y_Sheet_readFault b_Sheet_readFault 4 (some .int) 3 := ⟨vv_Gin (List.mem_append_right _ (List.mem_append_right _ (List.mem_append_right _ (List.mem_append_right _ (List.mem_append_left _ (List.mem_of_getElem? (i := 195) rfl)))))) rfl, by decide +kernel, vv_Gin (List.mem_append_right _ (List.mem_append_left _ (List.mem_of_getElem? (i := 12) rfl))) rfl⟩
theorem im_Sheet_readFault : Cond.instanceMethod y_Sheet_readFault ∈ vv_G := vv_Gin (List.mem_append_right _ (List.mem_append_right _ (List.mem_append_right _ (List.mem_append_right _ (List.mem_append_left _ (List.mem_of_getElem? (i := 193) rfl)))))) rfl
theorem se_Sheet_readFault : Cond.selects y_Sheet_readFault.cls y_Sheet_readFault y_Sheet_readFault ∈ vv_G := vv_Gin (List.mem_append_right _ (List.mem_append_right _ (List.mem_append_right _ (List.mem_append_right _ (List.mem_append_left _ (List.mem_of_getElem? (i := 194) rfl)))))) rfl
theorem cv_Rod_306 : CV R_Rod 306 y_Sheet_readFault b_Sheet_readFault 4 (some .int) 3 := ⟨cb_Sheet_readFault, im_Sheet_readFault, se_Sheet_readFault, vv_Gin (List.mem_append_right _ (List.mem_append_right _ (List.mem_append_right _ (List.mem_append_right _ (List.mem_append_left _ (List.mem_of_getElem? (i := 192) rfl)))))) rfl⟩
theorem fp_Rod_309 : FP R_Rod 309 10 10 .int := ⟨_, _, _, t_Rod, rfl, i_Rod, by decide, vv_Gin (List.mem_append_right _ (List.mem_append_right _ (List.mem_append_left _ (List.mem_of_getElem? (i := 123) rfl)))) rfl, t_Rod_ok, n_Rod, rfl, t_Rod_ok 10 (by decide)⟩
theorem fa_Rod_303 : FA R_Rod 303 6 0 := ⟨_, _, _, rfl, i_Sheet, by decide, vv_Gin (List.mem_append_right _ (List.mem_append_right _ (List.mem_append_left _ (List.mem_of_getElem? (i := 101) rfl)))) rfl⟩
theorem fa_Rod_309 : FA R_Rod 309 10 10 := ⟨_, _, _, rfl, i_Rod, by decide, vv_Gin (List.mem_append_right _ (List.mem_append_right _ (List.mem_append_left _ (List.mem_of_getElem? (i := 123) rfl)))) rfl⟩
theorem cv_Rod_312 : CV R_Rod 312 y_Land_boredBits b_Land_boredBits 4 (some .int) 1 := ⟨cb_Land_boredBits, im_Land_boredBits, se_Land_boredBits, vv_Gin (List.mem_append_right _ (List.mem_append_right _ (List.mem_append_right _ (List.mem_append_right _ (List.mem_append_left _ (List.mem_of_getElem? (i := 204) rfl)))))) rfl⟩
theorem cb_Ledger_allPurses : CB y_Ledger_allPurses b_Ledger_allPurses 3 (some .int) 0 := ⟨vv_Gin (List.mem_append_right _ (List.mem_append_right _ (List.mem_append_right _ (List.mem_append_right _ (List.mem_append_left _ (List.mem_of_getElem? (i := 208) rfl)))))) rfl, by decide +kernel, vv_Gin (List.mem_append_right _ (List.mem_append_left _ (List.mem_of_getElem? (i := 4) rfl))) rfl⟩
theorem im_Ledger_allPurses : Cond.instanceMethod y_Ledger_allPurses ∈ vv_G := vv_Gin (List.mem_append_right _ (List.mem_append_right _ (List.mem_append_right _ (List.mem_append_right _ (List.mem_append_left _ (List.mem_of_getElem? (i := 206) rfl)))))) rfl
theorem se_Ledger_allPurses : Cond.selects y_Ledger_allPurses.cls y_Ledger_allPurses y_Ledger_allPurses ∈ vv_G := vv_Gin (List.mem_append_right _ (List.mem_append_right _ (List.mem_append_right _ (List.mem_append_right _ (List.mem_append_left _ (List.mem_of_getElem? (i := 207) rfl)))))) rfl
theorem cv_Rod_315 : CV R_Rod 315 y_Ledger_allPurses b_Ledger_allPurses 3 (some .int) 0 := ⟨cb_Ledger_allPurses, im_Ledger_allPurses, se_Ledger_allPurses, vv_Gin (List.mem_append_right _ (List.mem_append_right _ (List.mem_append_right _ (List.mem_append_right _ (List.mem_append_left _ (List.mem_of_getElem? (i := 205) rfl)))))) rfl⟩
theorem d_Rod_feed_0 : decode b_Rod_feed 0 = .ok (.iload_n 1, 1) := dc_27 (by decide +kernel)
theorem d_Rod_feed_1 : decode b_Rod_feed 1 = .ok (.ifCond .lt 9, 3) := dc_155 (a := 0) (b := 9) (by decide +kernel) rfl
theorem d_Rod_feed_4 : decode b_Rod_feed 4 = .ok (.iload_n 1, 1) := dc_27 (by decide +kernel)
theorem d_Rod_feed_5 : decode b_Rod_feed 5 = .ok (.bipush 127, 2) := dc_16 (a := 127) (by decide +kernel) rfl
theorem d_Rod_feed_7 : decode b_Rod_feed 7 = .ok (.if_icmp .le 5, 3) := dc_164 (a := 0) (b := 5) (by decide +kernel) rfl
theorem d_Rod_feed_10 : decode b_Rod_feed 10 = .ok (.iconst (-1), 1) := dc_2 (by decide +kernel)
theorem d_Rod_feed_11 : decode b_Rod_feed 11 = .ok (.ireturn, 1) := dc_172 (by decide +kernel)
theorem d_Rod_feed_12 : decode b_Rod_feed 12 = .ok (.aload_n 0, 1) := dc_42 (by decide +kernel)
theorem d_Rod_feed_13 : decode b_Rod_feed 13 = .ok (.getfield 38, 3) := dc_180 (a := 0) (b := 38) (by decide +kernel) rfl
theorem d_Rod_feed_16 : decode b_Rod_feed 16 = .ok (.getfield 67, 3) := dc_180 (a := 0) (b := 67) (by decide +kernel) rfl
theorem d_Rod_feed_19 : decode b_Rod_feed 19 = .ok (.sipush 160, 3) := dc_17 (a := 0) (b := 160) (by decide +kernel) rfl
theorem d_Rod_feed_22 : decode b_Rod_feed 22 = .ok (.if_icmp .lt 6, 3) := dc_161 (a := 0) (b := 6) (by decide +kernel) rfl
theorem d_Rod_feed_25 : decode b_Rod_feed 25 = .ok (.bipush (-3), 2) := dc_16 (a := 253) (by decide +kernel) rfl
theorem d_Rod_feed_27 : decode b_Rod_feed 27 = .ok (.ireturn, 1) := dc_172 (by decide +kernel)
theorem d_Rod_feed_28 : decode b_Rod_feed 28 = .ok (.aload_n 0, 1) := dc_42 (by decide +kernel)
theorem d_Rod_feed_29 : decode b_Rod_feed 29 = .ok (.getfield 38, 3) := dc_180 (a := 0) (b := 38) (by decide +kernel) rfl
theorem d_Rod_feed_32 : decode b_Rod_feed 32 = .ok (.getfield 73, 3) := dc_180 (a := 0) (b := 73) (by decide +kernel) rfl
theorem d_Rod_feed_35 : decode b_Rod_feed 35 = .ok (.aload_n 0, 1) := dc_42 (by decide +kernel)
theorem d_Rod_feed_36 : decode b_Rod_feed 36 = .ok (.getfield 38, 3) := dc_180 (a := 0) (b := 38) (by decide +kernel) rfl
theorem d_Rod_feed_39 : decode b_Rod_feed 39 = .ok (.getfield 67, 3) := dc_180 (a := 0) (b := 67) (by decide +kernel) rfl
theorem d_Rod_feed_42 : decode b_Rod_feed 42 = .ok (.iload_n 1, 1) := dc_27 (by decide +kernel)
theorem d_Rod_feed_43 : decode b_Rod_feed 43 = .ok (.i2b, 1) := dc_145 (by decide +kernel)
theorem d_Rod_feed_44 : decode b_Rod_feed 44 = .ok (.bastore, 1) := dc_84 (by decide +kernel)
theorem d_Rod_feed_45 : decode b_Rod_feed 45 = .ok (.aload_n 0, 1) := dc_42 (by decide +kernel)
theorem d_Rod_feed_46 : decode b_Rod_feed 46 = .ok (.getfield 38, 3) := dc_180 (a := 0) (b := 38) (by decide +kernel) rfl
theorem d_Rod_feed_49 : decode b_Rod_feed 49 = .ok (.dup, 1) := dc_89 (by decide +kernel)
theorem d_Rod_feed_50 : decode b_Rod_feed 50 = .ok (.getfield 67, 3) := dc_180 (a := 0) (b := 67) (by decide +kernel) rfl
theorem d_Rod_feed_53 : decode b_Rod_feed 53 = .ok (.iconst 1, 1) := dc_4 (by decide +kernel)
theorem d_Rod_feed_54 : decode b_Rod_feed 54 = .ok (.iadd, 1) := dc_96 (by decide +kernel)
theorem d_Rod_feed_55 : decode b_Rod_feed 55 = .ok (.putfield 67, 3) := dc_181 (a := 0) (b := 67) (by decide +kernel) rfl
theorem d_Rod_feed_58 : decode b_Rod_feed 58 = .ok (.aload_n 0, 1) := dc_42 (by decide +kernel)
theorem d_Rod_feed_59 : decode b_Rod_feed 59 = .ok (.getfield 38, 3) := dc_180 (a := 0) (b := 38) (by decide +kernel) rfl
theorem d_Rod_feed_62 : decode b_Rod_feed 62 = .ok (.getfield 67, 3) := dc_180 (a := 0) (b := 67) (by decide +kernel) rfl
theorem d_Rod_feed_65 : decode b_Rod_feed 65 = .ok (.ireturn, 1) := dc_172 (by decide +kernel)
theorem d_Rod_end_0 : decode b_Rod_end 0 = .ok (.iload_n 1, 1) := dc_27 (by decide +kernel)
theorem d_Rod_end_1 : decode b_Rod_end 1 = .ok (.ifCond .lt 14, 3) := dc_155 (a := 0) (b := 14) (by decide +kernel) rfl
theorem d_Rod_end_4 : decode b_Rod_end 4 = .ok (.iload_n 1, 1) := dc_27 (by decide +kernel)
theorem d_Rod_end_5 : decode b_Rod_end 5 = .ok (.aload_n 0, 1) := dc_42 (by decide +kernel)
theorem d_Rod_end_6 : decode b_Rod_end 6 = .ok (.getfield 38, 3) := dc_180 (a := 0) (b := 38) (by decide +kernel) rfl
theorem d_Rod_end_9 : decode b_Rod_end 9 = .ok (.getfield 67, 3) := dc_180 (a := 0) (b := 67) (by decide +kernel) rfl
theorem d_Rod_end_12 : decode b_Rod_end 12 = .ok (.if_icmp .le 5, 3) := dc_164 (a := 0) (b := 5) (by decide +kernel) rfl
theorem d_Rod_end_15 : decode b_Rod_end 15 = .ok (.iconst (-1), 1) := dc_2 (by decide +kernel)
theorem d_Rod_end_16 : decode b_Rod_end 16 = .ok (.ireturn, 1) := dc_172 (by decide +kernel)
theorem d_Rod_end_17 : decode b_Rod_end 17 = .ok (.aload_n 0, 1) := dc_42 (by decide +kernel)
theorem d_Rod_end_18 : decode b_Rod_end 18 = .ok (.getfield 38, 3) := dc_180 (a := 0) (b := 38) (by decide +kernel) rfl
theorem d_Rod_end_21 : decode b_Rod_end 21 = .ok (.getfield 67, 3) := dc_180 (a := 0) (b := 67) (by decide +kernel) rfl
theorem d_Rod_end_24 : decode b_Rod_end 24 = .ok (.istore_n 2, 1) := dc_61 (by decide +kernel)
theorem d_Rod_end_25 : decode b_Rod_end 25 = .ok (.aload_n 0, 1) := dc_42 (by decide +kernel)
theorem d_Rod_end_26 : decode b_Rod_end 26 = .ok (.getfield 38, 3) := dc_180 (a := 0) (b := 38) (by decide +kernel) rfl
theorem d_Rod_end_29 : decode b_Rod_end 29 = .ok (.iload_n 1, 1) := dc_27 (by decide +kernel)
theorem d_Rod_end_30 : decode b_Rod_end 30 = .ok (.putfield 67, 3) := dc_181 (a := 0) (b := 67) (by decide +kernel) rfl
theorem d_Rod_end_33 : decode b_Rod_end 33 = .ok (.iload_n 2, 1) := dc_28 (by decide +kernel)
theorem d_Rod_end_34 : decode b_Rod_end 34 = .ok (.ireturn, 1) := dc_172 (by decide +kernel)
def S_Rod_end : List (Nat × Option Nat) := [(89, some 1)]
abbrev q_Rod_end (h : Hp) (n : Int32) (nZ : Int) (t : Int32) (tZ : Int) : Option Value → Hp → Prop := pInt (fun r h' => Inv h' ∧ fr S_Rod_end h h' ∧ ∃ (u : Int32) (uZ : Int), u.toInt = uZ ∧ h'.1 89 1 = u ∧ (0 ≤ nZ ∧ nZ ≤ tZ ∧ uZ = nZ ∧ r.toInt = tZ ∨ (nZ < 0 ∨ tZ < nZ) ∧ uZ = tZ ∧ r.toInt = -1))
set_option maxRecDepth 100000 in
theorem c_Rod_end (h : Hp) (hI : Inv h) (n : Int32) (nZ : Int) (nE : n.toInt = nZ) (t : Int32) (tZ : Int) (tE : t.toInt = tZ) (tK : h.1 89 1 = t) : Ct y_Rod_end b_Rod_end 3 (some .int) 0 0 [.ref 85, .int n] h (q_Rod_end h n nZ t tZ) := by
  refine ct_ow R_Rod [some (.ref 85), some (.int n), none] rfl (by decide) rfl (Nat.le_of_ble_eq_true rfl) ?_
  have f0 : fr S_Rod_end h h := fr_rf
  have g1 : 0 ≤ tZ ∧ tZ ≤ 160 := inv_at hI tE tK.symm rfl
  refine V_iload_n 1 d_Rod_end_0 rfl rfl ?_
  refine V_if_lt 15 nE d_Rod_end_1 (by decide) (fun c2 => ?_) (fun c2 => ?_)
  ·
    refine V_iconst (-1) d_Rod_end_15 (by decide) ?_
    exact V_iret rfl d_Rod_end_16 ⟨(-1), rfl, ⟨hI, f0, t, tZ, tE, tK, (by (try rw [show Int32.toInt (-1) = (-1) from rfl]) <;> omega)⟩⟩
  ·
    refine V_iload_n 1 d_Rod_end_4 rfl rfl ?_
    refine V_aload_n 0 d_Rod_end_5 rfl rfl ?_
    refine V_getR fa_Rod_38 sk_85 rfl d_Rod_end_6 ?_
    refine N_getK fa_Rod_67 sk_89 rfl d_Rod_end_9 tK ?_
    refine V_icmp_le 17 nE tE d_Rod_end_12 (by decide) (fun c3 => ?_) (fun c3 => ?_)
    ·
      refine V_aload_n 0 d_Rod_end_17 rfl rfl ?_
      refine V_getR fa_Rod_38 sk_85 rfl d_Rod_end_18 ?_
      refine N_getK fa_Rod_67 sk_89 rfl d_Rod_end_21 tK ?_
      refine V_istore_n 2 [some (.ref 85), some (.int n), some (.int t)] d_Rod_end_24 rfl (by decide) rfl rfl ?_
      refine V_aload_n 0 d_Rod_end_25 rfl rfl ?_
      refine V_getR fa_Rod_38 sk_85 rfl d_Rod_end_26 ?_
      refine V_iload_n 1 d_Rod_end_29 rfl rfl ?_
      refine N_putI fp_Rod_67 sk_89 rfl d_Rod_end_30 (fun h4 eh4 => ?_)
      have hI5 : Inv h4 := inv_put (lo := 0) (hi := 160) hI eh4 rfl nE (by (first | decide +kernel | omega))
      have f6 : fr S_Rod_end h h4 := fr_put f0 eh4 rfl
      refine V_iload_n 2 d_Rod_end_33 rfl rfl ?_
      exact V_iret rfl d_Rod_end_34 ⟨t, rfl, ⟨hI5, f6, n, nZ, nE, (kn_put eh4), (by (try rw [tE]); omega)⟩⟩
    ·
      refine V_iconst (-1) d_Rod_end_15 (by decide) ?_
      exact V_iret rfl d_Rod_end_16 ⟨(-1), rfl, ⟨hI, f0, t, tZ, tE, tK, (by (try rw [show Int32.toInt (-1) = (-1) from rfl]) <;> omega)⟩⟩
theorem d_Rod_text_0 : decode b_Rod_text 0 = .ok (.aload_n 0, 1) := dc_42 (by decide +kernel)
theorem d_Rod_text_1 : decode b_Rod_text 1 = .ok (.getfield 30, 3) := dc_180 (a := 0) (b := 30) (by decide +kernel) rfl
theorem d_Rod_text_4 : decode b_Rod_text 4 = .ok (.invokevirtual 77, 3) := dc_182 (a := 0) (b := 77) (by decide +kernel) rfl
theorem d_Rod_text_7 : decode b_Rod_text 7 = .ok (.istore_n 1, 1) := dc_60 (by decide +kernel)
theorem d_Rod_text_8 : decode b_Rod_text 8 = .ok (.aload_n 0, 1) := dc_42 (by decide +kernel)
theorem d_Rod_text_9 : decode b_Rod_text 9 = .ok (.getfield 38, 3) := dc_180 (a := 0) (b := 38) (by decide +kernel) rfl
theorem d_Rod_text_12 : decode b_Rod_text 12 = .ok (.iconst 0, 1) := dc_3 (by decide +kernel)
theorem d_Rod_text_13 : decode b_Rod_text 13 = .ok (.putfield 67, 3) := dc_181 (a := 0) (b := 67) (by decide +kernel) rfl
theorem d_Rod_text_16 : decode b_Rod_text 16 = .ok (.iload_n 1, 1) := dc_27 (by decide +kernel)
theorem d_Rod_text_17 : decode b_Rod_text 17 = .ok (.ifCond .lt 37, 3) := dc_155 (a := 0) (b := 37) (by decide +kernel) rfl
theorem d_Rod_text_20 : decode b_Rod_text 20 = .ok (.aload_n 0, 1) := dc_42 (by decide +kernel)
theorem d_Rod_text_21 : decode b_Rod_text 21 = .ok (.getfield 12, 3) := dc_180 (a := 0) (b := 12) (by decide +kernel) rfl
theorem d_Rod_text_24 : decode b_Rod_text 24 = .ok (.aload_n 0, 1) := dc_42 (by decide +kernel)
theorem d_Rod_text_25 : decode b_Rod_text 25 = .ok (.getfield 30, 3) := dc_180 (a := 0) (b := 30) (by decide +kernel) rfl
theorem d_Rod_text_28 : decode b_Rod_text 28 = .ok (.getfield 81, 3) := dc_180 (a := 0) (b := 81) (by decide +kernel) rfl
theorem d_Rod_text_31 : decode b_Rod_text 31 = .ok (.invokevirtual 84, 3) := dc_182 (a := 0) (b := 84) (by decide +kernel) rfl
theorem d_Rod_text_34 : decode b_Rod_text 34 = .ok (.iconst 0, 1) := dc_3 (by decide +kernel)
theorem d_Rod_text_35 : decode b_Rod_text 35 = .ok (.istore_n 2, 1) := dc_61 (by decide +kernel)
theorem d_Rod_text_36 : decode b_Rod_text 36 = .ok (.iload_n 2, 1) := dc_28 (by decide +kernel)
theorem d_Rod_text_37 : decode b_Rod_text 37 = .ok (.iconst 2, 1) := dc_5 (by decide +kernel)
theorem d_Rod_text_38 : decode b_Rod_text 38 = .ok (.if_icmp .ge 16, 3) := dc_162 (a := 0) (b := 16) (by decide +kernel) rfl
theorem d_Rod_text_41 : decode b_Rod_text 41 = .ok (.aload_n 0, 1) := dc_42 (by decide +kernel)
theorem d_Rod_text_42 : decode b_Rod_text 42 = .ok (.getfield 23, 3) := dc_180 (a := 0) (b := 23) (by decide +kernel) rfl
theorem d_Rod_text_45 : decode b_Rod_text 45 = .ok (.iload_n 2, 1) := dc_28 (by decide +kernel)
theorem d_Rod_text_46 : decode b_Rod_text 46 = .ok (.iconst 0, 1) := dc_3 (by decide +kernel)
theorem d_Rod_text_47 : decode b_Rod_text 47 = .ok (.bastore, 1) := dc_84 (by decide +kernel)
theorem d_Rod_text_48 : decode b_Rod_text 48 = .ok (.iinc 2 1, 3) := dc_132 (a := 2) (b := 1) (by decide +kernel) rfl
theorem d_Rod_text_51 : decode b_Rod_text 51 = .ok (.goto (-15), 3) := dc_167 (a := 255) (b := 241) (by decide +kernel) rfl
theorem d_Rod_text_54 : decode b_Rod_text 54 = .ok (.iload_n 1, 1) := dc_27 (by decide +kernel)
theorem d_Rod_text_55 : decode b_Rod_text 55 = .ok (.ireturn, 1) := dc_172 (by decide +kernel)
theorem d_Rod_fault_0 : decode b_Rod_fault 0 = .ok (.aload_n 0, 1) := dc_42 (by decide +kernel)
theorem d_Rod_fault_1 : decode b_Rod_fault 1 = .ok (.getfield 30, 3) := dc_180 (a := 0) (b := 30) (by decide +kernel) rfl
theorem d_Rod_fault_4 : decode b_Rod_fault 4 = .ok (.getfield 88, 3) := dc_180 (a := 0) (b := 88) (by decide +kernel) rfl
theorem d_Rod_fault_7 : decode b_Rod_fault 7 = .ok (.ireturn, 1) := dc_172 (by decide +kernel)
theorem d_Rod_rule_0 : decode b_Rod_rule 0 = .ok (.iload_n 1, 1) := dc_27 (by decide +kernel)
theorem d_Rod_rule_1 : decode b_Rod_rule 1 = .ok (.tableswitch 114 0 6 #[43, 54, 65, 76, 87, 95, 103], 43) := by decide +kernel
theorem d_Rod_rule_44 : decode b_Rod_rule 44 = .ok (.aload_n 0, 1) := dc_42 (by decide +kernel)
theorem d_Rod_rule_45 : decode b_Rod_rule 45 = .ok (.getfield 12, 3) := dc_180 (a := 0) (b := 12) (by decide +kernel) rfl
theorem d_Rod_rule_48 : decode b_Rod_rule 48 = .ok (.getfield 91, 3) := dc_180 (a := 0) (b := 91) (by decide +kernel) rfl
theorem d_Rod_rule_51 : decode b_Rod_rule 51 = .ok (.getfield 95, 3) := dc_180 (a := 0) (b := 95) (by decide +kernel) rfl
theorem d_Rod_rule_54 : decode b_Rod_rule 54 = .ok (.ireturn, 1) := dc_172 (by decide +kernel)
theorem d_Rod_rule_55 : decode b_Rod_rule 55 = .ok (.aload_n 0, 1) := dc_42 (by decide +kernel)
theorem d_Rod_rule_56 : decode b_Rod_rule 56 = .ok (.getfield 12, 3) := dc_180 (a := 0) (b := 12) (by decide +kernel) rfl
theorem d_Rod_rule_59 : decode b_Rod_rule 59 = .ok (.getfield 91, 3) := dc_180 (a := 0) (b := 91) (by decide +kernel) rfl
theorem d_Rod_rule_62 : decode b_Rod_rule 62 = .ok (.getfield 100, 3) := dc_180 (a := 0) (b := 100) (by decide +kernel) rfl
theorem d_Rod_rule_65 : decode b_Rod_rule 65 = .ok (.ireturn, 1) := dc_172 (by decide +kernel)
theorem d_Rod_rule_66 : decode b_Rod_rule 66 = .ok (.aload_n 0, 1) := dc_42 (by decide +kernel)
theorem d_Rod_rule_67 : decode b_Rod_rule 67 = .ok (.getfield 12, 3) := dc_180 (a := 0) (b := 12) (by decide +kernel) rfl
theorem d_Rod_rule_70 : decode b_Rod_rule 70 = .ok (.getfield 91, 3) := dc_180 (a := 0) (b := 91) (by decide +kernel) rfl
theorem d_Rod_rule_73 : decode b_Rod_rule 73 = .ok (.getfield 103, 3) := dc_180 (a := 0) (b := 103) (by decide +kernel) rfl
theorem d_Rod_rule_76 : decode b_Rod_rule 76 = .ok (.ireturn, 1) := dc_172 (by decide +kernel)
theorem d_Rod_rule_77 : decode b_Rod_rule 77 = .ok (.aload_n 0, 1) := dc_42 (by decide +kernel)
theorem d_Rod_rule_78 : decode b_Rod_rule 78 = .ok (.getfield 12, 3) := dc_180 (a := 0) (b := 12) (by decide +kernel) rfl
theorem d_Rod_rule_81 : decode b_Rod_rule 81 = .ok (.getfield 91, 3) := dc_180 (a := 0) (b := 91) (by decide +kernel) rfl
theorem d_Rod_rule_84 : decode b_Rod_rule 84 = .ok (.getfield 106, 3) := dc_180 (a := 0) (b := 106) (by decide +kernel) rfl
theorem d_Rod_rule_87 : decode b_Rod_rule 87 = .ok (.ireturn, 1) := dc_172 (by decide +kernel)
theorem d_Rod_rule_88 : decode b_Rod_rule 88 = .ok (.aload_n 0, 1) := dc_42 (by decide +kernel)
theorem d_Rod_rule_89 : decode b_Rod_rule 89 = .ok (.getfield 12, 3) := dc_180 (a := 0) (b := 12) (by decide +kernel) rfl
theorem d_Rod_rule_92 : decode b_Rod_rule 92 = .ok (.getfield 109, 3) := dc_180 (a := 0) (b := 109) (by decide +kernel) rfl
theorem d_Rod_rule_95 : decode b_Rod_rule 95 = .ok (.ireturn, 1) := dc_172 (by decide +kernel)
theorem d_Rod_rule_96 : decode b_Rod_rule 96 = .ok (.aload_n 0, 1) := dc_42 (by decide +kernel)
theorem d_Rod_rule_97 : decode b_Rod_rule 97 = .ok (.getfield 12, 3) := dc_180 (a := 0) (b := 12) (by decide +kernel) rfl
theorem d_Rod_rule_100 : decode b_Rod_rule 100 = .ok (.getfield 112, 3) := dc_180 (a := 0) (b := 112) (by decide +kernel) rfl
theorem d_Rod_rule_103 : decode b_Rod_rule 103 = .ok (.ireturn, 1) := dc_172 (by decide +kernel)
theorem d_Rod_rule_104 : decode b_Rod_rule 104 = .ok (.aload_n 0, 1) := dc_42 (by decide +kernel)
theorem d_Rod_rule_105 : decode b_Rod_rule 105 = .ok (.getfield 12, 3) := dc_180 (a := 0) (b := 12) (by decide +kernel) rfl
theorem d_Rod_rule_108 : decode b_Rod_rule 108 = .ok (.getfield 115, 3) := dc_180 (a := 0) (b := 115) (by decide +kernel) rfl
theorem d_Rod_rule_111 : decode b_Rod_rule 111 = .ok (.getfield 119, 3) := dc_180 (a := 0) (b := 119) (by decide +kernel) rfl
theorem d_Rod_rule_114 : decode b_Rod_rule 114 = .ok (.ireturn, 1) := dc_172 (by decide +kernel)
theorem d_Rod_rule_115 : decode b_Rod_rule 115 = .ok (.iconst (-1), 1) := dc_2 (by decide +kernel)
theorem d_Rod_rule_116 : decode b_Rod_rule 116 = .ok (.ireturn, 1) := dc_172 (by decide +kernel)
theorem d_Rod_cell_0 : decode b_Rod_cell 0 = .ok (.aload_n 0, 1) := dc_42 (by decide +kernel)
theorem d_Rod_cell_1 : decode b_Rod_cell 1 = .ok (.getfield 12, 3) := dc_180 (a := 0) (b := 12) (by decide +kernel) rfl
theorem d_Rod_cell_4 : decode b_Rod_cell 4 = .ok (.getfield 91, 3) := dc_180 (a := 0) (b := 91) (by decide +kernel) rfl
theorem d_Rod_cell_7 : decode b_Rod_cell 7 = .ok (.astore_n 3, 1) := dc_78 (by decide +kernel)
theorem d_Rod_cell_8 : decode b_Rod_cell 8 = .ok (.aload_n 3, 1) := dc_45 (by decide +kernel)
theorem d_Rod_cell_9 : decode b_Rod_cell 9 = .ok (.iload_n 1, 1) := dc_27 (by decide +kernel)
theorem d_Rod_cell_10 : decode b_Rod_cell 10 = .ok (.invokevirtual 124, 3) := dc_182 (a := 0) (b := 124) (by decide +kernel) rfl
theorem d_Rod_cell_13 : decode b_Rod_cell 13 = .ok (.ifCond .ne 5, 3) := dc_154 (a := 0) (b := 5) (by decide +kernel) rfl
theorem d_Rod_cell_16 : decode b_Rod_cell 16 = .ok (.iconst (-1), 1) := dc_2 (by decide +kernel)
theorem d_Rod_cell_17 : decode b_Rod_cell 17 = .ok (.ireturn, 1) := dc_172 (by decide +kernel)
theorem d_Rod_cell_18 : decode b_Rod_cell 18 = .ok (.iload_n 2, 1) := dc_28 (by decide +kernel)
theorem d_Rod_cell_19 : decode b_Rod_cell 19 = .ok (.tableswitch 81 0 5 #[37, 44, 51, 58, 65, 72], 37) := by decide +kernel
theorem d_Rod_cell_56 : decode b_Rod_cell 56 = .ok (.aload_n 3, 1) := dc_45 (by decide +kernel)
theorem d_Rod_cell_57 : decode b_Rod_cell 57 = .ok (.getfield 128, 3) := dc_180 (a := 0) (b := 128) (by decide +kernel) rfl
theorem d_Rod_cell_60 : decode b_Rod_cell 60 = .ok (.iload_n 1, 1) := dc_27 (by decide +kernel)
theorem d_Rod_cell_61 : decode b_Rod_cell 61 = .ok (.iaload, 1) := dc_46 (by decide +kernel)
theorem d_Rod_cell_62 : decode b_Rod_cell 62 = .ok (.ireturn, 1) := dc_172 (by decide +kernel)
theorem d_Rod_cell_63 : decode b_Rod_cell 63 = .ok (.aload_n 3, 1) := dc_45 (by decide +kernel)
theorem d_Rod_cell_64 : decode b_Rod_cell 64 = .ok (.getfield 132, 3) := dc_180 (a := 0) (b := 132) (by decide +kernel) rfl
theorem d_Rod_cell_67 : decode b_Rod_cell 67 = .ok (.iload_n 1, 1) := dc_27 (by decide +kernel)
theorem d_Rod_cell_68 : decode b_Rod_cell 68 = .ok (.iaload, 1) := dc_46 (by decide +kernel)
theorem d_Rod_cell_69 : decode b_Rod_cell 69 = .ok (.ireturn, 1) := dc_172 (by decide +kernel)
theorem d_Rod_cell_70 : decode b_Rod_cell 70 = .ok (.aload_n 3, 1) := dc_45 (by decide +kernel)
theorem d_Rod_cell_71 : decode b_Rod_cell 71 = .ok (.getfield 135, 3) := dc_180 (a := 0) (b := 135) (by decide +kernel) rfl
theorem d_Rod_cell_74 : decode b_Rod_cell 74 = .ok (.iload_n 1, 1) := dc_27 (by decide +kernel)
theorem d_Rod_cell_75 : decode b_Rod_cell 75 = .ok (.iaload, 1) := dc_46 (by decide +kernel)
theorem d_Rod_cell_76 : decode b_Rod_cell 76 = .ok (.ireturn, 1) := dc_172 (by decide +kernel)
theorem d_Rod_cell_77 : decode b_Rod_cell 77 = .ok (.aload_n 3, 1) := dc_45 (by decide +kernel)
theorem d_Rod_cell_78 : decode b_Rod_cell 78 = .ok (.getfield 138, 3) := dc_180 (a := 0) (b := 138) (by decide +kernel) rfl
theorem d_Rod_cell_81 : decode b_Rod_cell 81 = .ok (.iload_n 1, 1) := dc_27 (by decide +kernel)
theorem d_Rod_cell_82 : decode b_Rod_cell 82 = .ok (.iaload, 1) := dc_46 (by decide +kernel)
theorem d_Rod_cell_83 : decode b_Rod_cell 83 = .ok (.ireturn, 1) := dc_172 (by decide +kernel)
theorem d_Rod_cell_84 : decode b_Rod_cell 84 = .ok (.aload_n 3, 1) := dc_45 (by decide +kernel)
theorem d_Rod_cell_85 : decode b_Rod_cell 85 = .ok (.getfield 141, 3) := dc_180 (a := 0) (b := 141) (by decide +kernel) rfl
theorem d_Rod_cell_88 : decode b_Rod_cell 88 = .ok (.iload_n 1, 1) := dc_27 (by decide +kernel)
theorem d_Rod_cell_89 : decode b_Rod_cell 89 = .ok (.iaload, 1) := dc_46 (by decide +kernel)
theorem d_Rod_cell_90 : decode b_Rod_cell 90 = .ok (.ireturn, 1) := dc_172 (by decide +kernel)
theorem d_Rod_cell_91 : decode b_Rod_cell 91 = .ok (.aload_n 3, 1) := dc_45 (by decide +kernel)
theorem d_Rod_cell_92 : decode b_Rod_cell 92 = .ok (.iload_n 1, 1) := dc_27 (by decide +kernel)
theorem d_Rod_cell_93 : decode b_Rod_cell 93 = .ok (.invokevirtual 144, 3) := dc_182 (a := 0) (b := 144) (by decide +kernel) rfl
theorem d_Rod_cell_96 : decode b_Rod_cell 96 = .ok (.invokestatic 147, 3) := dc_184 (a := 0) (b := 147) (by decide +kernel) rfl
theorem d_Rod_cell_99 : decode b_Rod_cell 99 = .ok (.ireturn, 1) := dc_172 (by decide +kernel)
theorem d_Rod_cell_100 : decode b_Rod_cell 100 = .ok (.iconst (-1), 1) := dc_2 (by decide +kernel)
theorem d_Rod_cell_101 : decode b_Rod_cell 101 = .ok (.ireturn, 1) := dc_172 (by decide +kernel)
theorem d_Rod_purse_0 : decode b_Rod_purse 0 = .ok (.iload_n 1, 1) := dc_27 (by decide +kernel)
theorem d_Rod_purse_1 : decode b_Rod_purse 1 = .ok (.invokestatic 151, 3) := dc_184 (a := 0) (b := 151) (by decide +kernel) rfl
theorem d_Rod_purse_4 : decode b_Rod_purse 4 = .ok (.ifCond .eq 18, 3) := dc_153 (a := 0) (b := 18) (by decide +kernel) rfl
theorem d_Rod_purse_7 : decode b_Rod_purse 7 = .ok (.aload_n 0, 1) := dc_42 (by decide +kernel)
theorem d_Rod_purse_8 : decode b_Rod_purse 8 = .ok (.getfield 12, 3) := dc_180 (a := 0) (b := 12) (by decide +kernel) rfl
theorem d_Rod_purse_11 : decode b_Rod_purse 11 = .ok (.getfield 115, 3) := dc_180 (a := 0) (b := 115) (by decide +kernel) rfl
theorem d_Rod_purse_14 : decode b_Rod_purse 14 = .ok (.getfield 154, 3) := dc_180 (a := 0) (b := 154) (by decide +kernel) rfl
theorem d_Rod_purse_17 : decode b_Rod_purse 17 = .ok (.iload_n 1, 1) := dc_27 (by decide +kernel)
theorem d_Rod_purse_18 : decode b_Rod_purse 18 = .ok (.iaload, 1) := dc_46 (by decide +kernel)
theorem d_Rod_purse_19 : decode b_Rod_purse 19 = .ok (.goto 4, 3) := dc_167 (a := 0) (b := 4) (by decide +kernel) rfl
theorem d_Rod_purse_22 : decode b_Rod_purse 22 = .ok (.iconst (-1), 1) := dc_2 (by decide +kernel)
theorem d_Rod_purse_23 : decode b_Rod_purse 23 = .ok (.ireturn, 1) := dc_172 (by decide +kernel)
theorem d_Rod_wet_0 : decode b_Rod_wet 0 = .ok (.aload_n 0, 1) := dc_42 (by decide +kernel)
theorem d_Rod_wet_1 : decode b_Rod_wet 1 = .ok (.getfield 12, 3) := dc_180 (a := 0) (b := 12) (by decide +kernel) rfl
theorem d_Rod_wet_4 : decode b_Rod_wet 4 = .ok (.getfield 91, 3) := dc_180 (a := 0) (b := 91) (by decide +kernel) rfl
theorem d_Rod_wet_7 : decode b_Rod_wet 7 = .ok (.astore_n 3, 1) := dc_78 (by decide +kernel)
theorem d_Rod_wet_8 : decode b_Rod_wet 8 = .ok (.aload_n 3, 1) := dc_45 (by decide +kernel)
theorem d_Rod_wet_9 : decode b_Rod_wet 9 = .ok (.iload_n 1, 1) := dc_27 (by decide +kernel)
theorem d_Rod_wet_10 : decode b_Rod_wet 10 = .ok (.invokevirtual 124, 3) := dc_182 (a := 0) (b := 124) (by decide +kernel) rfl
theorem d_Rod_wet_13 : decode b_Rod_wet 13 = .ok (.ifCond .eq 13, 3) := dc_153 (a := 0) (b := 13) (by decide +kernel) rfl
theorem d_Rod_wet_16 : decode b_Rod_wet 16 = .ok (.iload_n 2, 1) := dc_28 (by decide +kernel)
theorem d_Rod_wet_17 : decode b_Rod_wet 17 = .ok (.ifCond .lt 9, 3) := dc_155 (a := 0) (b := 9) (by decide +kernel) rfl
theorem d_Rod_wet_20 : decode b_Rod_wet 20 = .ok (.iload_n 2, 1) := dc_28 (by decide +kernel)
theorem d_Rod_wet_21 : decode b_Rod_wet 21 = .ok (.bipush 9, 2) := dc_16 (a := 9) (by decide +kernel) rfl
theorem d_Rod_wet_23 : decode b_Rod_wet 23 = .ok (.if_icmp .le 5, 3) := dc_164 (a := 0) (b := 5) (by decide +kernel) rfl
theorem d_Rod_wet_26 : decode b_Rod_wet 26 = .ok (.iconst (-1), 1) := dc_2 (by decide +kernel)
theorem d_Rod_wet_27 : decode b_Rod_wet 27 = .ok (.ireturn, 1) := dc_172 (by decide +kernel)
theorem d_Rod_wet_28 : decode b_Rod_wet 28 = .ok (.aload_n 3, 1) := dc_45 (by decide +kernel)
theorem d_Rod_wet_29 : decode b_Rod_wet 29 = .ok (.getfield 141, 3) := dc_180 (a := 0) (b := 141) (by decide +kernel) rfl
theorem d_Rod_wet_32 : decode b_Rod_wet 32 = .ok (.iload_n 1, 1) := dc_27 (by decide +kernel)
theorem d_Rod_wet_33 : decode b_Rod_wet 33 = .ok (.iaload, 1) := dc_46 (by decide +kernel)
theorem d_Rod_wet_34 : decode b_Rod_wet 34 = .ok (.ifCond .le 6, 3) := dc_158 (a := 0) (b := 6) (by decide +kernel) rfl
theorem d_Rod_wet_37 : decode b_Rod_wet 37 = .ok (.bipush (-2), 2) := dc_16 (a := 254) (by decide +kernel) rfl
theorem d_Rod_wet_39 : decode b_Rod_wet 39 = .ok (.ireturn, 1) := dc_172 (by decide +kernel)
theorem d_Rod_wet_40 : decode b_Rod_wet 40 = .ok (.aload_n 3, 1) := dc_45 (by decide +kernel)
theorem d_Rod_wet_41 : decode b_Rod_wet 41 = .ok (.getfield 128, 3) := dc_180 (a := 0) (b := 128) (by decide +kernel) rfl
theorem d_Rod_wet_44 : decode b_Rod_wet 44 = .ok (.iload_n 1, 1) := dc_27 (by decide +kernel)
theorem d_Rod_wet_45 : decode b_Rod_wet 45 = .ok (.iaload, 1) := dc_46 (by decide +kernel)
theorem d_Rod_wet_46 : decode b_Rod_wet 46 = .ok (.istore 4, 2) := dc_54 (a := 4) (by decide +kernel) rfl
theorem d_Rod_wet_48 : decode b_Rod_wet 48 = .ok (.aload_n 3, 1) := dc_45 (by decide +kernel)
theorem d_Rod_wet_49 : decode b_Rod_wet 49 = .ok (.getfield 128, 3) := dc_180 (a := 0) (b := 128) (by decide +kernel) rfl
theorem d_Rod_wet_52 : decode b_Rod_wet 52 = .ok (.iload_n 1, 1) := dc_27 (by decide +kernel)
theorem d_Rod_wet_53 : decode b_Rod_wet 53 = .ok (.iload_n 2, 1) := dc_28 (by decide +kernel)
theorem d_Rod_wet_54 : decode b_Rod_wet 54 = .ok (.iastore, 1) := dc_79 (by decide +kernel)
theorem d_Rod_wet_55 : decode b_Rod_wet 55 = .ok (.iload 4, 2) := dc_21 (a := 4) (by decide +kernel) rfl
theorem d_Rod_wet_57 : decode b_Rod_wet 57 = .ok (.ireturn, 1) := dc_172 (by decide +kernel)
theorem d_Rod_iron_0 : decode b_Rod_iron 0 = .ok (.aload_n 0, 1) := dc_42 (by decide +kernel)
theorem d_Rod_iron_1 : decode b_Rod_iron 1 = .ok (.getfield 12, 3) := dc_180 (a := 0) (b := 12) (by decide +kernel) rfl
theorem d_Rod_iron_4 : decode b_Rod_iron 4 = .ok (.getfield 91, 3) := dc_180 (a := 0) (b := 91) (by decide +kernel) rfl
theorem d_Rod_iron_7 : decode b_Rod_iron 7 = .ok (.astore_n 3, 1) := dc_78 (by decide +kernel)
theorem d_Rod_iron_8 : decode b_Rod_iron 8 = .ok (.aload_n 3, 1) := dc_45 (by decide +kernel)
theorem d_Rod_iron_9 : decode b_Rod_iron 9 = .ok (.iload_n 1, 1) := dc_27 (by decide +kernel)
theorem d_Rod_iron_10 : decode b_Rod_iron 10 = .ok (.invokevirtual 124, 3) := dc_182 (a := 0) (b := 124) (by decide +kernel) rfl
theorem d_Rod_iron_13 : decode b_Rod_iron 13 = .ok (.ifCond .ne 5, 3) := dc_154 (a := 0) (b := 5) (by decide +kernel) rfl
theorem d_Rod_iron_16 : decode b_Rod_iron 16 = .ok (.iconst (-1), 1) := dc_2 (by decide +kernel)
theorem d_Rod_iron_17 : decode b_Rod_iron 17 = .ok (.ireturn, 1) := dc_172 (by decide +kernel)
theorem d_Rod_iron_18 : decode b_Rod_iron 18 = .ok (.aload_n 3, 1) := dc_45 (by decide +kernel)
theorem d_Rod_iron_19 : decode b_Rod_iron 19 = .ok (.getfield 132, 3) := dc_180 (a := 0) (b := 132) (by decide +kernel) rfl
theorem d_Rod_iron_22 : decode b_Rod_iron 22 = .ok (.iload_n 1, 1) := dc_27 (by decide +kernel)
theorem d_Rod_iron_23 : decode b_Rod_iron 23 = .ok (.iaload, 1) := dc_46 (by decide +kernel)
theorem d_Rod_iron_24 : decode b_Rod_iron 24 = .ok (.istore 4, 2) := dc_54 (a := 4) (by decide +kernel) rfl
theorem d_Rod_iron_26 : decode b_Rod_iron 26 = .ok (.aload_n 3, 1) := dc_45 (by decide +kernel)
theorem d_Rod_iron_27 : decode b_Rod_iron 27 = .ok (.getfield 132, 3) := dc_180 (a := 0) (b := 132) (by decide +kernel) rfl
theorem d_Rod_iron_30 : decode b_Rod_iron 30 = .ok (.iload_n 1, 1) := dc_27 (by decide +kernel)
theorem d_Rod_iron_31 : decode b_Rod_iron 31 = .ok (.iload_n 2, 1) := dc_28 (by decide +kernel)
theorem d_Rod_iron_32 : decode b_Rod_iron 32 = .ok (.invokestatic 147, 3) := dc_184 (a := 0) (b := 147) (by decide +kernel) rfl
theorem d_Rod_iron_35 : decode b_Rod_iron 35 = .ok (.iastore, 1) := dc_79 (by decide +kernel)
theorem d_Rod_iron_36 : decode b_Rod_iron 36 = .ok (.iload 4, 2) := dc_21 (a := 4) (by decide +kernel) rfl
theorem d_Rod_iron_38 : decode b_Rod_iron 38 = .ok (.ireturn, 1) := dc_172 (by decide +kernel)
theorem d_Rod_odd_0 : decode b_Rod_odd 0 = .ok (.aload_n 0, 1) := dc_42 (by decide +kernel)
theorem d_Rod_odd_1 : decode b_Rod_odd 1 = .ok (.getfield 12, 3) := dc_180 (a := 0) (b := 12) (by decide +kernel) rfl
theorem d_Rod_odd_4 : decode b_Rod_odd 4 = .ok (.getfield 91, 3) := dc_180 (a := 0) (b := 91) (by decide +kernel) rfl
theorem d_Rod_odd_7 : decode b_Rod_odd 7 = .ok (.astore_n 3, 1) := dc_78 (by decide +kernel)
theorem d_Rod_odd_8 : decode b_Rod_odd 8 = .ok (.aload_n 3, 1) := dc_45 (by decide +kernel)
theorem d_Rod_odd_9 : decode b_Rod_odd 9 = .ok (.iload_n 1, 1) := dc_27 (by decide +kernel)
theorem d_Rod_odd_10 : decode b_Rod_odd 10 = .ok (.invokevirtual 124, 3) := dc_182 (a := 0) (b := 124) (by decide +kernel) rfl
theorem d_Rod_odd_13 : decode b_Rod_odd 13 = .ok (.ifCond .eq 13, 3) := dc_153 (a := 0) (b := 13) (by decide +kernel) rfl
theorem d_Rod_odd_16 : decode b_Rod_odd 16 = .ok (.iload_n 2, 1) := dc_28 (by decide +kernel)
theorem d_Rod_odd_17 : decode b_Rod_odd 17 = .ok (.ifCond .lt 9, 3) := dc_155 (a := 0) (b := 9) (by decide +kernel) rfl
theorem d_Rod_odd_20 : decode b_Rod_odd 20 = .ok (.iload_n 2, 1) := dc_28 (by decide +kernel)
theorem d_Rod_odd_21 : decode b_Rod_odd 21 = .ok (.bipush 10, 2) := dc_16 (a := 10) (by decide +kernel) rfl
theorem d_Rod_odd_23 : decode b_Rod_odd 23 = .ok (.if_icmp .le 5, 3) := dc_164 (a := 0) (b := 5) (by decide +kernel) rfl
theorem d_Rod_odd_26 : decode b_Rod_odd 26 = .ok (.iconst (-1), 1) := dc_2 (by decide +kernel)
theorem d_Rod_odd_27 : decode b_Rod_odd 27 = .ok (.ireturn, 1) := dc_172 (by decide +kernel)
theorem d_Rod_odd_28 : decode b_Rod_odd 28 = .ok (.aload_n 3, 1) := dc_45 (by decide +kernel)
theorem d_Rod_odd_29 : decode b_Rod_odd 29 = .ok (.getfield 135, 3) := dc_180 (a := 0) (b := 135) (by decide +kernel) rfl
theorem d_Rod_odd_32 : decode b_Rod_odd 32 = .ok (.iload_n 1, 1) := dc_27 (by decide +kernel)
theorem d_Rod_odd_33 : decode b_Rod_odd 33 = .ok (.iaload, 1) := dc_46 (by decide +kernel)
theorem d_Rod_odd_34 : decode b_Rod_odd 34 = .ok (.istore 4, 2) := dc_54 (a := 4) (by decide +kernel) rfl
theorem d_Rod_odd_36 : decode b_Rod_odd 36 = .ok (.aload_n 3, 1) := dc_45 (by decide +kernel)
theorem d_Rod_odd_37 : decode b_Rod_odd 37 = .ok (.getfield 135, 3) := dc_180 (a := 0) (b := 135) (by decide +kernel) rfl
theorem d_Rod_odd_40 : decode b_Rod_odd 40 = .ok (.iload_n 1, 1) := dc_27 (by decide +kernel)
theorem d_Rod_odd_41 : decode b_Rod_odd 41 = .ok (.iload_n 2, 1) := dc_28 (by decide +kernel)
theorem d_Rod_odd_42 : decode b_Rod_odd 42 = .ok (.iastore, 1) := dc_79 (by decide +kernel)
theorem d_Rod_odd_43 : decode b_Rod_odd 43 = .ok (.iload 4, 2) := dc_21 (a := 4) (by decide +kernel) rfl
theorem d_Rod_odd_45 : decode b_Rod_odd 45 = .ok (.ireturn, 1) := dc_172 (by decide +kernel)
theorem d_Rod_claim_0 : decode b_Rod_claim 0 = .ok (.aload_n 0, 1) := dc_42 (by decide +kernel)
theorem d_Rod_claim_1 : decode b_Rod_claim 1 = .ok (.getfield 12, 3) := dc_180 (a := 0) (b := 12) (by decide +kernel) rfl
theorem d_Rod_claim_4 : decode b_Rod_claim 4 = .ok (.getfield 91, 3) := dc_180 (a := 0) (b := 91) (by decide +kernel) rfl
theorem d_Rod_claim_7 : decode b_Rod_claim 7 = .ok (.astore_n 3, 1) := dc_78 (by decide +kernel)
theorem d_Rod_claim_8 : decode b_Rod_claim 8 = .ok (.aload_n 3, 1) := dc_45 (by decide +kernel)
theorem d_Rod_claim_9 : decode b_Rod_claim 9 = .ok (.iload_n 1, 1) := dc_27 (by decide +kernel)
theorem d_Rod_claim_10 : decode b_Rod_claim 10 = .ok (.invokevirtual 124, 3) := dc_182 (a := 0) (b := 124) (by decide +kernel) rfl
theorem d_Rod_claim_13 : decode b_Rod_claim 13 = .ok (.ifCond .eq 16, 3) := dc_153 (a := 0) (b := 16) (by decide +kernel) rfl
theorem d_Rod_claim_16 : decode b_Rod_claim 16 = .ok (.iload_n 2, 1) := dc_28 (by decide +kernel)
theorem d_Rod_claim_17 : decode b_Rod_claim 17 = .ok (.bipush (-4), 2) := dc_16 (a := 252) (by decide +kernel) rfl
theorem d_Rod_claim_19 : decode b_Rod_claim 19 = .ok (.if_icmp .eq 12, 3) := dc_159 (a := 0) (b := 12) (by decide +kernel) rfl
theorem d_Rod_claim_22 : decode b_Rod_claim 22 = .ok (.iload_n 2, 1) := dc_28 (by decide +kernel)
theorem d_Rod_claim_23 : decode b_Rod_claim 23 = .ok (.invokestatic 151, 3) := dc_184 (a := 0) (b := 151) (by decide +kernel) rfl
theorem d_Rod_claim_26 : decode b_Rod_claim 26 = .ok (.ifCond .ne 5, 3) := dc_154 (a := 0) (b := 5) (by decide +kernel) rfl
theorem d_Rod_claim_29 : decode b_Rod_claim 29 = .ok (.iconst (-1), 1) := dc_2 (by decide +kernel)
theorem d_Rod_claim_30 : decode b_Rod_claim 30 = .ok (.ireturn, 1) := dc_172 (by decide +kernel)
theorem d_Rod_claim_31 : decode b_Rod_claim 31 = .ok (.aload_n 3, 1) := dc_45 (by decide +kernel)
theorem d_Rod_claim_32 : decode b_Rod_claim 32 = .ok (.getfield 138, 3) := dc_180 (a := 0) (b := 138) (by decide +kernel) rfl
theorem d_Rod_claim_35 : decode b_Rod_claim 35 = .ok (.iload_n 1, 1) := dc_27 (by decide +kernel)
theorem d_Rod_claim_36 : decode b_Rod_claim 36 = .ok (.iaload, 1) := dc_46 (by decide +kernel)
theorem d_Rod_claim_37 : decode b_Rod_claim 37 = .ok (.istore 4, 2) := dc_54 (a := 4) (by decide +kernel) rfl
theorem d_Rod_claim_39 : decode b_Rod_claim 39 = .ok (.aload_n 3, 1) := dc_45 (by decide +kernel)
theorem d_Rod_claim_40 : decode b_Rod_claim 40 = .ok (.getfield 138, 3) := dc_180 (a := 0) (b := 138) (by decide +kernel) rfl
theorem d_Rod_claim_43 : decode b_Rod_claim 43 = .ok (.iload_n 1, 1) := dc_27 (by decide +kernel)
theorem d_Rod_claim_44 : decode b_Rod_claim 44 = .ok (.iload_n 2, 1) := dc_28 (by decide +kernel)
theorem d_Rod_claim_45 : decode b_Rod_claim 45 = .ok (.iastore, 1) := dc_79 (by decide +kernel)
theorem d_Rod_claim_46 : decode b_Rod_claim 46 = .ok (.iload 4, 2) := dc_21 (a := 4) (by decide +kernel) rfl
theorem d_Rod_claim_48 : decode b_Rod_claim 48 = .ok (.ireturn, 1) := dc_172 (by decide +kernel)
theorem d_Rod_fund_0 : decode b_Rod_fund 0 = .ok (.iload_n 1, 1) := dc_27 (by decide +kernel)
theorem d_Rod_fund_1 : decode b_Rod_fund 1 = .ok (.invokestatic 151, 3) := dc_184 (a := 0) (b := 151) (by decide +kernel) rfl
theorem d_Rod_fund_4 : decode b_Rod_fund 4 = .ok (.ifCond .eq 14, 3) := dc_153 (a := 0) (b := 14) (by decide +kernel) rfl
theorem d_Rod_fund_7 : decode b_Rod_fund 7 = .ok (.iload_n 2, 1) := dc_28 (by decide +kernel)
theorem d_Rod_fund_8 : decode b_Rod_fund 8 = .ok (.ifCond .lt 10, 3) := dc_155 (a := 0) (b := 10) (by decide +kernel) rfl
theorem d_Rod_fund_11 : decode b_Rod_fund 11 = .ok (.iload_n 2, 1) := dc_28 (by decide +kernel)
theorem d_Rod_fund_12 : decode b_Rod_fund 12 = .ok (.sipush 999, 3) := dc_17 (a := 3) (b := 231) (by decide +kernel) rfl
theorem d_Rod_fund_15 : decode b_Rod_fund 15 = .ok (.if_icmp .le 5, 3) := dc_164 (a := 0) (b := 5) (by decide +kernel) rfl
theorem d_Rod_fund_18 : decode b_Rod_fund 18 = .ok (.iconst (-1), 1) := dc_2 (by decide +kernel)
theorem d_Rod_fund_19 : decode b_Rod_fund 19 = .ok (.ireturn, 1) := dc_172 (by decide +kernel)
theorem d_Rod_fund_20 : decode b_Rod_fund 20 = .ok (.aload_n 0, 1) := dc_42 (by decide +kernel)
theorem d_Rod_fund_21 : decode b_Rod_fund 21 = .ok (.getfield 12, 3) := dc_180 (a := 0) (b := 12) (by decide +kernel) rfl
theorem d_Rod_fund_24 : decode b_Rod_fund 24 = .ok (.getfield 115, 3) := dc_180 (a := 0) (b := 115) (by decide +kernel) rfl
theorem d_Rod_fund_27 : decode b_Rod_fund 27 = .ok (.getfield 154, 3) := dc_180 (a := 0) (b := 154) (by decide +kernel) rfl
theorem d_Rod_fund_30 : decode b_Rod_fund 30 = .ok (.iload_n 1, 1) := dc_27 (by decide +kernel)
theorem d_Rod_fund_31 : decode b_Rod_fund 31 = .ok (.iaload, 1) := dc_46 (by decide +kernel)
theorem d_Rod_fund_32 : decode b_Rod_fund 32 = .ok (.istore_n 3, 1) := dc_62 (by decide +kernel)
theorem d_Rod_fund_33 : decode b_Rod_fund 33 = .ok (.aload_n 0, 1) := dc_42 (by decide +kernel)
theorem d_Rod_fund_34 : decode b_Rod_fund 34 = .ok (.getfield 12, 3) := dc_180 (a := 0) (b := 12) (by decide +kernel) rfl
theorem d_Rod_fund_37 : decode b_Rod_fund 37 = .ok (.getfield 115, 3) := dc_180 (a := 0) (b := 115) (by decide +kernel) rfl
theorem d_Rod_fund_40 : decode b_Rod_fund 40 = .ok (.getfield 154, 3) := dc_180 (a := 0) (b := 154) (by decide +kernel) rfl
theorem d_Rod_fund_43 : decode b_Rod_fund 43 = .ok (.iload_n 1, 1) := dc_27 (by decide +kernel)
theorem d_Rod_fund_44 : decode b_Rod_fund 44 = .ok (.iload_n 2, 1) := dc_28 (by decide +kernel)
theorem d_Rod_fund_45 : decode b_Rod_fund 45 = .ok (.iastore, 1) := dc_79 (by decide +kernel)
theorem d_Rod_fund_46 : decode b_Rod_fund 46 = .ok (.iload_n 3, 1) := dc_29 (by decide +kernel)
theorem d_Rod_fund_47 : decode b_Rod_fund 47 = .ok (.ireturn, 1) := dc_172 (by decide +kernel)
theorem d_Rod_cut_0 : decode b_Rod_cut 0 = .ok (.iload_n 1, 1) := dc_27 (by decide +kernel)
theorem d_Rod_cut_1 : decode b_Rod_cut 1 = .ok (.invokestatic 157, 3) := dc_184 (a := 0) (b := 157) (by decide +kernel) rfl
theorem d_Rod_cut_4 : decode b_Rod_cut 4 = .ok (.ifCond .eq 14, 3) := dc_153 (a := 0) (b := 14) (by decide +kernel) rfl
theorem d_Rod_cut_7 : decode b_Rod_cut 7 = .ok (.iload_n 2, 1) := dc_28 (by decide +kernel)
theorem d_Rod_cut_8 : decode b_Rod_cut 8 = .ok (.iconst 1, 1) := dc_4 (by decide +kernel)
theorem d_Rod_cut_9 : decode b_Rod_cut 9 = .ok (.if_icmp .lt 9, 3) := dc_161 (a := 0) (b := 9) (by decide +kernel) rfl
theorem d_Rod_cut_12 : decode b_Rod_cut 12 = .ok (.iload_n 2, 1) := dc_28 (by decide +kernel)
theorem d_Rod_cut_13 : decode b_Rod_cut 13 = .ok (.bipush 9, 2) := dc_16 (a := 9) (by decide +kernel) rfl
theorem d_Rod_cut_15 : decode b_Rod_cut 15 = .ok (.if_icmp .le 5, 3) := dc_164 (a := 0) (b := 5) (by decide +kernel) rfl
theorem d_Rod_cut_18 : decode b_Rod_cut 18 = .ok (.iconst (-1), 1) := dc_2 (by decide +kernel)
theorem d_Rod_cut_19 : decode b_Rod_cut 19 = .ok (.ireturn, 1) := dc_172 (by decide +kernel)
theorem d_Rod_cut_20 : decode b_Rod_cut 20 = .ok (.aload_n 0, 1) := dc_42 (by decide +kernel)
theorem d_Rod_cut_21 : decode b_Rod_cut 21 = .ok (.getfield 12, 3) := dc_180 (a := 0) (b := 12) (by decide +kernel) rfl
theorem d_Rod_cut_24 : decode b_Rod_cut 24 = .ok (.getfield 109, 3) := dc_180 (a := 0) (b := 109) (by decide +kernel) rfl
theorem d_Rod_cut_27 : decode b_Rod_cut 27 = .ok (.istore_n 3, 1) := dc_62 (by decide +kernel)
theorem d_Rod_cut_28 : decode b_Rod_cut 28 = .ok (.aload_n 0, 1) := dc_42 (by decide +kernel)
theorem d_Rod_cut_29 : decode b_Rod_cut 29 = .ok (.getfield 12, 3) := dc_180 (a := 0) (b := 12) (by decide +kernel) rfl
theorem d_Rod_cut_32 : decode b_Rod_cut 32 = .ok (.iload_n 1, 1) := dc_27 (by decide +kernel)
theorem d_Rod_cut_33 : decode b_Rod_cut 33 = .ok (.putfield 109, 3) := dc_181 (a := 0) (b := 109) (by decide +kernel) rfl
theorem d_Rod_cut_36 : decode b_Rod_cut 36 = .ok (.aload_n 0, 1) := dc_42 (by decide +kernel)
theorem d_Rod_cut_37 : decode b_Rod_cut 37 = .ok (.getfield 12, 3) := dc_180 (a := 0) (b := 12) (by decide +kernel) rfl
theorem d_Rod_cut_40 : decode b_Rod_cut 40 = .ok (.iload_n 2, 1) := dc_28 (by decide +kernel)
theorem d_Rod_cut_41 : decode b_Rod_cut 41 = .ok (.putfield 112, 3) := dc_181 (a := 0) (b := 112) (by decide +kernel) rfl
theorem d_Rod_cut_44 : decode b_Rod_cut 44 = .ok (.iload_n 3, 1) := dc_29 (by decide +kernel)
theorem d_Rod_cut_45 : decode b_Rod_cut 45 = .ok (.ireturn, 1) := dc_172 (by decide +kernel)
theorem d_Rod_owe_0 : decode b_Rod_owe 0 = .ok (.iload_n 1, 1) := dc_27 (by decide +kernel)
theorem d_Rod_owe_1 : decode b_Rod_owe 1 = .ok (.invokestatic 151, 3) := dc_184 (a := 0) (b := 151) (by decide +kernel) rfl
theorem d_Rod_owe_4 : decode b_Rod_owe 4 = .ok (.ifCond .eq 26, 3) := dc_153 (a := 0) (b := 26) (by decide +kernel) rfl
theorem d_Rod_owe_7 : decode b_Rod_owe 7 = .ok (.iload_n 2, 1) := dc_28 (by decide +kernel)
theorem d_Rod_owe_8 : decode b_Rod_owe 8 = .ok (.invokestatic 151, 3) := dc_184 (a := 0) (b := 151) (by decide +kernel) rfl
theorem d_Rod_owe_11 : decode b_Rod_owe 11 = .ok (.ifCond .eq 19, 3) := dc_153 (a := 0) (b := 19) (by decide +kernel) rfl
theorem d_Rod_owe_14 : decode b_Rod_owe 14 = .ok (.iload_n 1, 1) := dc_27 (by decide +kernel)
theorem d_Rod_owe_15 : decode b_Rod_owe 15 = .ok (.iload_n 2, 1) := dc_28 (by decide +kernel)
theorem d_Rod_owe_16 : decode b_Rod_owe 16 = .ok (.if_icmp .eq 14, 3) := dc_159 (a := 0) (b := 14) (by decide +kernel) rfl
theorem d_Rod_owe_19 : decode b_Rod_owe 19 = .ok (.iload_n 3, 1) := dc_29 (by decide +kernel)
theorem d_Rod_owe_20 : decode b_Rod_owe 20 = .ok (.iconst 1, 1) := dc_4 (by decide +kernel)
theorem d_Rod_owe_21 : decode b_Rod_owe 21 = .ok (.if_icmp .lt 9, 3) := dc_161 (a := 0) (b := 9) (by decide +kernel) rfl
theorem d_Rod_owe_24 : decode b_Rod_owe 24 = .ok (.iload_n 3, 1) := dc_29 (by decide +kernel)
theorem d_Rod_owe_25 : decode b_Rod_owe 25 = .ok (.bipush 99, 2) := dc_16 (a := 99) (by decide +kernel) rfl
theorem d_Rod_owe_27 : decode b_Rod_owe 27 = .ok (.if_icmp .le 5, 3) := dc_164 (a := 0) (b := 5) (by decide +kernel) rfl
theorem d_Rod_owe_30 : decode b_Rod_owe 30 = .ok (.iconst (-1), 1) := dc_2 (by decide +kernel)
theorem d_Rod_owe_31 : decode b_Rod_owe 31 = .ok (.ireturn, 1) := dc_172 (by decide +kernel)
theorem d_Rod_owe_32 : decode b_Rod_owe 32 = .ok (.aload_n 0, 1) := dc_42 (by decide +kernel)
theorem d_Rod_owe_33 : decode b_Rod_owe 33 = .ok (.getfield 12, 3) := dc_180 (a := 0) (b := 12) (by decide +kernel) rfl
theorem d_Rod_owe_36 : decode b_Rod_owe 36 = .ok (.getfield 115, 3) := dc_180 (a := 0) (b := 115) (by decide +kernel) rfl
theorem d_Rod_owe_39 : decode b_Rod_owe 39 = .ok (.getfield 119, 3) := dc_180 (a := 0) (b := 119) (by decide +kernel) rfl
theorem d_Rod_owe_42 : decode b_Rod_owe 42 = .ok (.bipush 8, 2) := dc_16 (a := 8) (by decide +kernel) rfl
theorem d_Rod_owe_44 : decode b_Rod_owe 44 = .ok (.if_icmp .lt 6, 3) := dc_161 (a := 0) (b := 6) (by decide +kernel) rfl
theorem d_Rod_owe_47 : decode b_Rod_owe 47 = .ok (.bipush (-3), 2) := dc_16 (a := 253) (by decide +kernel) rfl
theorem d_Rod_owe_49 : decode b_Rod_owe 49 = .ok (.ireturn, 1) := dc_172 (by decide +kernel)
theorem d_Rod_owe_50 : decode b_Rod_owe 50 = .ok (.aload_n 0, 1) := dc_42 (by decide +kernel)
theorem d_Rod_owe_51 : decode b_Rod_owe 51 = .ok (.getfield 12, 3) := dc_180 (a := 0) (b := 12) (by decide +kernel) rfl
theorem d_Rod_owe_54 : decode b_Rod_owe 54 = .ok (.getfield 115, 3) := dc_180 (a := 0) (b := 115) (by decide +kernel) rfl
theorem d_Rod_owe_57 : decode b_Rod_owe 57 = .ok (.iload_n 1, 1) := dc_27 (by decide +kernel)
theorem d_Rod_owe_58 : decode b_Rod_owe 58 = .ok (.iload_n 2, 1) := dc_28 (by decide +kernel)
theorem d_Rod_owe_59 : decode b_Rod_owe 59 = .ok (.iload_n 3, 1) := dc_29 (by decide +kernel)
theorem d_Rod_owe_60 : decode b_Rod_owe 60 = .ok (.invokevirtual 160, 3) := dc_182 (a := 0) (b := 160) (by decide +kernel) rfl
theorem d_Rod_owe_63 : decode b_Rod_owe 63 = .ok (.aload_n 0, 1) := dc_42 (by decide +kernel)
theorem d_Rod_owe_64 : decode b_Rod_owe 64 = .ok (.getfield 12, 3) := dc_180 (a := 0) (b := 12) (by decide +kernel) rfl
theorem d_Rod_owe_67 : decode b_Rod_owe 67 = .ok (.getfield 115, 3) := dc_180 (a := 0) (b := 115) (by decide +kernel) rfl
theorem d_Rod_owe_70 : decode b_Rod_owe 70 = .ok (.getfield 119, 3) := dc_180 (a := 0) (b := 119) (by decide +kernel) rfl
theorem d_Rod_owe_73 : decode b_Rod_owe 73 = .ok (.ireturn, 1) := dc_172 (by decide +kernel)
theorem d_Rod_pay_0 : decode b_Rod_pay 0 = .ok (.aload_n 0, 1) := dc_42 (by decide +kernel)
theorem d_Rod_pay_1 : decode b_Rod_pay 1 = .ok (.getfield 12, 3) := dc_180 (a := 0) (b := 12) (by decide +kernel) rfl
theorem d_Rod_pay_4 : decode b_Rod_pay 4 = .ok (.getfield 115, 3) := dc_180 (a := 0) (b := 115) (by decide +kernel) rfl
theorem d_Rod_pay_7 : decode b_Rod_pay 7 = .ok (.getfield 119, 3) := dc_180 (a := 0) (b := 119) (by decide +kernel) rfl
theorem d_Rod_pay_10 : decode b_Rod_pay 10 = .ok (.istore_n 2, 1) := dc_61 (by decide +kernel)
theorem d_Rod_pay_11 : decode b_Rod_pay 11 = .ok (.iload_n 1, 1) := dc_27 (by decide +kernel)
theorem d_Rod_pay_12 : decode b_Rod_pay 12 = .ok (.ifCond .lt 8, 3) := dc_155 (a := 0) (b := 8) (by decide +kernel) rfl
theorem d_Rod_pay_15 : decode b_Rod_pay 15 = .ok (.iload_n 1, 1) := dc_27 (by decide +kernel)
theorem d_Rod_pay_16 : decode b_Rod_pay 16 = .ok (.iload_n 2, 1) := dc_28 (by decide +kernel)
theorem d_Rod_pay_17 : decode b_Rod_pay 17 = .ok (.if_icmp .le 5, 3) := dc_164 (a := 0) (b := 5) (by decide +kernel) rfl
theorem d_Rod_pay_20 : decode b_Rod_pay 20 = .ok (.iconst (-1), 1) := dc_2 (by decide +kernel)
theorem d_Rod_pay_21 : decode b_Rod_pay 21 = .ok (.ireturn, 1) := dc_172 (by decide +kernel)
theorem d_Rod_pay_22 : decode b_Rod_pay 22 = .ok (.aload_n 0, 1) := dc_42 (by decide +kernel)
theorem d_Rod_pay_23 : decode b_Rod_pay 23 = .ok (.getfield 12, 3) := dc_180 (a := 0) (b := 12) (by decide +kernel) rfl
theorem d_Rod_pay_26 : decode b_Rod_pay 26 = .ok (.getfield 115, 3) := dc_180 (a := 0) (b := 115) (by decide +kernel) rfl
theorem d_Rod_pay_29 : decode b_Rod_pay 29 = .ok (.iload_n 1, 1) := dc_27 (by decide +kernel)
theorem d_Rod_pay_30 : decode b_Rod_pay 30 = .ok (.putfield 119, 3) := dc_181 (a := 0) (b := 119) (by decide +kernel) rfl
theorem d_Rod_pay_33 : decode b_Rod_pay 33 = .ok (.iload_n 2, 1) := dc_28 (by decide +kernel)
theorem d_Rod_pay_34 : decode b_Rod_pay 34 = .ok (.ireturn, 1) := dc_172 (by decide +kernel)
theorem d_Rod_rain_0 : decode b_Rod_rain 0 = .ok (.iload_n 1, 1) := dc_27 (by decide +kernel)
theorem d_Rod_rain_1 : decode b_Rod_rain 1 = .ok (.ifCond .lt 9, 3) := dc_155 (a := 0) (b := 9) (by decide +kernel) rfl
theorem d_Rod_rain_4 : decode b_Rod_rain 4 = .ok (.iload_n 1, 1) := dc_27 (by decide +kernel)
theorem d_Rod_rain_5 : decode b_Rod_rain 5 = .ok (.bipush 8, 2) := dc_16 (a := 8) (by decide +kernel) rfl
theorem d_Rod_rain_7 : decode b_Rod_rain 7 = .ok (.if_icmp .le 5, 3) := dc_164 (a := 0) (b := 5) (by decide +kernel) rfl
theorem d_Rod_rain_10 : decode b_Rod_rain 10 = .ok (.iconst (-1), 1) := dc_2 (by decide +kernel)
theorem d_Rod_rain_11 : decode b_Rod_rain 11 = .ok (.ireturn, 1) := dc_172 (by decide +kernel)
theorem d_Rod_rain_12 : decode b_Rod_rain 12 = .ok (.aload_n 0, 1) := dc_42 (by decide +kernel)
theorem d_Rod_rain_13 : decode b_Rod_rain 13 = .ok (.getfield 12, 3) := dc_180 (a := 0) (b := 12) (by decide +kernel) rfl
theorem d_Rod_rain_16 : decode b_Rod_rain 16 = .ok (.getfield 91, 3) := dc_180 (a := 0) (b := 91) (by decide +kernel) rfl
theorem d_Rod_rain_19 : decode b_Rod_rain 19 = .ok (.iload_n 1, 1) := dc_27 (by decide +kernel)
theorem d_Rod_rain_20 : decode b_Rod_rain 20 = .ok (.invokevirtual 164, 3) := dc_182 (a := 0) (b := 164) (by decide +kernel) rfl
theorem d_Rod_rain_23 : decode b_Rod_rain 23 = .ok (.aload_n 0, 1) := dc_42 (by decide +kernel)
theorem d_Rod_rain_24 : decode b_Rod_rain 24 = .ok (.getfield 12, 3) := dc_180 (a := 0) (b := 12) (by decide +kernel) rfl
theorem d_Rod_rain_27 : decode b_Rod_rain 27 = .ok (.getfield 91, 3) := dc_180 (a := 0) (b := 91) (by decide +kernel) rfl
theorem d_Rod_rain_30 : decode b_Rod_rain 30 = .ok (.invokevirtual 168, 3) := dc_182 (a := 0) (b := 168) (by decide +kernel) rfl
theorem d_Rod_rain_33 : decode b_Rod_rain 33 = .ok (.ireturn, 1) := dc_172 (by decide +kernel)
theorem d_Rod_isSight_0 : decode b_Rod_isSight 0 = .ok (.aload_n 0, 1) := dc_42 (by decide +kernel)
theorem d_Rod_isSight_1 : decode b_Rod_isSight 1 = .ok (.getfield 12, 3) := dc_180 (a := 0) (b := 12) (by decide +kernel) rfl
theorem d_Rod_isSight_4 : decode b_Rod_isSight 4 = .ok (.getfield 91, 3) := dc_180 (a := 0) (b := 91) (by decide +kernel) rfl
theorem d_Rod_isSight_7 : decode b_Rod_isSight 7 = .ok (.iload_n 1, 1) := dc_27 (by decide +kernel)
theorem d_Rod_isSight_8 : decode b_Rod_isSight 8 = .ok (.invokevirtual 124, 3) := dc_182 (a := 0) (b := 124) (by decide +kernel) rfl
theorem d_Rod_isSight_11 : decode b_Rod_isSight 11 = .ok (.ifCond .eq 25, 3) := dc_153 (a := 0) (b := 25) (by decide +kernel) rfl
theorem d_Rod_isSight_14 : decode b_Rod_isSight 14 = .ok (.iload_n 2, 1) := dc_28 (by decide +kernel)
theorem d_Rod_isSight_15 : decode b_Rod_isSight 15 = .ok (.invokestatic 151, 3) := dc_184 (a := 0) (b := 151) (by decide +kernel) rfl
theorem d_Rod_isSight_18 : decode b_Rod_isSight 18 = .ok (.ifCond .eq 18, 3) := dc_153 (a := 0) (b := 18) (by decide +kernel) rfl
theorem d_Rod_isSight_21 : decode b_Rod_isSight 21 = .ok (.iload_n 3, 1) := dc_29 (by decide +kernel)
theorem d_Rod_isSight_22 : decode b_Rod_isSight 22 = .ok (.iconst 1, 1) := dc_4 (by decide +kernel)
theorem d_Rod_isSight_23 : decode b_Rod_isSight 23 = .ok (.if_icmp .lt 13, 3) := dc_161 (a := 0) (b := 13) (by decide +kernel) rfl
theorem d_Rod_isSight_26 : decode b_Rod_isSight 26 = .ok (.iload_n 3, 1) := dc_29 (by decide +kernel)
theorem d_Rod_isSight_27 : decode b_Rod_isSight 27 = .ok (.bipush 9, 2) := dc_16 (a := 9) (by decide +kernel) rfl
theorem d_Rod_isSight_29 : decode b_Rod_isSight 29 = .ok (.if_icmp .gt 7, 3) := dc_163 (a := 0) (b := 7) (by decide +kernel) rfl
theorem d_Rod_isSight_32 : decode b_Rod_isSight 32 = .ok (.iconst 1, 1) := dc_4 (by decide +kernel)
theorem d_Rod_isSight_33 : decode b_Rod_isSight 33 = .ok (.goto 4, 3) := dc_167 (a := 0) (b := 4) (by decide +kernel) rfl
theorem d_Rod_isSight_36 : decode b_Rod_isSight 36 = .ok (.iconst 0, 1) := dc_3 (by decide +kernel)
theorem d_Rod_isSight_37 : decode b_Rod_isSight 37 = .ok (.ireturn, 1) := dc_172 (by decide +kernel)
theorem d_Rod_twitch_0 : decode b_Rod_twitch 0 = .ok (.aload_n 0, 1) := dc_42 (by decide +kernel)
theorem d_Rod_twitch_1 : decode b_Rod_twitch 1 = .ok (.iload_n 1, 1) := dc_27 (by decide +kernel)
theorem d_Rod_twitch_2 : decode b_Rod_twitch 2 = .ok (.iload_n 2, 1) := dc_28 (by decide +kernel)
theorem d_Rod_twitch_3 : decode b_Rod_twitch 3 = .ok (.iload_n 3, 1) := dc_29 (by decide +kernel)
theorem d_Rod_twitch_4 : decode b_Rod_twitch 4 = .ok (.invokevirtual 171, 3) := dc_182 (a := 0) (b := 171) (by decide +kernel) rfl
theorem d_Rod_twitch_7 : decode b_Rod_twitch 7 = .ok (.ifCond .ne 5, 3) := dc_154 (a := 0) (b := 5) (by decide +kernel) rfl
theorem d_Rod_twitch_10 : decode b_Rod_twitch 10 = .ok (.iconst (-1), 1) := dc_2 (by decide +kernel)
theorem d_Rod_twitch_11 : decode b_Rod_twitch 11 = .ok (.ireturn, 1) := dc_172 (by decide +kernel)
theorem d_Rod_twitch_12 : decode b_Rod_twitch 12 = .ok (.aload_n 0, 1) := dc_42 (by decide +kernel)
theorem d_Rod_twitch_13 : decode b_Rod_twitch 13 = .ok (.getfield 12, 3) := dc_180 (a := 0) (b := 12) (by decide +kernel) rfl
theorem d_Rod_twitch_16 : decode b_Rod_twitch 16 = .ok (.iload_n 1, 1) := dc_27 (by decide +kernel)
theorem d_Rod_twitch_17 : decode b_Rod_twitch 17 = .ok (.iload_n 2, 1) := dc_28 (by decide +kernel)
theorem d_Rod_twitch_18 : decode b_Rod_twitch 18 = .ok (.iload_n 3, 1) := dc_29 (by decide +kernel)
theorem d_Rod_twitch_19 : decode b_Rod_twitch 19 = .ok (.invokevirtual 175, 3) := dc_182 (a := 0) (b := 175) (by decide +kernel) rfl
theorem d_Rod_twitch_22 : decode b_Rod_twitch 22 = .ok (.invokestatic 147, 3) := dc_184 (a := 0) (b := 147) (by decide +kernel) rfl
theorem d_Rod_twitch_25 : decode b_Rod_twitch 25 = .ok (.ireturn, 1) := dc_172 (by decide +kernel)
theorem d_Rod_see_0 : decode b_Rod_see 0 = .ok (.aload_n 0, 1) := dc_42 (by decide +kernel)
theorem d_Rod_see_1 : decode b_Rod_see 1 = .ok (.iload_n 1, 1) := dc_27 (by decide +kernel)
theorem d_Rod_see_2 : decode b_Rod_see 2 = .ok (.iload_n 2, 1) := dc_28 (by decide +kernel)
theorem d_Rod_see_3 : decode b_Rod_see 3 = .ok (.iload_n 3, 1) := dc_29 (by decide +kernel)
theorem d_Rod_see_4 : decode b_Rod_see 4 = .ok (.invokevirtual 171, 3) := dc_182 (a := 0) (b := 171) (by decide +kernel) rfl
theorem d_Rod_see_7 : decode b_Rod_see 7 = .ok (.ifCond .ne 5, 3) := dc_154 (a := 0) (b := 5) (by decide +kernel) rfl
theorem d_Rod_see_10 : decode b_Rod_see 10 = .ok (.iconst (-1), 1) := dc_2 (by decide +kernel)
theorem d_Rod_see_11 : decode b_Rod_see 11 = .ok (.ireturn, 1) := dc_172 (by decide +kernel)
theorem d_Rod_see_12 : decode b_Rod_see 12 = .ok (.aload_n 0, 1) := dc_42 (by decide +kernel)
theorem d_Rod_see_13 : decode b_Rod_see 13 = .ok (.getfield 12, 3) := dc_180 (a := 0) (b := 12) (by decide +kernel) rfl
theorem d_Rod_see_16 : decode b_Rod_see 16 = .ok (.getfield 178, 3) := dc_180 (a := 0) (b := 178) (by decide +kernel) rfl
theorem d_Rod_see_19 : decode b_Rod_see 19 = .ok (.getfield 182, 3) := dc_180 (a := 0) (b := 182) (by decide +kernel) rfl
theorem d_Rod_see_22 : decode b_Rod_see 22 = .ok (.bipush 8, 2) := dc_16 (a := 8) (by decide +kernel) rfl
theorem d_Rod_see_24 : decode b_Rod_see 24 = .ok (.if_icmp .lt 6, 3) := dc_161 (a := 0) (b := 6) (by decide +kernel) rfl
theorem d_Rod_see_27 : decode b_Rod_see 27 = .ok (.bipush (-3), 2) := dc_16 (a := 253) (by decide +kernel) rfl
theorem d_Rod_see_29 : decode b_Rod_see 29 = .ok (.ireturn, 1) := dc_172 (by decide +kernel)
theorem d_Rod_see_30 : decode b_Rod_see 30 = .ok (.aload_n 0, 1) := dc_42 (by decide +kernel)
theorem d_Rod_see_31 : decode b_Rod_see 31 = .ok (.getfield 12, 3) := dc_180 (a := 0) (b := 12) (by decide +kernel) rfl
theorem d_Rod_see_34 : decode b_Rod_see 34 = .ok (.getfield 178, 3) := dc_180 (a := 0) (b := 178) (by decide +kernel) rfl
theorem d_Rod_see_37 : decode b_Rod_see 37 = .ok (.iload_n 1, 1) := dc_27 (by decide +kernel)
theorem d_Rod_see_38 : decode b_Rod_see 38 = .ok (.iload_n 2, 1) := dc_28 (by decide +kernel)
theorem d_Rod_see_39 : decode b_Rod_see 39 = .ok (.iload_n 3, 1) := dc_29 (by decide +kernel)
theorem d_Rod_see_40 : decode b_Rod_see 40 = .ok (.iload 4, 2) := dc_21 (a := 4) (by decide +kernel) rfl
theorem d_Rod_see_42 : decode b_Rod_see 42 = .ok (.invokestatic 147, 3) := dc_184 (a := 0) (b := 147) (by decide +kernel) rfl
theorem d_Rod_see_45 : decode b_Rod_see 45 = .ok (.invokevirtual 185, 3) := dc_182 (a := 0) (b := 185) (by decide +kernel) rfl
theorem d_Rod_see_48 : decode b_Rod_see 48 = .ok (.aload_n 0, 1) := dc_42 (by decide +kernel)
theorem d_Rod_see_49 : decode b_Rod_see 49 = .ok (.getfield 12, 3) := dc_180 (a := 0) (b := 12) (by decide +kernel) rfl
theorem d_Rod_see_52 : decode b_Rod_see 52 = .ok (.getfield 178, 3) := dc_180 (a := 0) (b := 178) (by decide +kernel) rfl
theorem d_Rod_see_55 : decode b_Rod_see 55 = .ok (.getfield 182, 3) := dc_180 (a := 0) (b := 182) (by decide +kernel) rfl
theorem d_Rod_see_58 : decode b_Rod_see 58 = .ok (.ireturn, 1) := dc_172 (by decide +kernel)
theorem d_Rod_forget_0 : decode b_Rod_forget 0 = .ok (.aload_n 0, 1) := dc_42 (by decide +kernel)
theorem d_Rod_forget_1 : decode b_Rod_forget 1 = .ok (.getfield 12, 3) := dc_180 (a := 0) (b := 12) (by decide +kernel) rfl
theorem d_Rod_forget_4 : decode b_Rod_forget 4 = .ok (.getfield 178, 3) := dc_180 (a := 0) (b := 178) (by decide +kernel) rfl
theorem d_Rod_forget_7 : decode b_Rod_forget 7 = .ok (.getfield 182, 3) := dc_180 (a := 0) (b := 182) (by decide +kernel) rfl
theorem d_Rod_forget_10 : decode b_Rod_forget 10 = .ok (.istore_n 2, 1) := dc_61 (by decide +kernel)
theorem d_Rod_forget_11 : decode b_Rod_forget 11 = .ok (.iload_n 1, 1) := dc_27 (by decide +kernel)
theorem d_Rod_forget_12 : decode b_Rod_forget 12 = .ok (.ifCond .lt 8, 3) := dc_155 (a := 0) (b := 8) (by decide +kernel) rfl
theorem d_Rod_forget_15 : decode b_Rod_forget 15 = .ok (.iload_n 1, 1) := dc_27 (by decide +kernel)
theorem d_Rod_forget_16 : decode b_Rod_forget 16 = .ok (.iload_n 2, 1) := dc_28 (by decide +kernel)
theorem d_Rod_forget_17 : decode b_Rod_forget 17 = .ok (.if_icmp .le 5, 3) := dc_164 (a := 0) (b := 5) (by decide +kernel) rfl
theorem d_Rod_forget_20 : decode b_Rod_forget 20 = .ok (.iconst (-1), 1) := dc_2 (by decide +kernel)
theorem d_Rod_forget_21 : decode b_Rod_forget 21 = .ok (.ireturn, 1) := dc_172 (by decide +kernel)
theorem d_Rod_forget_22 : decode b_Rod_forget 22 = .ok (.aload_n 0, 1) := dc_42 (by decide +kernel)
theorem d_Rod_forget_23 : decode b_Rod_forget 23 = .ok (.getfield 12, 3) := dc_180 (a := 0) (b := 12) (by decide +kernel) rfl
theorem d_Rod_forget_26 : decode b_Rod_forget 26 = .ok (.getfield 178, 3) := dc_180 (a := 0) (b := 178) (by decide +kernel) rfl
theorem d_Rod_forget_29 : decode b_Rod_forget 29 = .ok (.iload_n 1, 1) := dc_27 (by decide +kernel)
theorem d_Rod_forget_30 : decode b_Rod_forget 30 = .ok (.putfield 182, 3) := dc_181 (a := 0) (b := 182) (by decide +kernel) rfl
theorem d_Rod_forget_33 : decode b_Rod_forget 33 = .ok (.iload_n 2, 1) := dc_28 (by decide +kernel)
theorem d_Rod_forget_34 : decode b_Rod_forget 34 = .ok (.ireturn, 1) := dc_172 (by decide +kernel)
theorem d_Rod_natures_0 : decode b_Rod_natures 0 = .ok (.aload_n 0, 1) := dc_42 (by decide +kernel)
theorem d_Rod_natures_1 : decode b_Rod_natures 1 = .ok (.getfield 12, 3) := dc_180 (a := 0) (b := 12) (by decide +kernel) rfl
theorem d_Rod_natures_4 : decode b_Rod_natures 4 = .ok (.invokevirtual 189, 3) := dc_182 (a := 0) (b := 189) (by decide +kernel) rfl
theorem d_Rod_natures_7 : decode b_Rod_natures 7 = .ok (.istore_n 1, 1) := dc_60 (by decide +kernel)
theorem d_Rod_natures_8 : decode b_Rod_natures 8 = .ok (.iconst 0, 1) := dc_3 (by decide +kernel)
theorem d_Rod_natures_9 : decode b_Rod_natures 9 = .ok (.istore_n 2, 1) := dc_61 (by decide +kernel)
theorem d_Rod_natures_10 : decode b_Rod_natures 10 = .ok (.iconst 0, 1) := dc_3 (by decide +kernel)
theorem d_Rod_natures_11 : decode b_Rod_natures 11 = .ok (.istore_n 3, 1) := dc_62 (by decide +kernel)
theorem d_Rod_natures_12 : decode b_Rod_natures 12 = .ok (.iload_n 3, 1) := dc_29 (by decide +kernel)
theorem d_Rod_natures_13 : decode b_Rod_natures 13 = .ok (.bipush 21, 2) := dc_16 (a := 21) (by decide +kernel) rfl
theorem d_Rod_natures_15 : decode b_Rod_natures 15 = .ok (.if_icmp .ge 26, 3) := dc_162 (a := 0) (b := 26) (by decide +kernel) rfl
theorem d_Rod_natures_18 : decode b_Rod_natures 18 = .ok (.iload_n 1, 1) := dc_27 (by decide +kernel)
theorem d_Rod_natures_19 : decode b_Rod_natures 19 = .ok (.iload_n 3, 1) := dc_29 (by decide +kernel)
theorem d_Rod_natures_20 : decode b_Rod_natures 20 = .ok (.ishr, 1) := dc_122 (by decide +kernel)
theorem d_Rod_natures_21 : decode b_Rod_natures 21 = .ok (.iconst 1, 1) := dc_4 (by decide +kernel)
theorem d_Rod_natures_22 : decode b_Rod_natures 22 = .ok (.iand, 1) := dc_126 (by decide +kernel)
theorem d_Rod_natures_23 : decode b_Rod_natures 23 = .ok (.ifCond .eq 12, 3) := dc_153 (a := 0) (b := 12) (by decide +kernel) rfl
theorem d_Rod_natures_26 : decode b_Rod_natures 26 = .ok (.iload_n 2, 1) := dc_28 (by decide +kernel)
theorem d_Rod_natures_27 : decode b_Rod_natures 27 = .ok (.iconst 1, 1) := dc_4 (by decide +kernel)
theorem d_Rod_natures_28 : decode b_Rod_natures 28 = .ok (.iload_n 3, 1) := dc_29 (by decide +kernel)
theorem d_Rod_natures_29 : decode b_Rod_natures 29 = .ok (.invokestatic 192, 3) := dc_184 (a := 0) (b := 192) (by decide +kernel) rfl
theorem d_Rod_natures_32 : decode b_Rod_natures 32 = .ok (.ishl, 1) := dc_120 (by decide +kernel)
theorem d_Rod_natures_33 : decode b_Rod_natures 33 = .ok (.ior, 1) := dc_128 (by decide +kernel)
theorem d_Rod_natures_34 : decode b_Rod_natures 34 = .ok (.istore_n 2, 1) := dc_61 (by decide +kernel)
theorem d_Rod_natures_35 : decode b_Rod_natures 35 = .ok (.iinc 3 1, 3) := dc_132 (a := 3) (b := 1) (by decide +kernel) rfl
theorem d_Rod_natures_38 : decode b_Rod_natures 38 = .ok (.goto (-26), 3) := dc_167 (a := 255) (b := 230) (by decide +kernel) rfl
theorem d_Rod_natures_41 : decode b_Rod_natures 41 = .ok (.iload_n 2, 1) := dc_28 (by decide +kernel)
theorem d_Rod_natures_42 : decode b_Rod_natures 42 = .ok (.ireturn, 1) := dc_172 (by decide +kernel)
theorem d_Rod_reaches_0 : decode b_Rod_reaches 0 = .ok (.iload_n 1, 1) := dc_27 (by decide +kernel)
theorem d_Rod_reaches_1 : decode b_Rod_reaches 1 = .ok (.invokestatic 157, 3) := dc_184 (a := 0) (b := 157) (by decide +kernel) rfl
theorem d_Rod_reaches_4 : decode b_Rod_reaches 4 = .ok (.ifCond .ne 5, 3) := dc_154 (a := 0) (b := 5) (by decide +kernel) rfl
theorem d_Rod_reaches_7 : decode b_Rod_reaches 7 = .ok (.iconst (-1), 1) := dc_2 (by decide +kernel)
theorem d_Rod_reaches_8 : decode b_Rod_reaches 8 = .ok (.ireturn, 1) := dc_172 (by decide +kernel)
theorem d_Rod_reaches_9 : decode b_Rod_reaches 9 = .ok (.aload_n 0, 1) := dc_42 (by decide +kernel)
theorem d_Rod_reaches_10 : decode b_Rod_reaches 10 = .ok (.getfield 12, 3) := dc_180 (a := 0) (b := 12) (by decide +kernel) rfl
theorem d_Rod_reaches_13 : decode b_Rod_reaches 13 = .ok (.invokevirtual 189, 3) := dc_182 (a := 0) (b := 189) (by decide +kernel) rfl
theorem d_Rod_reaches_16 : decode b_Rod_reaches 16 = .ok (.istore_n 2, 1) := dc_61 (by decide +kernel)
theorem d_Rod_reaches_17 : decode b_Rod_reaches 17 = .ok (.iconst 0, 1) := dc_3 (by decide +kernel)
theorem d_Rod_reaches_18 : decode b_Rod_reaches 18 = .ok (.istore_n 3, 1) := dc_62 (by decide +kernel)
theorem d_Rod_reaches_19 : decode b_Rod_reaches 19 = .ok (.iconst 0, 1) := dc_3 (by decide +kernel)
theorem d_Rod_reaches_20 : decode b_Rod_reaches 20 = .ok (.istore 4, 2) := dc_54 (a := 4) (by decide +kernel) rfl
theorem d_Rod_reaches_22 : decode b_Rod_reaches 22 = .ok (.iload 4, 2) := dc_21 (a := 4) (by decide +kernel) rfl
theorem d_Rod_reaches_24 : decode b_Rod_reaches 24 = .ok (.bipush 21, 2) := dc_16 (a := 21) (by decide +kernel) rfl
theorem d_Rod_reaches_26 : decode b_Rod_reaches 26 = .ok (.if_icmp .ge 35, 3) := dc_162 (a := 0) (b := 35) (by decide +kernel) rfl
theorem d_Rod_reaches_29 : decode b_Rod_reaches 29 = .ok (.iload_n 2, 1) := dc_28 (by decide +kernel)
theorem d_Rod_reaches_30 : decode b_Rod_reaches 30 = .ok (.iload 4, 2) := dc_21 (a := 4) (by decide +kernel) rfl
theorem d_Rod_reaches_32 : decode b_Rod_reaches 32 = .ok (.ishr, 1) := dc_122 (by decide +kernel)
theorem d_Rod_reaches_33 : decode b_Rod_reaches 33 = .ok (.iconst 1, 1) := dc_4 (by decide +kernel)
theorem d_Rod_reaches_34 : decode b_Rod_reaches 34 = .ok (.iand, 1) := dc_126 (by decide +kernel)
theorem d_Rod_reaches_35 : decode b_Rod_reaches 35 = .ok (.ifCond .eq 20, 3) := dc_153 (a := 0) (b := 20) (by decide +kernel) rfl
theorem d_Rod_reaches_38 : decode b_Rod_reaches 38 = .ok (.iload 4, 2) := dc_21 (a := 4) (by decide +kernel) rfl
theorem d_Rod_reaches_40 : decode b_Rod_reaches 40 = .ok (.invokestatic 192, 3) := dc_184 (a := 0) (b := 192) (by decide +kernel) rfl
theorem d_Rod_reaches_43 : decode b_Rod_reaches 43 = .ok (.iload_n 1, 1) := dc_27 (by decide +kernel)
theorem d_Rod_reaches_44 : decode b_Rod_reaches 44 = .ok (.if_icmp .ne 11, 3) := dc_160 (a := 0) (b := 11) (by decide +kernel) rfl
theorem d_Rod_reaches_47 : decode b_Rod_reaches 47 = .ok (.iload_n 3, 1) := dc_29 (by decide +kernel)
theorem d_Rod_reaches_48 : decode b_Rod_reaches 48 = .ok (.iload 4, 2) := dc_21 (a := 4) (by decide +kernel) rfl
theorem d_Rod_reaches_50 : decode b_Rod_reaches 50 = .ok (.invokestatic 196, 3) := dc_184 (a := 0) (b := 196) (by decide +kernel) rfl
theorem d_Rod_reaches_53 : decode b_Rod_reaches 53 = .ok (.ior, 1) := dc_128 (by decide +kernel)
theorem d_Rod_reaches_54 : decode b_Rod_reaches 54 = .ok (.istore_n 3, 1) := dc_62 (by decide +kernel)
theorem d_Rod_reaches_55 : decode b_Rod_reaches 55 = .ok (.iinc 4 1, 3) := dc_132 (a := 4) (b := 1) (by decide +kernel) rfl
theorem d_Rod_reaches_58 : decode b_Rod_reaches 58 = .ok (.goto (-36), 3) := dc_167 (a := 255) (b := 220) (by decide +kernel) rfl
theorem d_Rod_reaches_61 : decode b_Rod_reaches 61 = .ok (.iload_n 3, 1) := dc_29 (by decide +kernel)
theorem d_Rod_reaches_62 : decode b_Rod_reaches 62 = .ok (.ireturn, 1) := dc_172 (by decide +kernel)
theorem d_Rod_test_0 : decode b_Rod_test 0 = .ok (.iload_n 1, 1) := dc_27 (by decide +kernel)
theorem d_Rod_test_1 : decode b_Rod_test 1 = .ok (.invokestatic 151, 3) := dc_184 (a := 0) (b := 151) (by decide +kernel) rfl
theorem d_Rod_test_4 : decode b_Rod_test 4 = .ok (.ifCond .eq 12, 3) := dc_153 (a := 0) (b := 12) (by decide +kernel) rfl
theorem d_Rod_test_7 : decode b_Rod_test 7 = .ok (.iload_n 2, 1) := dc_28 (by decide +kernel)
theorem d_Rod_test_8 : decode b_Rod_test 8 = .ok (.ifCond .eq 10, 3) := dc_153 (a := 0) (b := 10) (by decide +kernel) rfl
theorem d_Rod_test_11 : decode b_Rod_test 11 = .ok (.iload_n 2, 1) := dc_28 (by decide +kernel)
theorem d_Rod_test_12 : decode b_Rod_test 12 = .ok (.iconst 1, 1) := dc_4 (by decide +kernel)
theorem d_Rod_test_13 : decode b_Rod_test 13 = .ok (.if_icmp .eq 5, 3) := dc_159 (a := 0) (b := 5) (by decide +kernel) rfl
theorem d_Rod_test_16 : decode b_Rod_test 16 = .ok (.iconst (-1), 1) := dc_2 (by decide +kernel)
theorem d_Rod_test_17 : decode b_Rod_test 17 = .ok (.ireturn, 1) := dc_172 (by decide +kernel)
theorem d_Rod_test_18 : decode b_Rod_test 18 = .ok (.aload_n 0, 1) := dc_42 (by decide +kernel)
theorem d_Rod_test_19 : decode b_Rod_test 19 = .ok (.getfield 12, 3) := dc_180 (a := 0) (b := 12) (by decide +kernel) rfl
theorem d_Rod_test_22 : decode b_Rod_test 22 = .ok (.invokevirtual 189, 3) := dc_182 (a := 0) (b := 189) (by decide +kernel) rfl
theorem d_Rod_test_25 : decode b_Rod_test 25 = .ok (.istore_n 3, 1) := dc_62 (by decide +kernel)
theorem d_Rod_test_26 : decode b_Rod_test 26 = .ok (.iload_n 3, 1) := dc_29 (by decide +kernel)
theorem d_Rod_test_27 : decode b_Rod_test 27 = .ok (.invokestatic 199, 3) := dc_184 (a := 0) (b := 199) (by decide +kernel) rfl
theorem d_Rod_test_30 : decode b_Rod_test 30 = .ok (.istore 4, 2) := dc_54 (a := 4) (by decide +kernel) rfl
theorem d_Rod_test_32 : decode b_Rod_test 32 = .ok (.iload 4, 2) := dc_21 (a := 4) (by decide +kernel) rfl
theorem d_Rod_test_34 : decode b_Rod_test 34 = .ok (.istore 5, 2) := dc_54 (a := 5) (by decide +kernel) rfl
theorem d_Rod_test_36 : decode b_Rod_test 36 = .ok (.bipush (-4), 2) := dc_16 (a := 252) (by decide +kernel) rfl
theorem d_Rod_test_38 : decode b_Rod_test 38 = .ok (.istore 6, 2) := dc_54 (a := 6) (by decide +kernel) rfl
theorem d_Rod_test_40 : decode b_Rod_test 40 = .ok (.iconst 0, 1) := dc_3 (by decide +kernel)
theorem d_Rod_test_41 : decode b_Rod_test 41 = .ok (.istore 7, 2) := dc_54 (a := 7) (by decide +kernel) rfl
theorem d_Rod_test_43 : decode b_Rod_test 43 = .ok (.iload 7, 2) := dc_21 (a := 7) (by decide +kernel) rfl
theorem d_Rod_test_45 : decode b_Rod_test 45 = .ok (.aload_n 0, 1) := dc_42 (by decide +kernel)
theorem d_Rod_test_46 : decode b_Rod_test 46 = .ok (.getfield 12, 3) := dc_180 (a := 0) (b := 12) (by decide +kernel) rfl
theorem d_Rod_test_49 : decode b_Rod_test 49 = .ok (.getfield 91, 3) := dc_180 (a := 0) (b := 91) (by decide +kernel) rfl
theorem d_Rod_test_52 : decode b_Rod_test 52 = .ok (.invokevirtual 204, 3) := dc_182 (a := 0) (b := 204) (by decide +kernel) rfl
theorem d_Rod_test_55 : decode b_Rod_test 55 = .ok (.if_icmp .ge 79, 3) := dc_162 (a := 0) (b := 79) (by decide +kernel) rfl
theorem d_Rod_test_58 : decode b_Rod_test 58 = .ok (.iconst 1, 1) := dc_4 (by decide +kernel)
theorem d_Rod_test_59 : decode b_Rod_test 59 = .ok (.istore 8, 2) := dc_54 (a := 8) (by decide +kernel) rfl
theorem d_Rod_test_61 : decode b_Rod_test 61 = .ok (.iload 8, 2) := dc_21 (a := 8) (by decide +kernel) rfl
theorem d_Rod_test_63 : decode b_Rod_test 63 = .ok (.iconst 2, 1) := dc_5 (by decide +kernel)
theorem d_Rod_test_64 : decode b_Rod_test 64 = .ok (.if_icmp .gt 64, 3) := dc_163 (a := 0) (b := 64) (by decide +kernel) rfl
theorem d_Rod_test_67 : decode b_Rod_test 67 = .ok (.iload_n 3, 1) := dc_29 (by decide +kernel)
theorem d_Rod_test_68 : decode b_Rod_test 68 = .ok (.aload_n 0, 1) := dc_42 (by decide +kernel)
theorem d_Rod_test_69 : decode b_Rod_test 69 = .ok (.getfield 12, 3) := dc_180 (a := 0) (b := 12) (by decide +kernel) rfl
theorem d_Rod_test_72 : decode b_Rod_test 72 = .ok (.getfield 91, 3) := dc_180 (a := 0) (b := 91) (by decide +kernel) rfl
theorem d_Rod_test_75 : decode b_Rod_test 75 = .ok (.iload 7, 2) := dc_21 (a := 7) (by decide +kernel) rfl
theorem d_Rod_test_77 : decode b_Rod_test 77 = .ok (.iload_n 1, 1) := dc_27 (by decide +kernel)
theorem d_Rod_test_78 : decode b_Rod_test 78 = .ok (.iload 8, 2) := dc_21 (a := 8) (by decide +kernel) rfl
theorem d_Rod_test_80 : decode b_Rod_test 80 = .ok (.invokevirtual 207, 3) := dc_182 (a := 0) (b := 207) (by decide +kernel) rfl
theorem d_Rod_test_83 : decode b_Rod_test 83 = .ok (.iand, 1) := dc_126 (by decide +kernel)
theorem d_Rod_test_84 : decode b_Rod_test 84 = .ok (.invokestatic 199, 3) := dc_184 (a := 0) (b := 199) (by decide +kernel) rfl
theorem d_Rod_test_87 : decode b_Rod_test 87 = .ok (.istore 9, 2) := dc_54 (a := 9) (by decide +kernel) rfl
theorem d_Rod_test_89 : decode b_Rod_test 89 = .ok (.iload 9, 2) := dc_21 (a := 9) (by decide +kernel) rfl
theorem d_Rod_test_91 : decode b_Rod_test 91 = .ok (.iload 4, 2) := dc_21 (a := 4) (by decide +kernel) rfl
theorem d_Rod_test_93 : decode b_Rod_test 93 = .ok (.iload 9, 2) := dc_21 (a := 9) (by decide +kernel) rfl
theorem d_Rod_test_95 : decode b_Rod_test 95 = .ok (.isub, 1) := dc_100 (by decide +kernel)
theorem d_Rod_test_96 : decode b_Rod_test 96 = .ok (.invokestatic 211, 3) := dc_184 (a := 0) (b := 211) (by decide +kernel) rfl
theorem d_Rod_test_99 : decode b_Rod_test 99 = .ok (.istore 10, 2) := dc_54 (a := 10) (by decide +kernel) rfl
theorem d_Rod_test_101 : decode b_Rod_test 101 = .ok (.iload 10, 2) := dc_21 (a := 10) (by decide +kernel) rfl
theorem d_Rod_test_103 : decode b_Rod_test 103 = .ok (.iload 5, 2) := dc_21 (a := 5) (by decide +kernel) rfl
theorem d_Rod_test_105 : decode b_Rod_test 105 = .ok (.if_icmp .ge 17, 3) := dc_162 (a := 0) (b := 17) (by decide +kernel) rfl
theorem d_Rod_test_108 : decode b_Rod_test 108 = .ok (.iload 10, 2) := dc_21 (a := 10) (by decide +kernel) rfl
theorem d_Rod_test_110 : decode b_Rod_test 110 = .ok (.istore 5, 2) := dc_54 (a := 5) (by decide +kernel) rfl
theorem d_Rod_test_112 : decode b_Rod_test 112 = .ok (.bipush 10, 2) := dc_16 (a := 10) (by decide +kernel) rfl
theorem d_Rod_test_114 : decode b_Rod_test 114 = .ok (.iload 7, 2) := dc_21 (a := 7) (by decide +kernel) rfl
theorem d_Rod_test_116 : decode b_Rod_test 116 = .ok (.imul, 1) := dc_104 (by decide +kernel)
theorem d_Rod_test_117 : decode b_Rod_test 117 = .ok (.iload 8, 2) := dc_21 (a := 8) (by decide +kernel) rfl
theorem d_Rod_test_119 : decode b_Rod_test 119 = .ok (.iadd, 1) := dc_96 (by decide +kernel)
theorem d_Rod_test_120 : decode b_Rod_test 120 = .ok (.istore 6, 2) := dc_54 (a := 6) (by decide +kernel) rfl
theorem d_Rod_test_122 : decode b_Rod_test 122 = .ok (.iinc 8 1, 3) := dc_132 (a := 8) (b := 1) (by decide +kernel) rfl
theorem d_Rod_test_125 : decode b_Rod_test 125 = .ok (.goto (-64), 3) := dc_167 (a := 255) (b := 192) (by decide +kernel) rfl
theorem d_Rod_test_128 : decode b_Rod_test 128 = .ok (.iinc 7 1, 3) := dc_132 (a := 7) (b := 1) (by decide +kernel) rfl
theorem d_Rod_test_131 : decode b_Rod_test 131 = .ok (.goto (-88), 3) := dc_167 (a := 255) (b := 168) (by decide +kernel) rfl
theorem d_Rod_test_134 : decode b_Rod_test 134 = .ok (.iload 6, 2) := dc_21 (a := 6) (by decide +kernel) rfl
theorem d_Rod_test_136 : decode b_Rod_test 136 = .ok (.bipush (-4), 2) := dc_16 (a := 252) (by decide +kernel) rfl
theorem d_Rod_test_138 : decode b_Rod_test 138 = .ok (.if_icmp .eq 7, 3) := dc_159 (a := 0) (b := 7) (by decide +kernel) rfl
theorem d_Rod_test_141 : decode b_Rod_test 141 = .ok (.iload_n 2, 1) := dc_28 (by decide +kernel)
theorem d_Rod_test_142 : decode b_Rod_test 142 = .ok (.ifCond .ne 8, 3) := dc_154 (a := 0) (b := 8) (by decide +kernel) rfl
theorem d_Rod_test_145 : decode b_Rod_test 145 = .ok (.iload 6, 2) := dc_21 (a := 6) (by decide +kernel) rfl
theorem d_Rod_test_147 : decode b_Rod_test 147 = .ok (.goto 5, 3) := dc_167 (a := 0) (b := 5) (by decide +kernel) rfl
theorem d_Rod_test_150 : decode b_Rod_test 150 = .ok (.iload 5, 2) := dc_21 (a := 5) (by decide +kernel) rfl
theorem d_Rod_test_152 : decode b_Rod_test 152 = .ok (.ireturn, 1) := dc_172 (by decide +kernel)
theorem d_Rod_show_0 : decode b_Rod_show 0 = .ok (.aload_n 0, 1) := dc_42 (by decide +kernel)
theorem d_Rod_show_1 : decode b_Rod_show 1 = .ok (.getfield 12, 3) := dc_180 (a := 0) (b := 12) (by decide +kernel) rfl
theorem d_Rod_show_4 : decode b_Rod_show 4 = .ok (.getfield 91, 3) := dc_180 (a := 0) (b := 91) (by decide +kernel) rfl
theorem d_Rod_show_7 : decode b_Rod_show 7 = .ok (.iload_n 1, 1) := dc_27 (by decide +kernel)
theorem d_Rod_show_8 : decode b_Rod_show 8 = .ok (.invokevirtual 124, 3) := dc_182 (a := 0) (b := 124) (by decide +kernel) rfl
theorem d_Rod_show_11 : decode b_Rod_show 11 = .ok (.ifCond .eq 21, 3) := dc_153 (a := 0) (b := 21) (by decide +kernel) rfl
theorem d_Rod_show_14 : decode b_Rod_show 14 = .ok (.iload_n 2, 1) := dc_28 (by decide +kernel)
theorem d_Rod_show_15 : decode b_Rod_show 15 = .ok (.invokestatic 151, 3) := dc_184 (a := 0) (b := 151) (by decide +kernel) rfl
theorem d_Rod_show_18 : decode b_Rod_show 18 = .ok (.ifCond .eq 14, 3) := dc_153 (a := 0) (b := 14) (by decide +kernel) rfl
theorem d_Rod_show_21 : decode b_Rod_show 21 = .ok (.iload_n 3, 1) := dc_29 (by decide +kernel)
theorem d_Rod_show_22 : decode b_Rod_show 22 = .ok (.iconst 1, 1) := dc_4 (by decide +kernel)
theorem d_Rod_show_23 : decode b_Rod_show 23 = .ok (.if_icmp .lt 9, 3) := dc_161 (a := 0) (b := 9) (by decide +kernel) rfl
theorem d_Rod_show_26 : decode b_Rod_show 26 = .ok (.iload_n 3, 1) := dc_29 (by decide +kernel)
theorem d_Rod_show_27 : decode b_Rod_show 27 = .ok (.bipush 6, 2) := dc_16 (a := 6) (by decide +kernel) rfl
theorem d_Rod_show_29 : decode b_Rod_show 29 = .ok (.if_icmp .le 5, 3) := dc_164 (a := 0) (b := 5) (by decide +kernel) rfl
theorem d_Rod_show_32 : decode b_Rod_show 32 = .ok (.iconst (-1), 1) := dc_2 (by decide +kernel)
theorem d_Rod_show_33 : decode b_Rod_show 33 = .ok (.ireturn, 1) := dc_172 (by decide +kernel)
theorem d_Rod_show_34 : decode b_Rod_show 34 = .ok (.iload 4, 2) := dc_21 (a := 4) (by decide +kernel) rfl
theorem d_Rod_show_36 : decode b_Rod_show 36 = .ok (.ifCond .eq 21, 3) := dc_153 (a := 0) (b := 21) (by decide +kernel) rfl
theorem d_Rod_show_39 : decode b_Rod_show 39 = .ok (.iload 4, 2) := dc_21 (a := 4) (by decide +kernel) rfl
theorem d_Rod_show_41 : decode b_Rod_show 41 = .ok (.bipush 10, 2) := dc_16 (a := 10) (by decide +kernel) rfl
theorem d_Rod_show_43 : decode b_Rod_show 43 = .ok (.if_icmp .lt 12, 3) := dc_161 (a := 0) (b := 12) (by decide +kernel) rfl
theorem d_Rod_show_46 : decode b_Rod_show 46 = .ok (.iload 4, 2) := dc_21 (a := 4) (by decide +kernel) rfl
theorem d_Rod_show_48 : decode b_Rod_show 48 = .ok (.bipush 10, 2) := dc_16 (a := 10) (by decide +kernel) rfl
theorem d_Rod_show_50 : decode b_Rod_show 50 = .ok (.isub, 1) := dc_100 (by decide +kernel)
theorem d_Rod_show_51 : decode b_Rod_show 51 = .ok (.iload_n 3, 1) := dc_29 (by decide +kernel)
theorem d_Rod_show_52 : decode b_Rod_show 52 = .ok (.if_icmp .lt 5, 3) := dc_161 (a := 0) (b := 5) (by decide +kernel) rfl
theorem d_Rod_show_55 : decode b_Rod_show 55 = .ok (.iconst (-1), 1) := dc_2 (by decide +kernel)
theorem d_Rod_show_56 : decode b_Rod_show 56 = .ok (.ireturn, 1) := dc_172 (by decide +kernel)
theorem d_Rod_show_57 : decode b_Rod_show 57 = .ok (.aload_n 0, 1) := dc_42 (by decide +kernel)
theorem d_Rod_show_58 : decode b_Rod_show 58 = .ok (.getfield 42, 3) := dc_180 (a := 0) (b := 42) (by decide +kernel) rfl
theorem d_Rod_show_61 : decode b_Rod_show 61 = .ok (.aload_n 0, 1) := dc_42 (by decide +kernel)
theorem d_Rod_show_62 : decode b_Rod_show 62 = .ok (.getfield 12, 3) := dc_180 (a := 0) (b := 12) (by decide +kernel) rfl
theorem d_Rod_show_65 : decode b_Rod_show 65 = .ok (.iload_n 1, 1) := dc_27 (by decide +kernel)
theorem d_Rod_show_66 : decode b_Rod_show 66 = .ok (.iload_n 2, 1) := dc_28 (by decide +kernel)
theorem d_Rod_show_67 : decode b_Rod_show 67 = .ok (.iload_n 3, 1) := dc_29 (by decide +kernel)
theorem d_Rod_show_68 : decode b_Rod_show 68 = .ok (.invokevirtual 217, 3) := dc_182 (a := 0) (b := 217) (by decide +kernel) rfl
theorem d_Rod_show_71 : decode b_Rod_show 71 = .ok (.iload 4, 2) := dc_21 (a := 4) (by decide +kernel) rfl
theorem d_Rod_show_73 : decode b_Rod_show 73 = .ok (.ifCond .ne 14, 3) := dc_154 (a := 0) (b := 14) (by decide +kernel) rfl
theorem d_Rod_show_76 : decode b_Rod_show 76 = .ok (.aload_n 0, 1) := dc_42 (by decide +kernel)
theorem d_Rod_show_77 : decode b_Rod_show 77 = .ok (.getfield 42, 3) := dc_180 (a := 0) (b := 42) (by decide +kernel) rfl
theorem d_Rod_show_80 : decode b_Rod_show 80 = .ok (.iload_n 1, 1) := dc_27 (by decide +kernel)
theorem d_Rod_show_81 : decode b_Rod_show 81 = .ok (.invokevirtual 221, 3) := dc_182 (a := 0) (b := 221) (by decide +kernel) rfl
theorem d_Rod_show_84 : decode b_Rod_show 84 = .ok (.goto 16, 3) := dc_167 (a := 0) (b := 16) (by decide +kernel) rfl
theorem d_Rod_show_87 : decode b_Rod_show 87 = .ok (.aload_n 0, 1) := dc_42 (by decide +kernel)
theorem d_Rod_show_88 : decode b_Rod_show 88 = .ok (.getfield 42, 3) := dc_180 (a := 0) (b := 42) (by decide +kernel) rfl
theorem d_Rod_show_91 : decode b_Rod_show 91 = .ok (.getfield 224, 3) := dc_180 (a := 0) (b := 224) (by decide +kernel) rfl
theorem d_Rod_show_94 : decode b_Rod_show 94 = .ok (.iload 4, 2) := dc_21 (a := 4) (by decide +kernel) rfl
theorem d_Rod_show_96 : decode b_Rod_show 96 = .ok (.bipush 10, 2) := dc_16 (a := 10) (by decide +kernel) rfl
theorem d_Rod_show_98 : decode b_Rod_show 98 = .ok (.isub, 1) := dc_100 (by decide +kernel)
theorem d_Rod_show_99 : decode b_Rod_show 99 = .ok (.iaload, 1) := dc_46 (by decide +kernel)
theorem d_Rod_show_100 : decode b_Rod_show 100 = .ok (.ireturn, 1) := dc_172 (by decide +kernel)
theorem d_Rod_bore_0 : decode b_Rod_bore 0 = .ok (.aload_n 0, 1) := dc_42 (by decide +kernel)
theorem d_Rod_bore_1 : decode b_Rod_bore 1 = .ok (.getfield 12, 3) := dc_180 (a := 0) (b := 12) (by decide +kernel) rfl
theorem d_Rod_bore_4 : decode b_Rod_bore 4 = .ok (.iload_n 1, 1) := dc_27 (by decide +kernel)
theorem d_Rod_bore_5 : decode b_Rod_bore 5 = .ok (.iload_n 2, 1) := dc_28 (by decide +kernel)
theorem d_Rod_bore_6 : decode b_Rod_bore 6 = .ok (.iload_n 3, 1) := dc_29 (by decide +kernel)
theorem d_Rod_bore_7 : decode b_Rod_bore 7 = .ok (.invokevirtual 227, 3) := dc_182 (a := 0) (b := 227) (by decide +kernel) rfl
theorem d_Rod_bore_10 : decode b_Rod_bore 10 = .ok (.ireturn, 1) := dc_172 (by decide +kernel)
theorem d_Rod_plan_0 : decode b_Rod_plan 0 = .ok (.iload_n 1, 1) := dc_27 (by decide +kernel)
theorem d_Rod_plan_1 : decode b_Rod_plan 1 = .ok (.invokestatic 151, 3) := dc_184 (a := 0) (b := 151) (by decide +kernel) rfl
theorem d_Rod_plan_4 : decode b_Rod_plan 4 = .ok (.ifCond .eq 19, 3) := dc_153 (a := 0) (b := 19) (by decide +kernel) rfl
theorem d_Rod_plan_7 : decode b_Rod_plan 7 = .ok (.iload_n 2, 1) := dc_28 (by decide +kernel)
theorem d_Rod_plan_8 : decode b_Rod_plan 8 = .ok (.invokestatic 230, 3) := dc_184 (a := 0) (b := 230) (by decide +kernel) rfl
theorem d_Rod_plan_11 : decode b_Rod_plan 11 = .ok (.ifCond .eq 12, 3) := dc_153 (a := 0) (b := 12) (by decide +kernel) rfl
theorem d_Rod_plan_14 : decode b_Rod_plan 14 = .ok (.iload_n 3, 1) := dc_29 (by decide +kernel)
theorem d_Rod_plan_15 : decode b_Rod_plan 15 = .ok (.ifCond .lt 8, 3) := dc_155 (a := 0) (b := 8) (by decide +kernel) rfl
theorem d_Rod_plan_18 : decode b_Rod_plan 18 = .ok (.iload_n 3, 1) := dc_29 (by decide +kernel)
theorem d_Rod_plan_19 : decode b_Rod_plan 19 = .ok (.iconst 4, 1) := dc_7 (by decide +kernel)
theorem d_Rod_plan_20 : decode b_Rod_plan 20 = .ok (.if_icmp .le 7, 3) := dc_164 (a := 0) (b := 7) (by decide +kernel) rfl
theorem d_Rod_plan_23 : decode b_Rod_plan 23 = .ok (.ldc2_w 233, 3) := dc_20 (a := 0) (b := 233) (by decide +kernel) rfl
theorem d_Rod_plan_26 : decode b_Rod_plan 26 = .ok (.lreturn, 1) := dc_173 (by decide +kernel)
theorem d_Rod_plan_27 : decode b_Rod_plan 27 = .ok (.iload 4, 2) := dc_21 (a := 4) (by decide +kernel) rfl
theorem d_Rod_plan_29 : decode b_Rod_plan 29 = .ok (.ifCond .eq 20, 3) := dc_153 (a := 0) (b := 20) (by decide +kernel) rfl
theorem d_Rod_plan_32 : decode b_Rod_plan 32 = .ok (.iload 4, 2) := dc_21 (a := 4) (by decide +kernel) rfl
theorem d_Rod_plan_34 : decode b_Rod_plan 34 = .ok (.iconst 1, 1) := dc_4 (by decide +kernel)
theorem d_Rod_plan_35 : decode b_Rod_plan 35 = .ok (.if_icmp .eq 14, 3) := dc_159 (a := 0) (b := 14) (by decide +kernel) rfl
theorem d_Rod_plan_38 : decode b_Rod_plan 38 = .ok (.iload 4, 2) := dc_21 (a := 4) (by decide +kernel) rfl
theorem d_Rod_plan_40 : decode b_Rod_plan 40 = .ok (.bipush 10, 2) := dc_16 (a := 10) (by decide +kernel) rfl
theorem d_Rod_plan_42 : decode b_Rod_plan 42 = .ok (.if_icmp .ge 7, 3) := dc_162 (a := 0) (b := 7) (by decide +kernel) rfl
theorem d_Rod_plan_45 : decode b_Rod_plan 45 = .ok (.ldc2_w 233, 3) := dc_20 (a := 0) (b := 233) (by decide +kernel) rfl
theorem d_Rod_plan_48 : decode b_Rod_plan 48 = .ok (.lreturn, 1) := dc_173 (by decide +kernel)
theorem d_Rod_plan_49 : decode b_Rod_plan 49 = .ok (.aload_n 0, 1) := dc_42 (by decide +kernel)
theorem d_Rod_plan_50 : decode b_Rod_plan 50 = .ok (.getfield 49, 3) := dc_180 (a := 0) (b := 49) (by decide +kernel) rfl
theorem d_Rod_plan_53 : decode b_Rod_plan 53 = .ok (.aload_n 0, 1) := dc_42 (by decide +kernel)
theorem d_Rod_plan_54 : decode b_Rod_plan 54 = .ok (.getfield 12, 3) := dc_180 (a := 0) (b := 12) (by decide +kernel) rfl
theorem d_Rod_plan_57 : decode b_Rod_plan 57 = .ok (.getfield 91, 3) := dc_180 (a := 0) (b := 91) (by decide +kernel) rfl
theorem d_Rod_plan_60 : decode b_Rod_plan 60 = .ok (.iload_n 1, 1) := dc_27 (by decide +kernel)
theorem d_Rod_plan_61 : decode b_Rod_plan 61 = .ok (.iload_n 2, 1) := dc_28 (by decide +kernel)
theorem d_Rod_plan_62 : decode b_Rod_plan 62 = .ok (.iload_n 3, 1) := dc_29 (by decide +kernel)
theorem d_Rod_plan_63 : decode b_Rod_plan 63 = .ok (.invokevirtual 235, 3) := dc_182 (a := 0) (b := 235) (by decide +kernel) rfl
theorem d_Rod_plan_66 : decode b_Rod_plan 66 = .ok (.iload 4, 2) := dc_21 (a := 4) (by decide +kernel) rfl
theorem d_Rod_plan_68 : decode b_Rod_plan 68 = .ok (.ifCond .ne 12, 3) := dc_154 (a := 0) (b := 12) (by decide +kernel) rfl
theorem d_Rod_plan_71 : decode b_Rod_plan 71 = .ok (.aload_n 0, 1) := dc_42 (by decide +kernel)
theorem d_Rod_plan_72 : decode b_Rod_plan 72 = .ok (.getfield 49, 3) := dc_180 (a := 0) (b := 49) (by decide +kernel) rfl
theorem d_Rod_plan_75 : decode b_Rod_plan 75 = .ok (.invokevirtual 238, 3) := dc_182 (a := 0) (b := 238) (by decide +kernel) rfl
theorem d_Rod_plan_78 : decode b_Rod_plan 78 = .ok (.i2l, 1) := dc_133 (by decide +kernel)
theorem d_Rod_plan_79 : decode b_Rod_plan 79 = .ok (.lreturn, 1) := dc_173 (by decide +kernel)
theorem d_Rod_plan_80 : decode b_Rod_plan 80 = .ok (.iload 4, 2) := dc_21 (a := 4) (by decide +kernel) rfl
theorem d_Rod_plan_82 : decode b_Rod_plan 82 = .ok (.iconst 1, 1) := dc_4 (by decide +kernel)
theorem d_Rod_plan_83 : decode b_Rod_plan 83 = .ok (.if_icmp .ne 12, 3) := dc_160 (a := 0) (b := 12) (by decide +kernel) rfl
theorem d_Rod_plan_86 : decode b_Rod_plan 86 = .ok (.aload_n 0, 1) := dc_42 (by decide +kernel)
theorem d_Rod_plan_87 : decode b_Rod_plan 87 = .ok (.getfield 49, 3) := dc_180 (a := 0) (b := 49) (by decide +kernel) rfl
theorem d_Rod_plan_90 : decode b_Rod_plan 90 = .ok (.invokevirtual 241, 3) := dc_182 (a := 0) (b := 241) (by decide +kernel) rfl
theorem d_Rod_plan_93 : decode b_Rod_plan 93 = .ok (.i2l, 1) := dc_133 (by decide +kernel)
theorem d_Rod_plan_94 : decode b_Rod_plan 94 = .ok (.lreturn, 1) := dc_173 (by decide +kernel)
theorem d_Rod_plan_95 : decode b_Rod_plan 95 = .ok (.iload 4, 2) := dc_21 (a := 4) (by decide +kernel) rfl
theorem d_Rod_plan_97 : decode b_Rod_plan 97 = .ok (.bipush 10, 2) := dc_16 (a := 10) (by decide +kernel) rfl
theorem d_Rod_plan_99 : decode b_Rod_plan 99 = .ok (.isub, 1) := dc_100 (by decide +kernel)
theorem d_Rod_plan_100 : decode b_Rod_plan 100 = .ok (.aload_n 0, 1) := dc_42 (by decide +kernel)
theorem d_Rod_plan_101 : decode b_Rod_plan 101 = .ok (.getfield 49, 3) := dc_180 (a := 0) (b := 49) (by decide +kernel) rfl
theorem d_Rod_plan_104 : decode b_Rod_plan 104 = .ok (.getfield 244, 3) := dc_180 (a := 0) (b := 244) (by decide +kernel) rfl
theorem d_Rod_plan_107 : decode b_Rod_plan 107 = .ok (.if_icmp .ge 20, 3) := dc_162 (a := 0) (b := 20) (by decide +kernel) rfl
theorem d_Rod_plan_110 : decode b_Rod_plan 110 = .ok (.aload_n 0, 1) := dc_42 (by decide +kernel)
theorem d_Rod_plan_111 : decode b_Rod_plan 111 = .ok (.getfield 49, 3) := dc_180 (a := 0) (b := 49) (by decide +kernel) rfl
theorem d_Rod_plan_114 : decode b_Rod_plan 114 = .ok (.getfield 245, 3) := dc_180 (a := 0) (b := 245) (by decide +kernel) rfl
theorem d_Rod_plan_117 : decode b_Rod_plan 117 = .ok (.iload 4, 2) := dc_21 (a := 4) (by decide +kernel) rfl
theorem d_Rod_plan_119 : decode b_Rod_plan 119 = .ok (.bipush 10, 2) := dc_16 (a := 10) (by decide +kernel) rfl
theorem d_Rod_plan_121 : decode b_Rod_plan 121 = .ok (.isub, 1) := dc_100 (by decide +kernel)
theorem d_Rod_plan_122 : decode b_Rod_plan 122 = .ok (.iaload, 1) := dc_46 (by decide +kernel)
theorem d_Rod_plan_123 : decode b_Rod_plan 123 = .ok (.i2l, 1) := dc_133 (by decide +kernel)
theorem d_Rod_plan_124 : decode b_Rod_plan 124 = .ok (.goto 6, 3) := dc_167 (a := 0) (b := 6) (by decide +kernel) rfl
theorem d_Rod_plan_127 : decode b_Rod_plan 127 = .ok (.ldc2_w 248, 3) := dc_20 (a := 0) (b := 248) (by decide +kernel) rfl
theorem d_Rod_plan_130 : decode b_Rod_plan 130 = .ok (.lreturn, 1) := dc_173 (by decide +kernel)
def S_Rod_plan : List (Nat × Option Nat) := [(102, some 1), (102, some 2), (103, none)]
abbrev q_Rod_plan (h : Hp) (o : Int32) (oZ : Int) (d : Int32) (dZ : Int) (n : Int32) (nZ : Int) (a : Int32) (aZ : Int) : Option Value → Hp → Prop := pLng (fun r h' => Inv h' ∧ fr S_Rod_plan h h')
set_option maxRecDepth 100000 in
theorem c_Rod_plan (h : Hp) (hI : Inv h) (o : Int32) (oZ : Int) (oE : o.toInt = oZ) (d : Int32) (dZ : Int) (dE : d.toInt = dZ) (n : Int32) (nZ : Int) (nE : n.toInt = nZ) (a : Int32) (aZ : Int) (aE : a.toInt = aZ) : Ct y_Rod_plan b_Rod_plan 5 (some .long) 3 76 [.ref 85, .int o, .int d, .int n, .int a] h (q_Rod_plan h o oZ d dZ n nZ a aZ) := by
  refine ct_ow R_Rod [some (.ref 85), some (.int o), some (.int d), some (.int n), some (.int a)] rfl (by decide) rfl (Nat.le_of_ble_eq_true rfl) ?_
  have f0 : fr S_Rod_plan h h := fr_rf
  have aB := And.intro (ti_lo a) (ti_hi a)
  rw [aE] at aB
  refine V_iload_n 1 d_Rod_plan_0 rfl rfl ?_
  refine N_callSI [.int o] [] cs_Rod_151 d_Rod_plan_1 rfl (Nat.le_of_ble_eq_true rfl) (by decide) (by decide) (c_Rod_isOwner h o oZ oE) (fun z1 h2 z1Z z1E p3 => ?_)
  obtain ⟨eh2, p3⟩ := p3
  subst eh2
  refine V_if_eq 23 z1E d_Rod_plan_4 (by decide) (fun c4 => ?_) (fun c4 => ?_)
  ·
    refine V_ldc2 d_Rod_plan_23 wl_Rod_233 ?_
    exact V_lret rfl d_Rod_plan_26 ⟨(-1), rfl, ⟨hI, f0⟩⟩
  ·
    refine V_iload_n 2 d_Rod_plan_7 rfl rfl ?_
    refine N_callSI [.int d] [] cs_Rod_230 d_Rod_plan_8 rfl (Nat.le_of_ble_eq_true rfl) (by decide) (by decide) (c_Rod_isDepth h d dZ dE) (fun z5 h6 z5Z z5E p7 => ?_)
    obtain ⟨eh6, p7⟩ := p7
    subst eh6
    refine V_if_eq 23 z5E d_Rod_plan_11 (by decide) (fun c8 => ?_) (fun c8 => ?_)
    ·
      refine V_ldc2 d_Rod_plan_23 wl_Rod_233 ?_
      exact V_lret rfl d_Rod_plan_26 ⟨(-1), rfl, ⟨hI, f0⟩⟩
    ·
      refine V_iload_n 3 d_Rod_plan_14 rfl rfl ?_
      refine V_if_lt 23 nE d_Rod_plan_15 (by decide) (fun c9 => ?_) (fun c9 => ?_)
      ·
        refine V_ldc2 d_Rod_plan_23 wl_Rod_233 ?_
        exact V_lret rfl d_Rod_plan_26 ⟨(-1), rfl, ⟨hI, f0⟩⟩
      ·
        refine V_iload_n 3 d_Rod_plan_18 rfl rfl ?_
        refine V_iconst 4 d_Rod_plan_19 (by decide) ?_
        refine V_icmp_le 27 nE tc_4 d_Rod_plan_20 (by decide) (fun c10 => ?_) (fun c10 => ?_)
        ·
          refine V_iload d_Rod_plan_27 rfl ?_
          refine V_if_eq 49 aE d_Rod_plan_29 (by decide) (fun c11 => ?_) (fun c11 => ?_)
          ·
            refine V_aload_n 0 d_Rod_plan_49 rfl rfl ?_
            refine V_getR fa_Rod_49 sk_85 rfl d_Rod_plan_50 ?_
            refine V_aload_n 0 d_Rod_plan_53 rfl rfl ?_
            refine V_getR fa_Rod_12 sk_85 rfl d_Rod_plan_54 ?_
            refine V_getR fa_Rod_91 sk_0 rfl d_Rod_plan_57 ?_
            refine V_iload_n 1 d_Rod_plan_60 rfl rfl ?_
            refine V_iload_n 2 d_Rod_plan_61 rfl rfl ?_
            refine V_iload_n 3 d_Rod_plan_62 rfl rfl ?_
            refine N_callVV [.ref 1, .int o, .int d, .int n] [] cv_Rod_235 sk_102 rfl d_Rod_plan_63 rfl (Nat.le_of_ble_eq_true rfl) (by decide) (by decide) (c_Plans_find h hI o oZ oE d dZ dE n nZ nE (by (first | decide +kernel | omega))) (fun h13 p14 => ?_)
            obtain ⟨hI15, fh13⟩ := p14
            have f16 : fr S_Rod_plan h h13 := fr_call f0 fh13 rfl
            refine V_iload d_Rod_plan_66 rfl ?_
            refine V_if_ne 80 aE d_Rod_plan_68 (by decide) (fun c17 => ?_) (fun c17 => ?_)
            ·
              refine V_iload d_Rod_plan_80 rfl ?_
              refine V_iconst 1 d_Rod_plan_82 (by decide) ?_
              refine V_icmp_ne 95 aE tc_1 d_Rod_plan_83 (by decide) (fun c18 => ?_) (fun c18 => ?_)
              ·
                refine V_iload d_Rod_plan_95 rfl ?_
                refine V_bipush 10 d_Rod_plan_97 (by decide) ?_
                refine V_isub aE tc_10 (by (first | decide +kernel | omega)) d_Rod_plan_99 (fun z19 z19e z19E => ?_)
                refine V_aload_n 0 d_Rod_plan_100 rfl rfl ?_
                refine V_getR fa_Rod_49 sk_85 rfl d_Rod_plan_101 ?_
                refine N_getI fa_Rod_244 sk_102 rfl d_Rod_plan_104 (fun z20 z20Z z20E z20e => ?_)
                have g21 : 0 ≤ z20Z ∧ z20Z ≤ 4 := inv_at hI15 z20E z20e rfl
                refine V_icmp_ge 127 z19E z20E d_Rod_plan_107 (by decide) (fun c22 => ?_) (fun c22 => ?_)
                ·
                  refine V_ldc2 d_Rod_plan_127 wl_Rod_248 ?_
                  exact V_lret rfl d_Rod_plan_130 ⟨(-4), rfl, ⟨hI15, f16⟩⟩
                ·
                  refine V_aload_n 0 d_Rod_plan_110 rfl rfl ?_
                  refine V_getR fa_Rod_49 sk_85 rfl d_Rod_plan_111 ?_
                  refine V_getR fa_Rod_245 sk_102 rfl d_Rod_plan_114 ?_
                  refine V_iload d_Rod_plan_117 rfl ?_
                  refine V_bipush 10 d_Rod_plan_119 (by decide) ?_
                  refine V_isub aE tc_10 (by (first | decide +kernel | omega)) d_Rod_plan_121 (fun z23 z23e z23E => ?_)
                  refine N_iald sk_103 z23E (by (first | decide +kernel | omega)) d_Rod_plan_122 (fun z24 z24Z z24E z24e => ?_)
                  refine V_i2l d_Rod_plan_123 (fun z25 z25e z25E => ?_)
                  have z25F : z25.toInt = z24Z := z25E.trans z24E
                  refine V_goto 130 d_Rod_plan_124 (by decide) ?_
                  exact V_lret rfl d_Rod_plan_130 ⟨z25, rfl, ⟨hI15, f16⟩⟩
              ·
                refine V_aload_n 0 d_Rod_plan_86 rfl rfl ?_
                refine V_getR fa_Rod_49 sk_85 rfl d_Rod_plan_87 ?_
                refine N_callVI [] [] cv_Rod_241 sk_102 rfl d_Rod_plan_90 rfl (Nat.le_of_ble_eq_true rfl) (by decide) (by decide) (c_Plans_meanBelow h13 hI15) (fun z26 h27 z26Z z26E p28 => ?_)
                subst p28
                refine V_i2l d_Rod_plan_93 (fun z29 z29e z29E => ?_)
                have z29F : z29.toInt = z26Z := z29E.trans z26E
                exact V_lret rfl d_Rod_plan_94 ⟨z29, rfl, ⟨hI15, f16⟩⟩
            ·
              refine V_aload_n 0 d_Rod_plan_71 rfl rfl ?_
              refine V_getR fa_Rod_49 sk_85 rfl d_Rod_plan_72 ?_
              refine N_callVI [] [] cv_Rod_238 sk_102 rfl d_Rod_plan_75 rfl (Nat.le_of_ble_eq_true rfl) (by decide) (by decide) (c_Plans_meanAbove h13 hI15) (fun z30 h31 z30Z z30E p32 => ?_)
              subst p32
              refine V_i2l d_Rod_plan_78 (fun z33 z33e z33E => ?_)
              have z33F : z33.toInt = z30Z := z33E.trans z30E
              exact V_lret rfl d_Rod_plan_79 ⟨z33, rfl, ⟨hI15, f16⟩⟩
          ·
            refine V_iload d_Rod_plan_32 rfl ?_
            refine V_iconst 1 d_Rod_plan_34 (by decide) ?_
            refine V_icmp_eq 49 aE tc_1 d_Rod_plan_35 (by decide) (fun c34 => ?_) (fun c34 => ?_)
            ·
              refine V_aload_n 0 d_Rod_plan_49 rfl rfl ?_
              refine V_getR fa_Rod_49 sk_85 rfl d_Rod_plan_50 ?_
              refine V_aload_n 0 d_Rod_plan_53 rfl rfl ?_
              refine V_getR fa_Rod_12 sk_85 rfl d_Rod_plan_54 ?_
              refine V_getR fa_Rod_91 sk_0 rfl d_Rod_plan_57 ?_
              refine V_iload_n 1 d_Rod_plan_60 rfl rfl ?_
              refine V_iload_n 2 d_Rod_plan_61 rfl rfl ?_
              refine V_iload_n 3 d_Rod_plan_62 rfl rfl ?_
              refine N_callVV [.ref 1, .int o, .int d, .int n] [] cv_Rod_235 sk_102 rfl d_Rod_plan_63 rfl (Nat.le_of_ble_eq_true rfl) (by decide) (by decide) (c_Plans_find h hI o oZ oE d dZ dE n nZ nE (by (first | decide +kernel | omega))) (fun h36 p37 => ?_)
              obtain ⟨hI38, fh36⟩ := p37
              have f39 : fr S_Rod_plan h h36 := fr_call f0 fh36 rfl
              refine V_iload d_Rod_plan_66 rfl ?_
              refine V_if_ne 80 aE d_Rod_plan_68 (by decide) (fun c40 => ?_) (fun c40 => ?_)
              ·
                refine V_iload d_Rod_plan_80 rfl ?_
                refine V_iconst 1 d_Rod_plan_82 (by decide) ?_
                refine V_icmp_ne 95 aE tc_1 d_Rod_plan_83 (by decide) (fun c41 => ?_) (fun c41 => ?_)
                ·
                  refine V_iload d_Rod_plan_95 rfl ?_
                  refine V_bipush 10 d_Rod_plan_97 (by decide) ?_
                  refine V_isub aE tc_10 (by (first | decide +kernel | omega)) d_Rod_plan_99 (fun z42 z42e z42E => ?_)
                  refine V_aload_n 0 d_Rod_plan_100 rfl rfl ?_
                  refine V_getR fa_Rod_49 sk_85 rfl d_Rod_plan_101 ?_
                  refine N_getI fa_Rod_244 sk_102 rfl d_Rod_plan_104 (fun z43 z43Z z43E z43e => ?_)
                  have g44 : 0 ≤ z43Z ∧ z43Z ≤ 4 := inv_at hI38 z43E z43e rfl
                  refine V_icmp_ge 127 z42E z43E d_Rod_plan_107 (by decide) (fun c45 => ?_) (fun c45 => ?_)
                  ·
                    refine V_ldc2 d_Rod_plan_127 wl_Rod_248 ?_
                    exact V_lret rfl d_Rod_plan_130 ⟨(-4), rfl, ⟨hI38, f39⟩⟩
                  ·
                    refine V_aload_n 0 d_Rod_plan_110 rfl rfl ?_
                    refine V_getR fa_Rod_49 sk_85 rfl d_Rod_plan_111 ?_
                    refine V_getR fa_Rod_245 sk_102 rfl d_Rod_plan_114 ?_
                    refine V_iload d_Rod_plan_117 rfl ?_
                    refine V_bipush 10 d_Rod_plan_119 (by decide) ?_
                    refine V_isub aE tc_10 (by (first | decide +kernel | omega)) d_Rod_plan_121 (fun z46 z46e z46E => ?_)
                    refine N_iald sk_103 z46E (by (first | decide +kernel | omega)) d_Rod_plan_122 (fun z47 z47Z z47E z47e => ?_)
                    refine V_i2l d_Rod_plan_123 (fun z48 z48e z48E => ?_)
                    have z48F : z48.toInt = z47Z := z48E.trans z47E
                    refine V_goto 130 d_Rod_plan_124 (by decide) ?_
                    exact V_lret rfl d_Rod_plan_130 ⟨z48, rfl, ⟨hI38, f39⟩⟩
                ·
                  refine V_aload_n 0 d_Rod_plan_86 rfl rfl ?_
                  refine V_getR fa_Rod_49 sk_85 rfl d_Rod_plan_87 ?_
                  refine N_callVI [] [] cv_Rod_241 sk_102 rfl d_Rod_plan_90 rfl (Nat.le_of_ble_eq_true rfl) (by decide) (by decide) (c_Plans_meanBelow h36 hI38) (fun z49 h50 z49Z z49E p51 => ?_)
                  subst p51
                  refine V_i2l d_Rod_plan_93 (fun z52 z52e z52E => ?_)
                  have z52F : z52.toInt = z49Z := z52E.trans z49E
                  exact V_lret rfl d_Rod_plan_94 ⟨z52, rfl, ⟨hI38, f39⟩⟩
              ·
                refine V_aload_n 0 d_Rod_plan_71 rfl rfl ?_
                refine V_getR fa_Rod_49 sk_85 rfl d_Rod_plan_72 ?_
                refine N_callVI [] [] cv_Rod_238 sk_102 rfl d_Rod_plan_75 rfl (Nat.le_of_ble_eq_true rfl) (by decide) (by decide) (c_Plans_meanAbove h36 hI38) (fun z53 h54 z53Z z53E p55 => ?_)
                subst p55
                refine V_i2l d_Rod_plan_78 (fun z56 z56e z56E => ?_)
                have z56F : z56.toInt = z53Z := z56E.trans z53E
                exact V_lret rfl d_Rod_plan_79 ⟨z56, rfl, ⟨hI38, f39⟩⟩
            ·
              refine V_iload d_Rod_plan_38 rfl ?_
              refine V_bipush 10 d_Rod_plan_40 (by decide) ?_
              refine V_icmp_ge 49 aE tc_10 d_Rod_plan_42 (by decide) (fun c57 => ?_) (fun c57 => ?_)
              ·
                refine V_aload_n 0 d_Rod_plan_49 rfl rfl ?_
                refine V_getR fa_Rod_49 sk_85 rfl d_Rod_plan_50 ?_
                refine V_aload_n 0 d_Rod_plan_53 rfl rfl ?_
                refine V_getR fa_Rod_12 sk_85 rfl d_Rod_plan_54 ?_
                refine V_getR fa_Rod_91 sk_0 rfl d_Rod_plan_57 ?_
                refine V_iload_n 1 d_Rod_plan_60 rfl rfl ?_
                refine V_iload_n 2 d_Rod_plan_61 rfl rfl ?_
                refine V_iload_n 3 d_Rod_plan_62 rfl rfl ?_
                refine N_callVV [.ref 1, .int o, .int d, .int n] [] cv_Rod_235 sk_102 rfl d_Rod_plan_63 rfl (Nat.le_of_ble_eq_true rfl) (by decide) (by decide) (c_Plans_find h hI o oZ oE d dZ dE n nZ nE (by (first | decide +kernel | omega))) (fun h59 p60 => ?_)
                obtain ⟨hI61, fh59⟩ := p60
                have f62 : fr S_Rod_plan h h59 := fr_call f0 fh59 rfl
                refine V_iload d_Rod_plan_66 rfl ?_
                refine V_if_ne 80 aE d_Rod_plan_68 (by decide) (fun c63 => ?_) (fun c63 => ?_)
                ·
                  refine V_iload d_Rod_plan_80 rfl ?_
                  refine V_iconst 1 d_Rod_plan_82 (by decide) ?_
                  refine V_icmp_ne 95 aE tc_1 d_Rod_plan_83 (by decide) (fun c64 => ?_) (fun c64 => ?_)
                  ·
                    refine V_iload d_Rod_plan_95 rfl ?_
                    refine V_bipush 10 d_Rod_plan_97 (by decide) ?_
                    refine V_isub aE tc_10 (by (first | decide +kernel | omega)) d_Rod_plan_99 (fun z65 z65e z65E => ?_)
                    refine V_aload_n 0 d_Rod_plan_100 rfl rfl ?_
                    refine V_getR fa_Rod_49 sk_85 rfl d_Rod_plan_101 ?_
                    refine N_getI fa_Rod_244 sk_102 rfl d_Rod_plan_104 (fun z66 z66Z z66E z66e => ?_)
                    have g67 : 0 ≤ z66Z ∧ z66Z ≤ 4 := inv_at hI61 z66E z66e rfl
                    refine V_icmp_ge 127 z65E z66E d_Rod_plan_107 (by decide) (fun c68 => ?_) (fun c68 => ?_)
                    ·
                      refine V_ldc2 d_Rod_plan_127 wl_Rod_248 ?_
                      exact V_lret rfl d_Rod_plan_130 ⟨(-4), rfl, ⟨hI61, f62⟩⟩
                    ·
                      refine V_aload_n 0 d_Rod_plan_110 rfl rfl ?_
                      refine V_getR fa_Rod_49 sk_85 rfl d_Rod_plan_111 ?_
                      refine V_getR fa_Rod_245 sk_102 rfl d_Rod_plan_114 ?_
                      refine V_iload d_Rod_plan_117 rfl ?_
                      refine V_bipush 10 d_Rod_plan_119 (by decide) ?_
                      refine V_isub aE tc_10 (by (first | decide +kernel | omega)) d_Rod_plan_121 (fun z69 z69e z69E => ?_)
                      refine N_iald sk_103 z69E (by (first | decide +kernel | omega)) d_Rod_plan_122 (fun z70 z70Z z70E z70e => ?_)
                      refine V_i2l d_Rod_plan_123 (fun z71 z71e z71E => ?_)
                      have z71F : z71.toInt = z70Z := z71E.trans z70E
                      refine V_goto 130 d_Rod_plan_124 (by decide) ?_
                      exact V_lret rfl d_Rod_plan_130 ⟨z71, rfl, ⟨hI61, f62⟩⟩
                  ·
                    refine V_aload_n 0 d_Rod_plan_86 rfl rfl ?_
                    refine V_getR fa_Rod_49 sk_85 rfl d_Rod_plan_87 ?_
                    refine N_callVI [] [] cv_Rod_241 sk_102 rfl d_Rod_plan_90 rfl (Nat.le_of_ble_eq_true rfl) (by decide) (by decide) (c_Plans_meanBelow h59 hI61) (fun z72 h73 z72Z z72E p74 => ?_)
                    subst p74
                    refine V_i2l d_Rod_plan_93 (fun z75 z75e z75E => ?_)
                    have z75F : z75.toInt = z72Z := z75E.trans z72E
                    exact V_lret rfl d_Rod_plan_94 ⟨z75, rfl, ⟨hI61, f62⟩⟩
                ·
                  refine V_aload_n 0 d_Rod_plan_71 rfl rfl ?_
                  refine V_getR fa_Rod_49 sk_85 rfl d_Rod_plan_72 ?_
                  refine N_callVI [] [] cv_Rod_238 sk_102 rfl d_Rod_plan_75 rfl (Nat.le_of_ble_eq_true rfl) (by decide) (by decide) (c_Plans_meanAbove h59 hI61) (fun z76 h77 z76Z z76E p78 => ?_)
                  subst p78
                  refine V_i2l d_Rod_plan_78 (fun z79 z79e z79E => ?_)
                  have z79F : z79.toInt = z76Z := z79E.trans z76E
                  exact V_lret rfl d_Rod_plan_79 ⟨z79, rfl, ⟨hI61, f62⟩⟩
              ·
                refine V_ldc2 d_Rod_plan_45 wl_Rod_233 ?_
                exact V_lret rfl d_Rod_plan_48 ⟨(-1), rfl, ⟨hI, f0⟩⟩
        ·
          refine V_ldc2 d_Rod_plan_23 wl_Rod_233 ?_
          exact V_lret rfl d_Rod_plan_26 ⟨(-1), rfl, ⟨hI, f0⟩⟩
theorem d_Rod_beds_0 : decode b_Rod_beds 0 = .ok (.iload_n 1, 1) := dc_27 (by decide +kernel)
theorem d_Rod_beds_1 : decode b_Rod_beds 1 = .ok (.ifCond .lt 8, 3) := dc_155 (a := 0) (b := 8) (by decide +kernel) rfl
theorem d_Rod_beds_4 : decode b_Rod_beds 4 = .ok (.iload_n 1, 1) := dc_27 (by decide +kernel)
theorem d_Rod_beds_5 : decode b_Rod_beds 5 = .ok (.iconst 3, 1) := dc_6 (by decide +kernel)
theorem d_Rod_beds_6 : decode b_Rod_beds 6 = .ok (.if_icmp .le 5, 3) := dc_164 (a := 0) (b := 5) (by decide +kernel) rfl
theorem d_Rod_beds_9 : decode b_Rod_beds 9 = .ok (.iconst (-1), 1) := dc_2 (by decide +kernel)
theorem d_Rod_beds_10 : decode b_Rod_beds 10 = .ok (.ireturn, 1) := dc_172 (by decide +kernel)
theorem d_Rod_beds_11 : decode b_Rod_beds 11 = .ok (.aload_n 0, 1) := dc_42 (by decide +kernel)
theorem d_Rod_beds_12 : decode b_Rod_beds 12 = .ok (.getfield 56, 3) := dc_180 (a := 0) (b := 56) (by decide +kernel) rfl
theorem d_Rod_beds_15 : decode b_Rod_beds 15 = .ok (.aload_n 0, 1) := dc_42 (by decide +kernel)
theorem d_Rod_beds_16 : decode b_Rod_beds 16 = .ok (.getfield 12, 3) := dc_180 (a := 0) (b := 12) (by decide +kernel) rfl
theorem d_Rod_beds_19 : decode b_Rod_beds 19 = .ok (.getfield 91, 3) := dc_180 (a := 0) (b := 91) (by decide +kernel) rfl
theorem d_Rod_beds_22 : decode b_Rod_beds 22 = .ok (.invokevirtual 250, 3) := dc_182 (a := 0) (b := 250) (by decide +kernel) rfl
theorem d_Rod_beds_25 : decode b_Rod_beds 25 = .ok (.iload_n 1, 1) := dc_27 (by decide +kernel)
theorem d_Rod_beds_26 : decode b_Rod_beds 26 = .ok (.ifCond .ne 11, 3) := dc_154 (a := 0) (b := 11) (by decide +kernel) rfl
theorem d_Rod_beds_29 : decode b_Rod_beds 29 = .ok (.aload_n 0, 1) := dc_42 (by decide +kernel)
theorem d_Rod_beds_30 : decode b_Rod_beds 30 = .ok (.getfield 56, 3) := dc_180 (a := 0) (b := 56) (by decide +kernel) rfl
theorem d_Rod_beds_33 : decode b_Rod_beds 33 = .ok (.getfield 253, 3) := dc_180 (a := 0) (b := 253) (by decide +kernel) rfl
theorem d_Rod_beds_36 : decode b_Rod_beds 36 = .ok (.ireturn, 1) := dc_172 (by decide +kernel)
theorem d_Rod_beds_37 : decode b_Rod_beds 37 = .ok (.aload_n 0, 1) := dc_42 (by decide +kernel)
theorem d_Rod_beds_38 : decode b_Rod_beds 38 = .ok (.getfield 56, 3) := dc_180 (a := 0) (b := 56) (by decide +kernel) rfl
theorem d_Rod_beds_41 : decode b_Rod_beds 41 = .ok (.getfield 253, 3) := dc_180 (a := 0) (b := 253) (by decide +kernel) rfl
theorem d_Rod_beds_44 : decode b_Rod_beds 44 = .ok (.ifCond .ne 6, 3) := dc_154 (a := 0) (b := 6) (by decide +kernel) rfl
theorem d_Rod_beds_47 : decode b_Rod_beds 47 = .ok (.bipush (-4), 2) := dc_16 (a := 252) (by decide +kernel) rfl
theorem d_Rod_beds_49 : decode b_Rod_beds 49 = .ok (.ireturn, 1) := dc_172 (by decide +kernel)
theorem d_Rod_beds_50 : decode b_Rod_beds 50 = .ok (.iload_n 1, 1) := dc_27 (by decide +kernel)
theorem d_Rod_beds_51 : decode b_Rod_beds 51 = .ok (.lookupswitch 54 #[(1, 25), (2, 33)], 25) := by decide +kernel
theorem d_Rod_beds_76 : decode b_Rod_beds 76 = .ok (.aload_n 0, 1) := dc_42 (by decide +kernel)
theorem d_Rod_beds_77 : decode b_Rod_beds 77 = .ok (.getfield 56, 3) := dc_180 (a := 0) (b := 56) (by decide +kernel) rfl
theorem d_Rod_beds_80 : decode b_Rod_beds 80 = .ok (.getfield 256, 3) := dc_180 (a := 1) (b := 0) (by decide +kernel) rfl
theorem d_Rod_beds_83 : decode b_Rod_beds 83 = .ok (.ireturn, 1) := dc_172 (by decide +kernel)
theorem d_Rod_beds_84 : decode b_Rod_beds 84 = .ok (.aload_n 0, 1) := dc_42 (by decide +kernel)
theorem d_Rod_beds_85 : decode b_Rod_beds 85 = .ok (.getfield 12, 3) := dc_180 (a := 0) (b := 12) (by decide +kernel) rfl
theorem d_Rod_beds_88 : decode b_Rod_beds 88 = .ok (.getfield 91, 3) := dc_180 (a := 0) (b := 91) (by decide +kernel) rfl
theorem d_Rod_beds_91 : decode b_Rod_beds 91 = .ok (.invokevirtual 259, 3) := dc_182 (a := 1) (b := 3) (by decide +kernel) rfl
theorem d_Rod_beds_94 : decode b_Rod_beds 94 = .ok (.aload_n 0, 1) := dc_42 (by decide +kernel)
theorem d_Rod_beds_95 : decode b_Rod_beds 95 = .ok (.getfield 56, 3) := dc_180 (a := 0) (b := 56) (by decide +kernel) rfl
theorem d_Rod_beds_98 : decode b_Rod_beds 98 = .ok (.getfield 262, 3) := dc_180 (a := 1) (b := 6) (by decide +kernel) rfl
theorem d_Rod_beds_101 : decode b_Rod_beds 101 = .ok (.iconst (-1), 1) := dc_2 (by decide +kernel)
theorem d_Rod_beds_102 : decode b_Rod_beds 102 = .ok (.ixor, 1) := dc_130 (by decide +kernel)
theorem d_Rod_beds_103 : decode b_Rod_beds 103 = .ok (.iand, 1) := dc_126 (by decide +kernel)
theorem d_Rod_beds_104 : decode b_Rod_beds 104 = .ok (.ireturn, 1) := dc_172 (by decide +kernel)
theorem d_Rod_beds_105 : decode b_Rod_beds 105 = .ok (.aload_n 0, 1) := dc_42 (by decide +kernel)
theorem d_Rod_beds_106 : decode b_Rod_beds 106 = .ok (.getfield 56, 3) := dc_180 (a := 0) (b := 56) (by decide +kernel) rfl
theorem d_Rod_beds_109 : decode b_Rod_beds 109 = .ok (.getfield 265, 3) := dc_180 (a := 1) (b := 9) (by decide +kernel) rfl
theorem d_Rod_beds_112 : decode b_Rod_beds 112 = .ok (.ireturn, 1) := dc_172 (by decide +kernel)
theorem d_Rod_next_0 : decode b_Rod_next 0 = .ok (.iload_n 1, 1) := dc_27 (by decide +kernel)
theorem d_Rod_next_1 : decode b_Rod_next 1 = .ok (.invokestatic 230, 3) := dc_184 (a := 0) (b := 230) (by decide +kernel) rfl
theorem d_Rod_next_4 : decode b_Rod_next 4 = .ok (.ifCond .eq 12, 3) := dc_153 (a := 0) (b := 12) (by decide +kernel) rfl
theorem d_Rod_next_7 : decode b_Rod_next 7 = .ok (.iload_n 2, 1) := dc_28 (by decide +kernel)
theorem d_Rod_next_8 : decode b_Rod_next 8 = .ok (.ifCond .eq 10, 3) := dc_153 (a := 0) (b := 10) (by decide +kernel) rfl
theorem d_Rod_next_11 : decode b_Rod_next 11 = .ok (.iload_n 2, 1) := dc_28 (by decide +kernel)
theorem d_Rod_next_12 : decode b_Rod_next 12 = .ok (.iconst 1, 1) := dc_4 (by decide +kernel)
theorem d_Rod_next_13 : decode b_Rod_next 13 = .ok (.if_icmp .eq 5, 3) := dc_159 (a := 0) (b := 5) (by decide +kernel) rfl
theorem d_Rod_next_16 : decode b_Rod_next 16 = .ok (.iconst (-1), 1) := dc_2 (by decide +kernel)
theorem d_Rod_next_17 : decode b_Rod_next 17 = .ok (.ireturn, 1) := dc_172 (by decide +kernel)
theorem d_Rod_next_18 : decode b_Rod_next 18 = .ok (.aload_n 0, 1) := dc_42 (by decide +kernel)
theorem d_Rod_next_19 : decode b_Rod_next 19 = .ok (.getfield 56, 3) := dc_180 (a := 0) (b := 56) (by decide +kernel) rfl
theorem d_Rod_next_22 : decode b_Rod_next 22 = .ok (.aload_n 0, 1) := dc_42 (by decide +kernel)
theorem d_Rod_next_23 : decode b_Rod_next 23 = .ok (.getfield 12, 3) := dc_180 (a := 0) (b := 12) (by decide +kernel) rfl
theorem d_Rod_next_26 : decode b_Rod_next 26 = .ok (.getfield 91, 3) := dc_180 (a := 0) (b := 91) (by decide +kernel) rfl
theorem d_Rod_next_29 : decode b_Rod_next 29 = .ok (.invokevirtual 250, 3) := dc_182 (a := 0) (b := 250) (by decide +kernel) rfl
theorem d_Rod_next_32 : decode b_Rod_next 32 = .ok (.aload_n 0, 1) := dc_42 (by decide +kernel)
theorem d_Rod_next_33 : decode b_Rod_next 33 = .ok (.getfield 56, 3) := dc_180 (a := 0) (b := 56) (by decide +kernel) rfl
theorem d_Rod_next_36 : decode b_Rod_next 36 = .ok (.getfield 253, 3) := dc_180 (a := 0) (b := 253) (by decide +kernel) rfl
theorem d_Rod_next_39 : decode b_Rod_next 39 = .ok (.istore_n 3, 1) := dc_62 (by decide +kernel)
theorem d_Rod_next_40 : decode b_Rod_next 40 = .ok (.iload_n 3, 1) := dc_29 (by decide +kernel)
theorem d_Rod_next_41 : decode b_Rod_next 41 = .ok (.istore 4, 2) := dc_54 (a := 4) (by decide +kernel) rfl
theorem d_Rod_next_43 : decode b_Rod_next 43 = .ok (.bipush (-4), 2) := dc_16 (a := 252) (by decide +kernel) rfl
theorem d_Rod_next_45 : decode b_Rod_next 45 = .ok (.istore 5, 2) := dc_54 (a := 5) (by decide +kernel) rfl
theorem d_Rod_next_47 : decode b_Rod_next 47 = .ok (.iconst 0, 1) := dc_3 (by decide +kernel)
theorem d_Rod_next_48 : decode b_Rod_next 48 = .ok (.istore 6, 2) := dc_54 (a := 6) (by decide +kernel) rfl
theorem d_Rod_next_50 : decode b_Rod_next 50 = .ok (.iload 6, 2) := dc_21 (a := 6) (by decide +kernel) rfl
theorem d_Rod_next_52 : decode b_Rod_next 52 = .ok (.aload_n 0, 1) := dc_42 (by decide +kernel)
theorem d_Rod_next_53 : decode b_Rod_next 53 = .ok (.getfield 12, 3) := dc_180 (a := 0) (b := 12) (by decide +kernel) rfl
theorem d_Rod_next_56 : decode b_Rod_next 56 = .ok (.getfield 91, 3) := dc_180 (a := 0) (b := 91) (by decide +kernel) rfl
theorem d_Rod_next_59 : decode b_Rod_next 59 = .ok (.invokevirtual 204, 3) := dc_182 (a := 0) (b := 204) (by decide +kernel) rfl
theorem d_Rod_next_62 : decode b_Rod_next 62 = .ok (.if_icmp .ge 64, 3) := dc_162 (a := 0) (b := 64) (by decide +kernel) rfl
theorem d_Rod_next_65 : decode b_Rod_next 65 = .ok (.aload_n 0, 1) := dc_42 (by decide +kernel)
theorem d_Rod_next_66 : decode b_Rod_next 66 = .ok (.getfield 12, 3) := dc_180 (a := 0) (b := 12) (by decide +kernel) rfl
theorem d_Rod_next_69 : decode b_Rod_next 69 = .ok (.getfield 91, 3) := dc_180 (a := 0) (b := 91) (by decide +kernel) rfl
theorem d_Rod_next_72 : decode b_Rod_next 72 = .ok (.getfield 141, 3) := dc_180 (a := 0) (b := 141) (by decide +kernel) rfl
theorem d_Rod_next_75 : decode b_Rod_next 75 = .ok (.iload 6, 2) := dc_21 (a := 6) (by decide +kernel) rfl
theorem d_Rod_next_77 : decode b_Rod_next 77 = .ok (.iaload, 1) := dc_46 (by decide +kernel)
theorem d_Rod_next_78 : decode b_Rod_next 78 = .ok (.iload_n 1, 1) := dc_27 (by decide +kernel)
theorem d_Rod_next_79 : decode b_Rod_next 79 = .ok (.if_icmp .ge 41, 3) := dc_162 (a := 0) (b := 41) (by decide +kernel) rfl
theorem d_Rod_next_82 : decode b_Rod_next 82 = .ok (.aload_n 0, 1) := dc_42 (by decide +kernel)
theorem d_Rod_next_83 : decode b_Rod_next 83 = .ok (.getfield 56, 3) := dc_180 (a := 0) (b := 56) (by decide +kernel) rfl
theorem d_Rod_next_86 : decode b_Rod_next 86 = .ok (.iload 6, 2) := dc_21 (a := 6) (by decide +kernel) rfl
theorem d_Rod_next_88 : decode b_Rod_next 88 = .ok (.iload_n 1, 1) := dc_27 (by decide +kernel)
theorem d_Rod_next_89 : decode b_Rod_next 89 = .ok (.invokevirtual 268, 3) := dc_182 (a := 1) (b := 12) (by decide +kernel) rfl
theorem d_Rod_next_92 : decode b_Rod_next 92 = .ok (.istore 7, 2) := dc_54 (a := 7) (by decide +kernel) rfl
theorem d_Rod_next_94 : decode b_Rod_next 94 = .ok (.iload 7, 2) := dc_21 (a := 7) (by decide +kernel) rfl
theorem d_Rod_next_96 : decode b_Rod_next 96 = .ok (.iload_n 3, 1) := dc_29 (by decide +kernel)
theorem d_Rod_next_97 : decode b_Rod_next 97 = .ok (.iload 7, 2) := dc_21 (a := 7) (by decide +kernel) rfl
theorem d_Rod_next_99 : decode b_Rod_next 99 = .ok (.isub, 1) := dc_100 (by decide +kernel)
theorem d_Rod_next_100 : decode b_Rod_next 100 = .ok (.invokestatic 211, 3) := dc_184 (a := 0) (b := 211) (by decide +kernel) rfl
theorem d_Rod_next_103 : decode b_Rod_next 103 = .ok (.istore 8, 2) := dc_54 (a := 8) (by decide +kernel) rfl
theorem d_Rod_next_105 : decode b_Rod_next 105 = .ok (.iload 8, 2) := dc_21 (a := 8) (by decide +kernel) rfl
theorem d_Rod_next_107 : decode b_Rod_next 107 = .ok (.iload 4, 2) := dc_21 (a := 4) (by decide +kernel) rfl
theorem d_Rod_next_109 : decode b_Rod_next 109 = .ok (.if_icmp .ge 11, 3) := dc_162 (a := 0) (b := 11) (by decide +kernel) rfl
theorem d_Rod_next_112 : decode b_Rod_next 112 = .ok (.iload 8, 2) := dc_21 (a := 8) (by decide +kernel) rfl
theorem d_Rod_next_114 : decode b_Rod_next 114 = .ok (.istore 4, 2) := dc_54 (a := 4) (by decide +kernel) rfl
theorem d_Rod_next_116 : decode b_Rod_next 116 = .ok (.iload 6, 2) := dc_21 (a := 6) (by decide +kernel) rfl
theorem d_Rod_next_118 : decode b_Rod_next 118 = .ok (.istore 5, 2) := dc_54 (a := 5) (by decide +kernel) rfl
theorem d_Rod_next_120 : decode b_Rod_next 120 = .ok (.iinc 6 1, 3) := dc_132 (a := 6) (b := 1) (by decide +kernel) rfl
theorem d_Rod_next_123 : decode b_Rod_next 123 = .ok (.goto (-73), 3) := dc_167 (a := 255) (b := 183) (by decide +kernel) rfl
theorem d_Rod_next_126 : decode b_Rod_next 126 = .ok (.iload 5, 2) := dc_21 (a := 5) (by decide +kernel) rfl
theorem d_Rod_next_128 : decode b_Rod_next 128 = .ok (.bipush (-4), 2) := dc_16 (a := 252) (by decide +kernel) rfl
theorem d_Rod_next_130 : decode b_Rod_next 130 = .ok (.if_icmp .eq 7, 3) := dc_159 (a := 0) (b := 7) (by decide +kernel) rfl
theorem d_Rod_next_133 : decode b_Rod_next 133 = .ok (.iload_n 2, 1) := dc_28 (by decide +kernel)
theorem d_Rod_next_134 : decode b_Rod_next 134 = .ok (.ifCond .ne 8, 3) := dc_154 (a := 0) (b := 8) (by decide +kernel) rfl
theorem d_Rod_next_137 : decode b_Rod_next 137 = .ok (.iload 5, 2) := dc_21 (a := 5) (by decide +kernel) rfl
theorem d_Rod_next_139 : decode b_Rod_next 139 = .ok (.goto 5, 3) := dc_167 (a := 0) (b := 5) (by decide +kernel) rfl
theorem d_Rod_next_142 : decode b_Rod_next 142 = .ok (.iload 4, 2) := dc_21 (a := 4) (by decide +kernel) rfl
theorem d_Rod_next_144 : decode b_Rod_next 144 = .ok (.ireturn, 1) := dc_172 (by decide +kernel)
theorem d_Rod_crash_0 : decode b_Rod_crash 0 = .ok (.iload_n 1, 1) := dc_27 (by decide +kernel)
theorem d_Rod_crash_1 : decode b_Rod_crash 1 = .ok (.ifCond .eq 24, 3) := dc_153 (a := 0) (b := 24) (by decide +kernel) rfl
theorem d_Rod_crash_4 : decode b_Rod_crash 4 = .ok (.iload_n 1, 1) := dc_27 (by decide +kernel)
theorem d_Rod_crash_5 : decode b_Rod_crash 5 = .ok (.iconst 1, 1) := dc_4 (by decide +kernel)
theorem d_Rod_crash_6 : decode b_Rod_crash 6 = .ok (.if_icmp .eq 19, 3) := dc_159 (a := 0) (b := 19) (by decide +kernel) rfl
theorem d_Rod_crash_9 : decode b_Rod_crash 9 = .ok (.iload_n 1, 1) := dc_27 (by decide +kernel)
theorem d_Rod_crash_10 : decode b_Rod_crash 10 = .ok (.bipush 10, 2) := dc_16 (a := 10) (by decide +kernel) rfl
theorem d_Rod_crash_12 : decode b_Rod_crash 12 = .ok (.if_icmp .lt 11, 3) := dc_161 (a := 0) (b := 11) (by decide +kernel) rfl
theorem d_Rod_crash_15 : decode b_Rod_crash 15 = .ok (.iload_n 1, 1) := dc_27 (by decide +kernel)
theorem d_Rod_crash_16 : decode b_Rod_crash 16 = .ok (.bipush 10, 2) := dc_16 (a := 10) (by decide +kernel) rfl
theorem d_Rod_crash_18 : decode b_Rod_crash 18 = .ok (.isub, 1) := dc_100 (by decide +kernel)
theorem d_Rod_crash_19 : decode b_Rod_crash 19 = .ok (.iconst 4, 1) := dc_7 (by decide +kernel)
theorem d_Rod_crash_20 : decode b_Rod_crash 20 = .ok (.if_icmp .lt 5, 3) := dc_161 (a := 0) (b := 5) (by decide +kernel) rfl
theorem d_Rod_crash_23 : decode b_Rod_crash 23 = .ok (.iconst (-1), 1) := dc_2 (by decide +kernel)
theorem d_Rod_crash_24 : decode b_Rod_crash 24 = .ok (.ireturn, 1) := dc_172 (by decide +kernel)
theorem d_Rod_crash_25 : decode b_Rod_crash 25 = .ok (.iconst 0, 1) := dc_3 (by decide +kernel)
theorem d_Rod_crash_26 : decode b_Rod_crash 26 = .ok (.istore_n 2, 1) := dc_61 (by decide +kernel)
theorem d_Rod_crash_27 : decode b_Rod_crash 27 = .ok (.iconst 0, 1) := dc_3 (by decide +kernel)
theorem d_Rod_crash_28 : decode b_Rod_crash 28 = .ok (.istore_n 3, 1) := dc_62 (by decide +kernel)
theorem d_Rod_crash_29 : decode b_Rod_crash 29 = .ok (.bipush (-4), 2) := dc_16 (a := 252) (by decide +kernel) rfl
theorem d_Rod_crash_31 : decode b_Rod_crash 31 = .ok (.istore 4, 2) := dc_54 (a := 4) (by decide +kernel) rfl
theorem d_Rod_crash_33 : decode b_Rod_crash 33 = .ok (.iconst 1, 1) := dc_4 (by decide +kernel)
theorem d_Rod_crash_34 : decode b_Rod_crash 34 = .ok (.istore 5, 2) := dc_54 (a := 5) (by decide +kernel) rfl
theorem d_Rod_crash_36 : decode b_Rod_crash 36 = .ok (.iload 5, 2) := dc_21 (a := 5) (by decide +kernel) rfl
theorem d_Rod_crash_38 : decode b_Rod_crash 38 = .ok (.iconst 4, 1) := dc_7 (by decide +kernel)
theorem d_Rod_crash_39 : decode b_Rod_crash 39 = .ok (.if_icmp .gt 61, 3) := dc_163 (a := 0) (b := 61) (by decide +kernel) rfl
theorem d_Rod_crash_42 : decode b_Rod_crash 42 = .ok (.aload_n 0, 1) := dc_42 (by decide +kernel)
theorem d_Rod_crash_43 : decode b_Rod_crash 43 = .ok (.getfield 12, 3) := dc_180 (a := 0) (b := 12) (by decide +kernel) rfl
theorem d_Rod_crash_46 : decode b_Rod_crash 46 = .ok (.getfield 115, 3) := dc_180 (a := 0) (b := 115) (by decide +kernel) rfl
theorem d_Rod_crash_49 : decode b_Rod_crash 49 = .ok (.iload_n 2, 1) := dc_28 (by decide +kernel)
theorem d_Rod_crash_50 : decode b_Rod_crash 50 = .ok (.invokevirtual 271, 3) := dc_182 (a := 1) (b := 15) (by decide +kernel) rfl
theorem d_Rod_crash_53 : decode b_Rod_crash 53 = .ok (.iload_n 2, 1) := dc_28 (by decide +kernel)
theorem d_Rod_crash_54 : decode b_Rod_crash 54 = .ok (.iconst (-1), 1) := dc_2 (by decide +kernel)
theorem d_Rod_crash_55 : decode b_Rod_crash 55 = .ok (.ixor, 1) := dc_130 (by decide +kernel)
theorem d_Rod_crash_56 : decode b_Rod_crash 56 = .ok (.iand, 1) := dc_126 (by decide +kernel)
theorem d_Rod_crash_57 : decode b_Rod_crash 57 = .ok (.istore 6, 2) := dc_54 (a := 6) (by decide +kernel) rfl
theorem d_Rod_crash_59 : decode b_Rod_crash 59 = .ok (.iload 6, 2) := dc_21 (a := 6) (by decide +kernel) rfl
theorem d_Rod_crash_61 : decode b_Rod_crash 61 = .ok (.ifCond .eq 33, 3) := dc_153 (a := 0) (b := 33) (by decide +kernel) rfl
theorem d_Rod_crash_64 : decode b_Rod_crash 64 = .ok (.iload 5, 2) := dc_21 (a := 5) (by decide +kernel) rfl
theorem d_Rod_crash_66 : decode b_Rod_crash 66 = .ok (.istore_n 3, 1) := dc_62 (by decide +kernel)
theorem d_Rod_crash_67 : decode b_Rod_crash 67 = .ok (.iload_n 2, 1) := dc_28 (by decide +kernel)
theorem d_Rod_crash_68 : decode b_Rod_crash 68 = .ok (.iload 6, 2) := dc_21 (a := 6) (by decide +kernel) rfl
theorem d_Rod_crash_70 : decode b_Rod_crash 70 = .ok (.ior, 1) := dc_128 (by decide +kernel)
theorem d_Rod_crash_71 : decode b_Rod_crash 71 = .ok (.istore_n 2, 1) := dc_61 (by decide +kernel)
theorem d_Rod_crash_72 : decode b_Rod_crash 72 = .ok (.iload_n 1, 1) := dc_27 (by decide +kernel)
theorem d_Rod_crash_73 : decode b_Rod_crash 73 = .ok (.bipush 10, 2) := dc_16 (a := 10) (by decide +kernel) rfl
theorem d_Rod_crash_75 : decode b_Rod_crash 75 = .ok (.if_icmp .lt 19, 3) := dc_161 (a := 0) (b := 19) (by decide +kernel) rfl
theorem d_Rod_crash_78 : decode b_Rod_crash 78 = .ok (.iload 6, 2) := dc_21 (a := 6) (by decide +kernel) rfl
theorem d_Rod_crash_80 : decode b_Rod_crash 80 = .ok (.iload_n 1, 1) := dc_27 (by decide +kernel)
theorem d_Rod_crash_81 : decode b_Rod_crash 81 = .ok (.bipush 10, 2) := dc_16 (a := 10) (by decide +kernel) rfl
theorem d_Rod_crash_83 : decode b_Rod_crash 83 = .ok (.isub, 1) := dc_100 (by decide +kernel)
theorem d_Rod_crash_84 : decode b_Rod_crash 84 = .ok (.ishr, 1) := dc_122 (by decide +kernel)
theorem d_Rod_crash_85 : decode b_Rod_crash 85 = .ok (.iconst 1, 1) := dc_4 (by decide +kernel)
theorem d_Rod_crash_86 : decode b_Rod_crash 86 = .ok (.iand, 1) := dc_126 (by decide +kernel)
theorem d_Rod_crash_87 : decode b_Rod_crash 87 = .ok (.ifCond .eq 7, 3) := dc_153 (a := 0) (b := 7) (by decide +kernel) rfl
theorem d_Rod_crash_90 : decode b_Rod_crash 90 = .ok (.iload 5, 2) := dc_21 (a := 5) (by decide +kernel) rfl
theorem d_Rod_crash_92 : decode b_Rod_crash 92 = .ok (.istore 4, 2) := dc_54 (a := 4) (by decide +kernel) rfl
theorem d_Rod_crash_94 : decode b_Rod_crash 94 = .ok (.iinc 5 1, 3) := dc_132 (a := 5) (b := 1) (by decide +kernel) rfl
theorem d_Rod_crash_97 : decode b_Rod_crash 97 = .ok (.goto (-61), 3) := dc_167 (a := 255) (b := 195) (by decide +kernel) rfl
theorem d_Rod_crash_100 : decode b_Rod_crash 100 = .ok (.iload_n 1, 1) := dc_27 (by decide +kernel)
theorem d_Rod_crash_101 : decode b_Rod_crash 101 = .ok (.bipush 10, 2) := dc_16 (a := 10) (by decide +kernel) rfl
theorem d_Rod_crash_103 : decode b_Rod_crash 103 = .ok (.if_icmp .lt 6, 3) := dc_161 (a := 0) (b := 6) (by decide +kernel) rfl
theorem d_Rod_crash_106 : decode b_Rod_crash 106 = .ok (.iload 4, 2) := dc_21 (a := 4) (by decide +kernel) rfl
theorem d_Rod_crash_108 : decode b_Rod_crash 108 = .ok (.ireturn, 1) := dc_172 (by decide +kernel)
theorem d_Rod_crash_109 : decode b_Rod_crash 109 = .ok (.iload_n 1, 1) := dc_27 (by decide +kernel)
theorem d_Rod_crash_110 : decode b_Rod_crash 110 = .ok (.ifCond .ne 7, 3) := dc_154 (a := 0) (b := 7) (by decide +kernel) rfl
theorem d_Rod_crash_113 : decode b_Rod_crash 113 = .ok (.iload_n 2, 1) := dc_28 (by decide +kernel)
theorem d_Rod_crash_114 : decode b_Rod_crash 114 = .ok (.goto 4, 3) := dc_167 (a := 0) (b := 4) (by decide +kernel) rfl
theorem d_Rod_crash_117 : decode b_Rod_crash 117 = .ok (.iload_n 3, 1) := dc_29 (by decide +kernel)
theorem d_Rod_crash_118 : decode b_Rod_crash 118 = .ok (.ireturn, 1) := dc_172 (by decide +kernel)
theorem d_Rod_save_0 : decode b_Rod_save 0 = .ok (.iload_n 1, 1) := dc_27 (by decide +kernel)
theorem d_Rod_save_1 : decode b_Rod_save 1 = .ok (.invokestatic 151, 3) := dc_184 (a := 0) (b := 151) (by decide +kernel) rfl
theorem d_Rod_save_4 : decode b_Rod_save 4 = .ok (.ifCond .ne 5, 3) := dc_154 (a := 0) (b := 5) (by decide +kernel) rfl
theorem d_Rod_save_7 : decode b_Rod_save 7 = .ok (.iconst (-1), 1) := dc_2 (by decide +kernel)
theorem d_Rod_save_8 : decode b_Rod_save 8 = .ok (.ireturn, 1) := dc_172 (by decide +kernel)
theorem d_Rod_save_9 : decode b_Rod_save 9 = .ok (.aload_n 0, 1) := dc_42 (by decide +kernel)
theorem d_Rod_save_10 : decode b_Rod_save 10 = .ok (.getfield 12, 3) := dc_180 (a := 0) (b := 12) (by decide +kernel) rfl
theorem d_Rod_save_13 : decode b_Rod_save 13 = .ok (.getfield 115, 3) := dc_180 (a := 0) (b := 115) (by decide +kernel) rfl
theorem d_Rod_save_16 : decode b_Rod_save 16 = .ok (.iconst 0, 1) := dc_3 (by decide +kernel)
theorem d_Rod_save_17 : decode b_Rod_save 17 = .ok (.invokevirtual 271, 3) := dc_182 (a := 1) (b := 15) (by decide +kernel) rfl
theorem d_Rod_save_20 : decode b_Rod_save 20 = .ok (.iconst 1, 1) := dc_4 (by decide +kernel)
theorem d_Rod_save_21 : decode b_Rod_save 21 = .ok (.iload_n 1, 1) := dc_27 (by decide +kernel)
theorem d_Rod_save_22 : decode b_Rod_save 22 = .ok (.ishl, 1) := dc_120 (by decide +kernel)
theorem d_Rod_save_23 : decode b_Rod_save 23 = .ok (.iconst (-1), 1) := dc_2 (by decide +kernel)
theorem d_Rod_save_24 : decode b_Rod_save 24 = .ok (.ixor, 1) := dc_130 (by decide +kernel)
theorem d_Rod_save_25 : decode b_Rod_save 25 = .ok (.iand, 1) := dc_126 (by decide +kernel)
theorem d_Rod_save_26 : decode b_Rod_save 26 = .ok (.ifCond .eq 6, 3) := dc_153 (a := 0) (b := 6) (by decide +kernel) rfl
theorem d_Rod_save_29 : decode b_Rod_save 29 = .ok (.bipush (-4), 2) := dc_16 (a := 252) (by decide +kernel) rfl
theorem d_Rod_save_31 : decode b_Rod_save 31 = .ok (.ireturn, 1) := dc_172 (by decide +kernel)
theorem d_Rod_save_32 : decode b_Rod_save 32 = .ok (.iconst 0, 1) := dc_3 (by decide +kernel)
theorem d_Rod_save_33 : decode b_Rod_save 33 = .ok (.aload_n 0, 1) := dc_42 (by decide +kernel)
theorem d_Rod_save_34 : decode b_Rod_save 34 = .ok (.getfield 12, 3) := dc_180 (a := 0) (b := 12) (by decide +kernel) rfl
theorem d_Rod_save_37 : decode b_Rod_save 37 = .ok (.getfield 115, 3) := dc_180 (a := 0) (b := 115) (by decide +kernel) rfl
theorem d_Rod_save_40 : decode b_Rod_save 40 = .ok (.iload_n 1, 1) := dc_27 (by decide +kernel)
theorem d_Rod_save_41 : decode b_Rod_save 41 = .ok (.iconst 0, 1) := dc_3 (by decide +kernel)
theorem d_Rod_save_42 : decode b_Rod_save 42 = .ok (.invokevirtual 274, 3) := dc_182 (a := 1) (b := 18) (by decide +kernel) rfl
theorem d_Rod_save_45 : decode b_Rod_save 45 = .ok (.invokestatic 211, 3) := dc_184 (a := 0) (b := 211) (by decide +kernel) rfl
theorem d_Rod_save_48 : decode b_Rod_save 48 = .ok (.ireturn, 1) := dc_172 (by decide +kernel)
theorem d_Rod_luck_0 : decode b_Rod_luck 0 = .ok (.iload_n 2, 1) := dc_28 (by decide +kernel)
theorem d_Rod_luck_1 : decode b_Rod_luck 1 = .ok (.iconst 1, 1) := dc_4 (by decide +kernel)
theorem d_Rod_luck_2 : decode b_Rod_luck 2 = .ok (.if_icmp .lt 9, 3) := dc_161 (a := 0) (b := 9) (by decide +kernel) rfl
theorem d_Rod_luck_5 : decode b_Rod_luck 5 = .ok (.iload_n 2, 1) := dc_28 (by decide +kernel)
theorem d_Rod_luck_6 : decode b_Rod_luck 6 = .ok (.bipush 60, 2) := dc_16 (a := 60) (by decide +kernel) rfl
theorem d_Rod_luck_8 : decode b_Rod_luck 8 = .ok (.if_icmp .le 5, 3) := dc_164 (a := 0) (b := 5) (by decide +kernel) rfl
theorem d_Rod_luck_11 : decode b_Rod_luck 11 = .ok (.iconst (-1), 1) := dc_2 (by decide +kernel)
theorem d_Rod_luck_12 : decode b_Rod_luck 12 = .ok (.ireturn, 1) := dc_172 (by decide +kernel)
theorem d_Rod_luck_13 : decode b_Rod_luck 13 = .ok (.aload_n 0, 1) := dc_42 (by decide +kernel)
theorem d_Rod_luck_14 : decode b_Rod_luck 14 = .ok (.getfield 16, 3) := dc_180 (a := 0) (b := 16) (by decide +kernel) rfl
theorem d_Rod_luck_17 : decode b_Rod_luck 17 = .ok (.aload_n 0, 1) := dc_42 (by decide +kernel)
theorem d_Rod_luck_18 : decode b_Rod_luck 18 = .ok (.getfield 12, 3) := dc_180 (a := 0) (b := 12) (by decide +kernel) rfl
theorem d_Rod_luck_21 : decode b_Rod_luck 21 = .ok (.invokevirtual 84, 3) := dc_182 (a := 0) (b := 84) (by decide +kernel) rfl
theorem d_Rod_luck_24 : decode b_Rod_luck 24 = .ok (.aload_n 0, 1) := dc_42 (by decide +kernel)
theorem d_Rod_luck_25 : decode b_Rod_luck 25 = .ok (.getfield 16, 3) := dc_180 (a := 0) (b := 16) (by decide +kernel) rfl
theorem d_Rod_luck_28 : decode b_Rod_luck 28 = .ok (.getfield 91, 3) := dc_180 (a := 0) (b := 91) (by decide +kernel) rfl
theorem d_Rod_luck_31 : decode b_Rod_luck 31 = .ok (.astore_n 3, 1) := dc_78 (by decide +kernel)
theorem d_Rod_luck_32 : decode b_Rod_luck 32 = .ok (.iconst 1, 1) := dc_4 (by decide +kernel)
theorem d_Rod_luck_33 : decode b_Rod_luck 33 = .ok (.aload_n 3, 1) := dc_45 (by decide +kernel)
theorem d_Rod_luck_34 : decode b_Rod_luck 34 = .ok (.invokevirtual 204, 3) := dc_182 (a := 0) (b := 204) (by decide +kernel) rfl
theorem d_Rod_luck_37 : decode b_Rod_luck 37 = .ok (.invokestatic 211, 3) := dc_184 (a := 0) (b := 211) (by decide +kernel) rfl
theorem d_Rod_luck_40 : decode b_Rod_luck 40 = .ok (.istore 4, 2) := dc_54 (a := 4) (by decide +kernel) rfl
theorem d_Rod_luck_42 : decode b_Rod_luck 42 = .ok (.iload_n 1, 1) := dc_27 (by decide +kernel)
theorem d_Rod_luck_43 : decode b_Rod_luck 43 = .ok (.istore 5, 2) := dc_54 (a := 5) (by decide +kernel) rfl
theorem d_Rod_luck_45 : decode b_Rod_luck 45 = .ok (.iconst 0, 1) := dc_3 (by decide +kernel)
theorem d_Rod_luck_46 : decode b_Rod_luck 46 = .ok (.istore 6, 2) := dc_54 (a := 6) (by decide +kernel) rfl
theorem d_Rod_luck_48 : decode b_Rod_luck 48 = .ok (.iload 6, 2) := dc_21 (a := 6) (by decide +kernel) rfl
theorem d_Rod_luck_50 : decode b_Rod_luck 50 = .ok (.iload_n 2, 1) := dc_28 (by decide +kernel)
theorem d_Rod_luck_51 : decode b_Rod_luck 51 = .ok (.if_icmp .ge 64, 3) := dc_162 (a := 0) (b := 64) (by decide +kernel) rfl
theorem d_Rod_luck_54 : decode b_Rod_luck 54 = .ok (.iload 5, 2) := dc_21 (a := 5) (by decide +kernel) rfl
theorem d_Rod_luck_56 : decode b_Rod_luck 56 = .ok (.invokestatic 277, 3) := dc_184 (a := 1) (b := 21) (by decide +kernel) rfl
theorem d_Rod_luck_59 : decode b_Rod_luck 59 = .ok (.istore 5, 2) := dc_54 (a := 5) (by decide +kernel) rfl
theorem d_Rod_luck_61 : decode b_Rod_luck 61 = .ok (.iload 5, 2) := dc_21 (a := 5) (by decide +kernel) rfl
theorem d_Rod_luck_63 : decode b_Rod_luck 63 = .ok (.invokestatic 280, 3) := dc_184 (a := 1) (b := 24) (by decide +kernel) rfl
theorem d_Rod_luck_66 : decode b_Rod_luck 66 = .ok (.iload 4, 2) := dc_21 (a := 4) (by decide +kernel) rfl
theorem d_Rod_luck_68 : decode b_Rod_luck 68 = .ok (.irem, 1) := dc_112 (by decide +kernel)
theorem d_Rod_luck_69 : decode b_Rod_luck 69 = .ok (.istore 7, 2) := dc_54 (a := 7) (by decide +kernel) rfl
theorem d_Rod_luck_71 : decode b_Rod_luck 71 = .ok (.iload 5, 2) := dc_21 (a := 5) (by decide +kernel) rfl
theorem d_Rod_luck_73 : decode b_Rod_luck 73 = .ok (.invokestatic 277, 3) := dc_184 (a := 1) (b := 21) (by decide +kernel) rfl
theorem d_Rod_luck_76 : decode b_Rod_luck 76 = .ok (.istore 5, 2) := dc_54 (a := 5) (by decide +kernel) rfl
theorem d_Rod_luck_78 : decode b_Rod_luck 78 = .ok (.iload 5, 2) := dc_21 (a := 5) (by decide +kernel) rfl
theorem d_Rod_luck_80 : decode b_Rod_luck 80 = .ok (.invokestatic 280, 3) := dc_184 (a := 1) (b := 24) (by decide +kernel) rfl
theorem d_Rod_luck_83 : decode b_Rod_luck 83 = .ok (.bipush 9, 2) := dc_16 (a := 9) (by decide +kernel) rfl
theorem d_Rod_luck_85 : decode b_Rod_luck 85 = .ok (.irem, 1) := dc_112 (by decide +kernel)
theorem d_Rod_luck_86 : decode b_Rod_luck 86 = .ok (.iconst 1, 1) := dc_4 (by decide +kernel)
theorem d_Rod_luck_87 : decode b_Rod_luck 87 = .ok (.iadd, 1) := dc_96 (by decide +kernel)
theorem d_Rod_luck_88 : decode b_Rod_luck 88 = .ok (.istore 8, 2) := dc_54 (a := 8) (by decide +kernel) rfl
theorem d_Rod_luck_90 : decode b_Rod_luck 90 = .ok (.aload_n 3, 1) := dc_45 (by decide +kernel)
theorem d_Rod_luck_91 : decode b_Rod_luck 91 = .ok (.getfield 141, 3) := dc_180 (a := 0) (b := 141) (by decide +kernel) rfl
theorem d_Rod_luck_94 : decode b_Rod_luck 94 = .ok (.iload 7, 2) := dc_21 (a := 7) (by decide +kernel) rfl
theorem d_Rod_luck_96 : decode b_Rod_luck 96 = .ok (.aload_n 3, 1) := dc_45 (by decide +kernel)
theorem d_Rod_luck_97 : decode b_Rod_luck 97 = .ok (.getfield 141, 3) := dc_180 (a := 0) (b := 141) (by decide +kernel) rfl
theorem d_Rod_luck_100 : decode b_Rod_luck 100 = .ok (.iload 7, 2) := dc_21 (a := 7) (by decide +kernel) rfl
theorem d_Rod_luck_102 : decode b_Rod_luck 102 = .ok (.iaload, 1) := dc_46 (by decide +kernel)
theorem d_Rod_luck_103 : decode b_Rod_luck 103 = .ok (.iload 8, 2) := dc_21 (a := 8) (by decide +kernel) rfl
theorem d_Rod_luck_105 : decode b_Rod_luck 105 = .ok (.invokestatic 211, 3) := dc_184 (a := 0) (b := 211) (by decide +kernel) rfl
theorem d_Rod_luck_108 : decode b_Rod_luck 108 = .ok (.iastore, 1) := dc_79 (by decide +kernel)
theorem d_Rod_luck_109 : decode b_Rod_luck 109 = .ok (.iinc 6 1, 3) := dc_132 (a := 6) (b := 1) (by decide +kernel) rfl
theorem d_Rod_luck_112 : decode b_Rod_luck 112 = .ok (.goto (-64), 3) := dc_167 (a := 255) (b := 192) (by decide +kernel) rfl
theorem d_Rod_luck_115 : decode b_Rod_luck 115 = .ok (.aload_n 3, 1) := dc_45 (by decide +kernel)
theorem d_Rod_luck_116 : decode b_Rod_luck 116 = .ok (.invokevirtual 168, 3) := dc_182 (a := 0) (b := 168) (by decide +kernel) rfl
theorem d_Rod_luck_119 : decode b_Rod_luck 119 = .ok (.ireturn, 1) := dc_172 (by decide +kernel)
theorem d_Rod_keep_0 : decode b_Rod_keep 0 = .ok (.iload_n 1, 1) := dc_27 (by decide +kernel)
theorem d_Rod_keep_1 : decode b_Rod_keep 1 = .ok (.ifCond .lt 8, 3) := dc_155 (a := 0) (b := 8) (by decide +kernel) rfl
theorem d_Rod_keep_4 : decode b_Rod_keep 4 = .ok (.iload_n 1, 1) := dc_27 (by decide +kernel)
theorem d_Rod_keep_5 : decode b_Rod_keep 5 = .ok (.iconst 2, 1) := dc_5 (by decide +kernel)
theorem d_Rod_keep_6 : decode b_Rod_keep 6 = .ok (.if_icmp .lt 5, 3) := dc_161 (a := 0) (b := 5) (by decide +kernel) rfl
theorem d_Rod_keep_9 : decode b_Rod_keep 9 = .ok (.iconst (-1), 1) := dc_2 (by decide +kernel)
theorem d_Rod_keep_10 : decode b_Rod_keep 10 = .ok (.ireturn, 1) := dc_172 (by decide +kernel)
theorem d_Rod_keep_11 : decode b_Rod_keep 11 = .ok (.aload_n 0, 1) := dc_42 (by decide +kernel)
theorem d_Rod_keep_12 : decode b_Rod_keep 12 = .ok (.getfield 23, 3) := dc_180 (a := 0) (b := 23) (by decide +kernel) rfl
theorem d_Rod_keep_15 : decode b_Rod_keep 15 = .ok (.iload_n 1, 1) := dc_27 (by decide +kernel)
theorem d_Rod_keep_16 : decode b_Rod_keep 16 = .ok (.baload, 1) := dc_51 (by decide +kernel)
theorem d_Rod_keep_17 : decode b_Rod_keep 17 = .ok (.invokestatic 147, 3) := dc_184 (a := 0) (b := 147) (by decide +kernel) rfl
theorem d_Rod_keep_20 : decode b_Rod_keep 20 = .ok (.istore_n 2, 1) := dc_61 (by decide +kernel)
theorem d_Rod_keep_21 : decode b_Rod_keep 21 = .ok (.aload_n 0, 1) := dc_42 (by decide +kernel)
theorem d_Rod_keep_22 : decode b_Rod_keep 22 = .ok (.getfield 19, 3) := dc_180 (a := 0) (b := 19) (by decide +kernel) rfl
theorem d_Rod_keep_25 : decode b_Rod_keep 25 = .ok (.iload_n 1, 1) := dc_27 (by decide +kernel)
theorem d_Rod_keep_26 : decode b_Rod_keep 26 = .ok (.aaload, 1) := dc_50 (by decide +kernel)
theorem d_Rod_keep_27 : decode b_Rod_keep 27 = .ok (.aload_n 0, 1) := dc_42 (by decide +kernel)
theorem d_Rod_keep_28 : decode b_Rod_keep 28 = .ok (.getfield 12, 3) := dc_180 (a := 0) (b := 12) (by decide +kernel) rfl
theorem d_Rod_keep_31 : decode b_Rod_keep 31 = .ok (.invokevirtual 84, 3) := dc_182 (a := 0) (b := 84) (by decide +kernel) rfl
theorem d_Rod_keep_34 : decode b_Rod_keep 34 = .ok (.aload_n 0, 1) := dc_42 (by decide +kernel)
theorem d_Rod_keep_35 : decode b_Rod_keep 35 = .ok (.getfield 23, 3) := dc_180 (a := 0) (b := 23) (by decide +kernel) rfl
theorem d_Rod_keep_38 : decode b_Rod_keep 38 = .ok (.iload_n 1, 1) := dc_27 (by decide +kernel)
theorem d_Rod_keep_39 : decode b_Rod_keep 39 = .ok (.iconst 1, 1) := dc_4 (by decide +kernel)
theorem d_Rod_keep_40 : decode b_Rod_keep 40 = .ok (.bastore, 1) := dc_84 (by decide +kernel)
theorem d_Rod_keep_41 : decode b_Rod_keep 41 = .ok (.iload_n 2, 1) := dc_28 (by decide +kernel)
theorem d_Rod_keep_42 : decode b_Rod_keep 42 = .ok (.ireturn, 1) := dc_172 (by decide +kernel)
theorem d_Rod_back_0 : decode b_Rod_back 0 = .ok (.iload_n 1, 1) := dc_27 (by decide +kernel)
theorem d_Rod_back_1 : decode b_Rod_back 1 = .ok (.ifCond .lt 8, 3) := dc_155 (a := 0) (b := 8) (by decide +kernel) rfl
theorem d_Rod_back_4 : decode b_Rod_back 4 = .ok (.iload_n 1, 1) := dc_27 (by decide +kernel)
theorem d_Rod_back_5 : decode b_Rod_back 5 = .ok (.iconst 2, 1) := dc_5 (by decide +kernel)
theorem d_Rod_back_6 : decode b_Rod_back 6 = .ok (.if_icmp .lt 5, 3) := dc_161 (a := 0) (b := 5) (by decide +kernel) rfl
theorem d_Rod_back_9 : decode b_Rod_back 9 = .ok (.iconst (-1), 1) := dc_2 (by decide +kernel)
theorem d_Rod_back_10 : decode b_Rod_back 10 = .ok (.ireturn, 1) := dc_172 (by decide +kernel)
theorem d_Rod_back_11 : decode b_Rod_back 11 = .ok (.aload_n 0, 1) := dc_42 (by decide +kernel)
theorem d_Rod_back_12 : decode b_Rod_back 12 = .ok (.getfield 23, 3) := dc_180 (a := 0) (b := 23) (by decide +kernel) rfl
theorem d_Rod_back_15 : decode b_Rod_back 15 = .ok (.iload_n 1, 1) := dc_27 (by decide +kernel)
theorem d_Rod_back_16 : decode b_Rod_back 16 = .ok (.baload, 1) := dc_51 (by decide +kernel)
theorem d_Rod_back_17 : decode b_Rod_back 17 = .ok (.ifCond .ne 6, 3) := dc_154 (a := 0) (b := 6) (by decide +kernel) rfl
theorem d_Rod_back_20 : decode b_Rod_back 20 = .ok (.bipush (-2), 2) := dc_16 (a := 254) (by decide +kernel) rfl
theorem d_Rod_back_22 : decode b_Rod_back 22 = .ok (.ireturn, 1) := dc_172 (by decide +kernel)
theorem d_Rod_back_23 : decode b_Rod_back 23 = .ok (.aload_n 0, 1) := dc_42 (by decide +kernel)
theorem d_Rod_back_24 : decode b_Rod_back 24 = .ok (.getfield 12, 3) := dc_180 (a := 0) (b := 12) (by decide +kernel) rfl
theorem d_Rod_back_27 : decode b_Rod_back 27 = .ok (.aload_n 0, 1) := dc_42 (by decide +kernel)
theorem d_Rod_back_28 : decode b_Rod_back 28 = .ok (.getfield 19, 3) := dc_180 (a := 0) (b := 19) (by decide +kernel) rfl
theorem d_Rod_back_31 : decode b_Rod_back 31 = .ok (.iload_n 1, 1) := dc_27 (by decide +kernel)
theorem d_Rod_back_32 : decode b_Rod_back 32 = .ok (.aaload, 1) := dc_50 (by decide +kernel)
theorem d_Rod_back_33 : decode b_Rod_back 33 = .ok (.invokevirtual 84, 3) := dc_182 (a := 0) (b := 84) (by decide +kernel) rfl
theorem d_Rod_back_36 : decode b_Rod_back 36 = .ok (.aload_n 0, 1) := dc_42 (by decide +kernel)
theorem d_Rod_back_37 : decode b_Rod_back 37 = .ok (.getfield 12, 3) := dc_180 (a := 0) (b := 12) (by decide +kernel) rfl
theorem d_Rod_back_40 : decode b_Rod_back 40 = .ok (.getfield 91, 3) := dc_180 (a := 0) (b := 91) (by decide +kernel) rfl
theorem d_Rod_back_43 : decode b_Rod_back 43 = .ok (.invokevirtual 168, 3) := dc_182 (a := 0) (b := 168) (by decide +kernel) rfl
theorem d_Rod_back_46 : decode b_Rod_back 46 = .ok (.ireturn, 1) := dc_172 (by decide +kernel)
theorem d_Rod_sheet_0 : decode b_Rod_sheet 0 = .ok (.iload_n 1, 1) := dc_27 (by decide +kernel)
theorem d_Rod_sheet_1 : decode b_Rod_sheet 1 = .ok (.invokestatic 283, 3) := dc_184 (a := 1) (b := 27) (by decide +kernel) rfl
theorem d_Rod_sheet_4 : decode b_Rod_sheet 4 = .ok (.ifCond .eq 16, 3) := dc_153 (a := 0) (b := 16) (by decide +kernel) rfl
theorem d_Rod_sheet_7 : decode b_Rod_sheet 7 = .ok (.iload_n 2, 1) := dc_28 (by decide +kernel)
theorem d_Rod_sheet_8 : decode b_Rod_sheet 8 = .ok (.invokestatic 286, 3) := dc_184 (a := 1) (b := 30) (by decide +kernel) rfl
theorem d_Rod_sheet_11 : decode b_Rod_sheet 11 = .ok (.ifCond .eq 9, 3) := dc_153 (a := 0) (b := 9) (by decide +kernel) rfl
theorem d_Rod_sheet_14 : decode b_Rod_sheet 14 = .ok (.iload_n 3, 1) := dc_29 (by decide +kernel)
theorem d_Rod_sheet_15 : decode b_Rod_sheet 15 = .ok (.bipush 40, 2) := dc_16 (a := 40) (by decide +kernel) rfl
theorem d_Rod_sheet_17 : decode b_Rod_sheet 17 = .ok (.if_icmp .le 5, 3) := dc_164 (a := 0) (b := 5) (by decide +kernel) rfl
theorem d_Rod_sheet_20 : decode b_Rod_sheet 20 = .ok (.iconst (-1), 1) := dc_2 (by decide +kernel)
theorem d_Rod_sheet_21 : decode b_Rod_sheet 21 = .ok (.ireturn, 1) := dc_172 (by decide +kernel)
theorem d_Rod_sheet_22 : decode b_Rod_sheet 22 = .ok (.iload_n 3, 1) := dc_29 (by decide +kernel)
theorem d_Rod_sheet_23 : decode b_Rod_sheet 23 = .ok (.ifCond .ge 6, 3) := dc_156 (a := 0) (b := 6) (by decide +kernel) rfl
theorem d_Rod_sheet_26 : decode b_Rod_sheet 26 = .ok (.bipush (-14), 2) := dc_16 (a := 242) (by decide +kernel) rfl
theorem d_Rod_sheet_28 : decode b_Rod_sheet 28 = .ok (.ireturn, 1) := dc_172 (by decide +kernel)
theorem d_Rod_sheet_29 : decode b_Rod_sheet 29 = .ok (.aload_n 0, 1) := dc_42 (by decide +kernel)
theorem d_Rod_sheet_30 : decode b_Rod_sheet 30 = .ok (.getfield 62, 3) := dc_180 (a := 0) (b := 62) (by decide +kernel) rfl
theorem d_Rod_sheet_33 : decode b_Rod_sheet 33 = .ok (.iload_n 1, 1) := dc_27 (by decide +kernel)
theorem d_Rod_sheet_34 : decode b_Rod_sheet 34 = .ok (.aaload, 1) := dc_50 (by decide +kernel)
theorem d_Rod_sheet_35 : decode b_Rod_sheet 35 = .ok (.iload_n 2, 1) := dc_28 (by decide +kernel)
theorem d_Rod_sheet_36 : decode b_Rod_sheet 36 = .ok (.iload_n 3, 1) := dc_29 (by decide +kernel)
theorem d_Rod_sheet_37 : decode b_Rod_sheet 37 = .ok (.invokevirtual 289, 3) := dc_182 (a := 1) (b := 33) (by decide +kernel) rfl
theorem d_Rod_sheet_40 : decode b_Rod_sheet 40 = .ok (.iconst 1, 1) := dc_4 (by decide +kernel)
theorem d_Rod_sheet_41 : decode b_Rod_sheet 41 = .ok (.ireturn, 1) := dc_172 (by decide +kernel)
theorem d_Rod_lay_0 : decode b_Rod_lay 0 = .ok (.iload_n 1, 1) := dc_27 (by decide +kernel)
theorem d_Rod_lay_1 : decode b_Rod_lay 1 = .ok (.invokestatic 283, 3) := dc_184 (a := 1) (b := 27) (by decide +kernel) rfl
theorem d_Rod_lay_4 : decode b_Rod_lay 4 = .ok (.ifCond .ne 5, 3) := dc_154 (a := 0) (b := 5) (by decide +kernel) rfl
theorem d_Rod_lay_7 : decode b_Rod_lay 7 = .ok (.iconst (-1), 1) := dc_2 (by decide +kernel)
theorem d_Rod_lay_8 : decode b_Rod_lay 8 = .ok (.ireturn, 1) := dc_172 (by decide +kernel)
theorem d_Rod_lay_9 : decode b_Rod_lay 9 = .ok (.aload_n 0, 1) := dc_42 (by decide +kernel)
theorem d_Rod_lay_10 : decode b_Rod_lay 10 = .ok (.getfield 62, 3) := dc_180 (a := 0) (b := 62) (by decide +kernel) rfl
theorem d_Rod_lay_13 : decode b_Rod_lay 13 = .ok (.iload_n 1, 1) := dc_27 (by decide +kernel)
theorem d_Rod_lay_14 : decode b_Rod_lay 14 = .ok (.aaload, 1) := dc_50 (by decide +kernel)
theorem d_Rod_lay_15 : decode b_Rod_lay 15 = .ok (.astore 4, 2) := dc_58 (a := 4) (by decide +kernel) rfl
theorem d_Rod_lay_17 : decode b_Rod_lay 17 = .ok (.aload 4, 2) := dc_25 (a := 4) (by decide +kernel) rfl
theorem d_Rod_lay_19 : decode b_Rod_lay 19 = .ok (.getfield 293, 3) := dc_180 (a := 1) (b := 37) (by decide +kernel) rfl
theorem d_Rod_lay_22 : decode b_Rod_lay 22 = .ok (.iconst (-1), 1) := dc_2 (by decide +kernel)
theorem d_Rod_lay_23 : decode b_Rod_lay 23 = .ok (.if_icmp .ne 6, 3) := dc_160 (a := 0) (b := 6) (by decide +kernel) rfl
theorem d_Rod_lay_26 : decode b_Rod_lay 26 = .ok (.bipush (-11), 2) := dc_16 (a := 245) (by decide +kernel) rfl
theorem d_Rod_lay_28 : decode b_Rod_lay 28 = .ok (.ireturn, 1) := dc_172 (by decide +kernel)
theorem d_Rod_lay_29 : decode b_Rod_lay 29 = .ok (.iload_n 2, 1) := dc_28 (by decide +kernel)
theorem d_Rod_lay_30 : decode b_Rod_lay 30 = .ok (.ifCond .lt 12, 3) := dc_155 (a := 0) (b := 12) (by decide +kernel) rfl
theorem d_Rod_lay_33 : decode b_Rod_lay 33 = .ok (.iload_n 2, 1) := dc_28 (by decide +kernel)
theorem d_Rod_lay_34 : decode b_Rod_lay 34 = .ok (.aload 4, 2) := dc_25 (a := 4) (by decide +kernel) rfl
theorem d_Rod_lay_36 : decode b_Rod_lay 36 = .ok (.getfield 296, 3) := dc_180 (a := 1) (b := 40) (by decide +kernel) rfl
theorem d_Rod_lay_39 : decode b_Rod_lay 39 = .ok (.if_icmp .lt 6, 3) := dc_161 (a := 0) (b := 6) (by decide +kernel) rfl
theorem d_Rod_lay_42 : decode b_Rod_lay 42 = .ok (.bipush (-12), 2) := dc_16 (a := 244) (by decide +kernel) rfl
theorem d_Rod_lay_44 : decode b_Rod_lay 44 = .ok (.ireturn, 1) := dc_172 (by decide +kernel)
theorem d_Rod_lay_45 : decode b_Rod_lay 45 = .ok (.aload 4, 2) := dc_25 (a := 4) (by decide +kernel) rfl
theorem d_Rod_lay_47 : decode b_Rod_lay 47 = .ok (.iload_n 2, 1) := dc_28 (by decide +kernel)
theorem d_Rod_lay_48 : decode b_Rod_lay 48 = .ok (.iload_n 3, 1) := dc_29 (by decide +kernel)
theorem d_Rod_lay_49 : decode b_Rod_lay 49 = .ok (.invokevirtual 297, 3) := dc_182 (a := 1) (b := 41) (by decide +kernel) rfl
theorem d_Rod_lay_52 : decode b_Rod_lay 52 = .ok (.iconst 1, 1) := dc_4 (by decide +kernel)
theorem d_Rod_lay_53 : decode b_Rod_lay 53 = .ok (.ireturn, 1) := dc_172 (by decide +kernel)
theorem d_Rod_read_0 : decode b_Rod_read 0 = .ok (.iload_n 1, 1) := dc_27 (by decide +kernel)
theorem d_Rod_read_1 : decode b_Rod_read 1 = .ok (.invokestatic 283, 3) := dc_184 (a := 1) (b := 27) (by decide +kernel) rfl
theorem d_Rod_read_4 : decode b_Rod_read 4 = .ok (.ifCond .eq 22, 3) := dc_153 (a := 0) (b := 22) (by decide +kernel) rfl
theorem d_Rod_read_7 : decode b_Rod_read 7 = .ok (.iload_n 2, 1) := dc_28 (by decide +kernel)
theorem d_Rod_read_8 : decode b_Rod_read 8 = .ok (.invokestatic 286, 3) := dc_184 (a := 1) (b := 30) (by decide +kernel) rfl
theorem d_Rod_read_11 : decode b_Rod_read 11 = .ok (.ifCond .eq 15, 3) := dc_153 (a := 0) (b := 15) (by decide +kernel) rfl
theorem d_Rod_read_14 : decode b_Rod_read 14 = .ok (.iload 4, 2) := dc_21 (a := 4) (by decide +kernel) rfl
theorem d_Rod_read_16 : decode b_Rod_read 16 = .ok (.ifCond .lt 10, 3) := dc_155 (a := 0) (b := 10) (by decide +kernel) rfl
theorem d_Rod_read_19 : decode b_Rod_read 19 = .ok (.iload 4, 2) := dc_21 (a := 4) (by decide +kernel) rfl
theorem d_Rod_read_21 : decode b_Rod_read 21 = .ok (.bipush 13, 2) := dc_16 (a := 13) (by decide +kernel) rfl
theorem d_Rod_read_23 : decode b_Rod_read 23 = .ok (.if_icmp .le 5, 3) := dc_164 (a := 0) (b := 5) (by decide +kernel) rfl
theorem d_Rod_read_26 : decode b_Rod_read 26 = .ok (.iconst (-1), 1) := dc_2 (by decide +kernel)
theorem d_Rod_read_27 : decode b_Rod_read 27 = .ok (.ireturn, 1) := dc_172 (by decide +kernel)
theorem d_Rod_read_28 : decode b_Rod_read 28 = .ok (.aload_n 0, 1) := dc_42 (by decide +kernel)
theorem d_Rod_read_29 : decode b_Rod_read 29 = .ok (.getfield 62, 3) := dc_180 (a := 0) (b := 62) (by decide +kernel) rfl
theorem d_Rod_read_32 : decode b_Rod_read 32 = .ok (.iload_n 1, 1) := dc_27 (by decide +kernel)
theorem d_Rod_read_33 : decode b_Rod_read 33 = .ok (.aaload, 1) := dc_50 (by decide +kernel)
theorem d_Rod_read_34 : decode b_Rod_read 34 = .ok (.astore 5, 2) := dc_58 (a := 5) (by decide +kernel) rfl
theorem d_Rod_read_36 : decode b_Rod_read 36 = .ok (.aload 5, 2) := dc_25 (a := 5) (by decide +kernel) rfl
theorem d_Rod_read_38 : decode b_Rod_read 38 = .ok (.iload_n 2, 1) := dc_28 (by decide +kernel)
theorem d_Rod_read_39 : decode b_Rod_read 39 = .ok (.iload_n 3, 1) := dc_29 (by decide +kernel)
theorem d_Rod_read_40 : decode b_Rod_read 40 = .ok (.iload 4, 2) := dc_21 (a := 4) (by decide +kernel) rfl
theorem d_Rod_read_42 : decode b_Rod_read 42 = .ok (.invokevirtual 300, 3) := dc_182 (a := 1) (b := 44) (by decide +kernel) rfl
theorem d_Rod_read_45 : decode b_Rod_read 45 = .ok (.istore 6, 2) := dc_54 (a := 6) (by decide +kernel) rfl
theorem d_Rod_read_47 : decode b_Rod_read 47 = .ok (.aload_n 0, 1) := dc_42 (by decide +kernel)
theorem d_Rod_read_48 : decode b_Rod_read 48 = .ok (.getfield 16, 3) := dc_180 (a := 0) (b := 16) (by decide +kernel) rfl
theorem d_Rod_read_51 : decode b_Rod_read 51 = .ok (.aload_n 0, 1) := dc_42 (by decide +kernel)
theorem d_Rod_read_52 : decode b_Rod_read 52 = .ok (.getfield 12, 3) := dc_180 (a := 0) (b := 12) (by decide +kernel) rfl
theorem d_Rod_read_55 : decode b_Rod_read 55 = .ok (.invokevirtual 84, 3) := dc_182 (a := 0) (b := 84) (by decide +kernel) rfl
theorem d_Rod_read_58 : decode b_Rod_read 58 = .ok (.iconst 0, 1) := dc_3 (by decide +kernel)
theorem d_Rod_read_59 : decode b_Rod_read 59 = .ok (.istore 7, 2) := dc_54 (a := 7) (by decide +kernel) rfl
theorem d_Rod_read_61 : decode b_Rod_read 61 = .ok (.iload 7, 2) := dc_21 (a := 7) (by decide +kernel) rfl
theorem d_Rod_read_63 : decode b_Rod_read 63 = .ok (.iload 6, 2) := dc_21 (a := 6) (by decide +kernel) rfl
theorem d_Rod_read_65 : decode b_Rod_read 65 = .ok (.if_icmp .ge 72, 3) := dc_162 (a := 0) (b := 72) (by decide +kernel) rfl
theorem d_Rod_read_68 : decode b_Rod_read 68 = .ok (.iload_n 3, 1) := dc_29 (by decide +kernel)
theorem d_Rod_read_69 : decode b_Rod_read 69 = .ok (.iconst 3, 1) := dc_6 (by decide +kernel)
theorem d_Rod_read_70 : decode b_Rod_read 70 = .ok (.iload 7, 2) := dc_21 (a := 7) (by decide +kernel) rfl
theorem d_Rod_read_72 : decode b_Rod_read 72 = .ok (.imul, 1) := dc_104 (by decide +kernel)
theorem d_Rod_read_73 : decode b_Rod_read 73 = .ok (.iadd, 1) := dc_96 (by decide +kernel)
theorem d_Rod_read_74 : decode b_Rod_read 74 = .ok (.istore 8, 2) := dc_54 (a := 8) (by decide +kernel) rfl
theorem d_Rod_read_76 : decode b_Rod_read 76 = .ok (.aload_n 0, 1) := dc_42 (by decide +kernel)
theorem d_Rod_read_77 : decode b_Rod_read 77 = .ok (.getfield 12, 3) := dc_180 (a := 0) (b := 12) (by decide +kernel) rfl
theorem d_Rod_read_80 : decode b_Rod_read 80 = .ok (.aload 5, 2) := dc_25 (a := 5) (by decide +kernel) rfl
theorem d_Rod_read_82 : decode b_Rod_read 82 = .ok (.getfield 303, 3) := dc_180 (a := 1) (b := 47) (by decide +kernel) rfl
theorem d_Rod_read_85 : decode b_Rod_read 85 = .ok (.iload 8, 2) := dc_21 (a := 8) (by decide +kernel) rfl
theorem d_Rod_read_87 : decode b_Rod_read 87 = .ok (.iaload, 1) := dc_46 (by decide +kernel)
theorem d_Rod_read_88 : decode b_Rod_read 88 = .ok (.aload 5, 2) := dc_25 (a := 5) (by decide +kernel) rfl
theorem d_Rod_read_90 : decode b_Rod_read 90 = .ok (.getfield 303, 3) := dc_180 (a := 1) (b := 47) (by decide +kernel) rfl
theorem d_Rod_read_93 : decode b_Rod_read 93 = .ok (.iload 8, 2) := dc_21 (a := 8) (by decide +kernel) rfl
theorem d_Rod_read_95 : decode b_Rod_read 95 = .ok (.iconst 1, 1) := dc_4 (by decide +kernel)
theorem d_Rod_read_96 : decode b_Rod_read 96 = .ok (.iadd, 1) := dc_96 (by decide +kernel)
theorem d_Rod_read_97 : decode b_Rod_read 97 = .ok (.iaload, 1) := dc_46 (by decide +kernel)
theorem d_Rod_read_98 : decode b_Rod_read 98 = .ok (.aload 5, 2) := dc_25 (a := 5) (by decide +kernel) rfl
theorem d_Rod_read_100 : decode b_Rod_read 100 = .ok (.getfield 303, 3) := dc_180 (a := 1) (b := 47) (by decide +kernel) rfl
theorem d_Rod_read_103 : decode b_Rod_read 103 = .ok (.iload 8, 2) := dc_21 (a := 8) (by decide +kernel) rfl
theorem d_Rod_read_105 : decode b_Rod_read 105 = .ok (.iconst 2, 1) := dc_5 (by decide +kernel)
theorem d_Rod_read_106 : decode b_Rod_read 106 = .ok (.iadd, 1) := dc_96 (by decide +kernel)
theorem d_Rod_read_107 : decode b_Rod_read 107 = .ok (.iaload, 1) := dc_46 (by decide +kernel)
theorem d_Rod_read_108 : decode b_Rod_read 108 = .ok (.invokevirtual 227, 3) := dc_182 (a := 0) (b := 227) (by decide +kernel) rfl
theorem d_Rod_read_111 : decode b_Rod_read 111 = .ok (.ifCond .ge 20, 3) := dc_156 (a := 0) (b := 20) (by decide +kernel) rfl
theorem d_Rod_read_114 : decode b_Rod_read 114 = .ok (.aload_n 0, 1) := dc_42 (by decide +kernel)
theorem d_Rod_read_115 : decode b_Rod_read 115 = .ok (.getfield 12, 3) := dc_180 (a := 0) (b := 12) (by decide +kernel) rfl
theorem d_Rod_read_118 : decode b_Rod_read 118 = .ok (.aload_n 0, 1) := dc_42 (by decide +kernel)
theorem d_Rod_read_119 : decode b_Rod_read 119 = .ok (.getfield 16, 3) := dc_180 (a := 0) (b := 16) (by decide +kernel) rfl
theorem d_Rod_read_122 : decode b_Rod_read 122 = .ok (.invokevirtual 84, 3) := dc_182 (a := 0) (b := 84) (by decide +kernel) rfl
theorem d_Rod_read_125 : decode b_Rod_read 125 = .ok (.bipush (-20), 2) := dc_16 (a := 236) (by decide +kernel) rfl
theorem d_Rod_read_127 : decode b_Rod_read 127 = .ok (.iload 7, 2) := dc_21 (a := 7) (by decide +kernel) rfl
theorem d_Rod_read_129 : decode b_Rod_read 129 = .ok (.isub, 1) := dc_100 (by decide +kernel)
theorem d_Rod_read_130 : decode b_Rod_read 130 = .ok (.ireturn, 1) := dc_172 (by decide +kernel)
theorem d_Rod_read_131 : decode b_Rod_read 131 = .ok (.iinc 7 1, 3) := dc_132 (a := 7) (b := 1) (by decide +kernel) rfl
theorem d_Rod_read_134 : decode b_Rod_read 134 = .ok (.goto (-73), 3) := dc_167 (a := 255) (b := 183) (by decide +kernel) rfl
theorem d_Rod_read_137 : decode b_Rod_read 137 = .ok (.aload_n 0, 1) := dc_42 (by decide +kernel)
theorem d_Rod_read_138 : decode b_Rod_read 138 = .ok (.aload 5, 2) := dc_25 (a := 5) (by decide +kernel) rfl
theorem d_Rod_read_140 : decode b_Rod_read 140 = .ok (.iload_n 2, 1) := dc_28 (by decide +kernel)
theorem d_Rod_read_141 : decode b_Rod_read 141 = .ok (.iload 4, 2) := dc_21 (a := 4) (by decide +kernel) rfl
theorem d_Rod_read_143 : decode b_Rod_read 143 = .ok (.iload 6, 2) := dc_21 (a := 6) (by decide +kernel) rfl
theorem d_Rod_read_145 : decode b_Rod_read 145 = .ok (.invokevirtual 306, 3) := dc_182 (a := 1) (b := 50) (by decide +kernel) rfl
theorem d_Rod_read_148 : decode b_Rod_read 148 = .ok (.putfield 309, 3) := dc_181 (a := 1) (b := 53) (by decide +kernel) rfl
theorem d_Rod_read_151 : decode b_Rod_read 151 = .ok (.iload 6, 2) := dc_21 (a := 6) (by decide +kernel) rfl
theorem d_Rod_read_153 : decode b_Rod_read 153 = .ok (.ireturn, 1) := dc_172 (by decide +kernel)
theorem d_Rod_torn_0 : decode b_Rod_torn 0 = .ok (.aload_n 0, 1) := dc_42 (by decide +kernel)
theorem d_Rod_torn_1 : decode b_Rod_torn 1 = .ok (.getfield 309, 3) := dc_180 (a := 1) (b := 53) (by decide +kernel) rfl
theorem d_Rod_torn_4 : decode b_Rod_torn 4 = .ok (.ireturn, 1) := dc_172 (by decide +kernel)
abbrev q_Rod_torn (h : Hp)  : Option Value → Hp → Prop := pInt (fun r h' => h = h')
set_option maxRecDepth 100000 in
theorem c_Rod_torn (h : Hp) (hI : Inv h) : Ct y_Rod_torn b_Rod_torn 1 (some .int) 0 0 [.ref 85] h (q_Rod_torn h ) := by
  refine ct_ow R_Rod [some (.ref 85)] rfl (by decide) rfl (Nat.le_of_ble_eq_true rfl) ?_
  have f0 : fr [] h h := fr_rf
  refine V_aload_n 0 d_Rod_torn_0 rfl rfl ?_
  refine N_getI fa_Rod_309 sk_85 rfl d_Rod_torn_1 (fun z1 z1Z z1E z1e => ?_)
  exact V_iret rfl d_Rod_torn_4 ⟨z1, rfl, rfl⟩
theorem d_Rod_count_0 : decode b_Rod_count 0 = .ok (.iload_n 1, 1) := dc_27 (by decide +kernel)
theorem d_Rod_count_1 : decode b_Rod_count 1 = .ok (.tableswitch 147 0 6 #[43, 54, 69, 80, 100, 108, 136], 43) := by decide +kernel
theorem d_Rod_count_44 : decode b_Rod_count 44 = .ok (.aload_n 0, 1) := dc_42 (by decide +kernel)
theorem d_Rod_count_45 : decode b_Rod_count 45 = .ok (.getfield 12, 3) := dc_180 (a := 0) (b := 12) (by decide +kernel) rfl
theorem d_Rod_count_48 : decode b_Rod_count 48 = .ok (.getfield 91, 3) := dc_180 (a := 0) (b := 91) (by decide +kernel) rfl
theorem d_Rod_count_51 : decode b_Rod_count 51 = .ok (.invokevirtual 168, 3) := dc_182 (a := 0) (b := 168) (by decide +kernel) rfl
theorem d_Rod_count_54 : decode b_Rod_count 54 = .ok (.ireturn, 1) := dc_172 (by decide +kernel)
theorem d_Rod_count_55 : decode b_Rod_count 55 = .ok (.aload_n 0, 1) := dc_42 (by decide +kernel)
theorem d_Rod_count_56 : decode b_Rod_count 56 = .ok (.getfield 12, 3) := dc_180 (a := 0) (b := 12) (by decide +kernel) rfl
theorem d_Rod_count_59 : decode b_Rod_count 59 = .ok (.getfield 91, 3) := dc_180 (a := 0) (b := 91) (by decide +kernel) rfl
theorem d_Rod_count_62 : decode b_Rod_count 62 = .ok (.iconst 1, 1) := dc_4 (by decide +kernel)
theorem d_Rod_count_63 : decode b_Rod_count 63 = .ok (.invokevirtual 312, 3) := dc_182 (a := 1) (b := 56) (by decide +kernel) rfl
theorem d_Rod_count_66 : decode b_Rod_count 66 = .ok (.invokestatic 199, 3) := dc_184 (a := 0) (b := 199) (by decide +kernel) rfl
theorem d_Rod_count_69 : decode b_Rod_count 69 = .ok (.ireturn, 1) := dc_172 (by decide +kernel)
theorem d_Rod_count_70 : decode b_Rod_count 70 = .ok (.aload_n 0, 1) := dc_42 (by decide +kernel)
theorem d_Rod_count_71 : decode b_Rod_count 71 = .ok (.getfield 12, 3) := dc_180 (a := 0) (b := 12) (by decide +kernel) rfl
theorem d_Rod_count_74 : decode b_Rod_count 74 = .ok (.getfield 178, 3) := dc_180 (a := 0) (b := 178) (by decide +kernel) rfl
theorem d_Rod_count_77 : decode b_Rod_count 77 = .ok (.getfield 182, 3) := dc_180 (a := 0) (b := 182) (by decide +kernel) rfl
theorem d_Rod_count_80 : decode b_Rod_count 80 = .ok (.ireturn, 1) := dc_172 (by decide +kernel)
theorem d_Rod_count_81 : decode b_Rod_count 81 = .ok (.aload_n 0, 1) := dc_42 (by decide +kernel)
theorem d_Rod_count_82 : decode b_Rod_count 82 = .ok (.getfield 23, 3) := dc_180 (a := 0) (b := 23) (by decide +kernel) rfl
theorem d_Rod_count_85 : decode b_Rod_count 85 = .ok (.iconst 0, 1) := dc_3 (by decide +kernel)
theorem d_Rod_count_86 : decode b_Rod_count 86 = .ok (.baload, 1) := dc_51 (by decide +kernel)
theorem d_Rod_count_87 : decode b_Rod_count 87 = .ok (.invokestatic 147, 3) := dc_184 (a := 0) (b := 147) (by decide +kernel) rfl
theorem d_Rod_count_90 : decode b_Rod_count 90 = .ok (.aload_n 0, 1) := dc_42 (by decide +kernel)
theorem d_Rod_count_91 : decode b_Rod_count 91 = .ok (.getfield 23, 3) := dc_180 (a := 0) (b := 23) (by decide +kernel) rfl
theorem d_Rod_count_94 : decode b_Rod_count 94 = .ok (.iconst 1, 1) := dc_4 (by decide +kernel)
theorem d_Rod_count_95 : decode b_Rod_count 95 = .ok (.baload, 1) := dc_51 (by decide +kernel)
theorem d_Rod_count_96 : decode b_Rod_count 96 = .ok (.invokestatic 147, 3) := dc_184 (a := 0) (b := 147) (by decide +kernel) rfl
theorem d_Rod_count_99 : decode b_Rod_count 99 = .ok (.iadd, 1) := dc_96 (by decide +kernel)
theorem d_Rod_count_100 : decode b_Rod_count 100 = .ok (.ireturn, 1) := dc_172 (by decide +kernel)
theorem d_Rod_count_101 : decode b_Rod_count 101 = .ok (.aload_n 0, 1) := dc_42 (by decide +kernel)
theorem d_Rod_count_102 : decode b_Rod_count 102 = .ok (.getfield 38, 3) := dc_180 (a := 0) (b := 38) (by decide +kernel) rfl
theorem d_Rod_count_105 : decode b_Rod_count 105 = .ok (.getfield 67, 3) := dc_180 (a := 0) (b := 67) (by decide +kernel) rfl
theorem d_Rod_count_108 : decode b_Rod_count 108 = .ok (.ireturn, 1) := dc_172 (by decide +kernel)
theorem d_Rod_count_109 : decode b_Rod_count 109 = .ok (.aload_n 0, 1) := dc_42 (by decide +kernel)
theorem d_Rod_count_110 : decode b_Rod_count 110 = .ok (.getfield 62, 3) := dc_180 (a := 0) (b := 62) (by decide +kernel) rfl
theorem d_Rod_count_113 : decode b_Rod_count 113 = .ok (.iconst 0, 1) := dc_3 (by decide +kernel)
theorem d_Rod_count_114 : decode b_Rod_count 114 = .ok (.aaload, 1) := dc_50 (by decide +kernel)
theorem d_Rod_count_115 : decode b_Rod_count 115 = .ok (.getfield 293, 3) := dc_180 (a := 1) (b := 37) (by decide +kernel) rfl
theorem d_Rod_count_118 : decode b_Rod_count 118 = .ok (.iconst (-1), 1) := dc_2 (by decide +kernel)
theorem d_Rod_count_119 : decode b_Rod_count 119 = .ok (.if_icmp .ne 8, 3) := dc_160 (a := 0) (b := 8) (by decide +kernel) rfl
theorem d_Rod_count_122 : decode b_Rod_count 122 = .ok (.bipush (-4), 2) := dc_16 (a := 252) (by decide +kernel) rfl
theorem d_Rod_count_124 : decode b_Rod_count 124 = .ok (.goto 12, 3) := dc_167 (a := 0) (b := 12) (by decide +kernel) rfl
theorem d_Rod_count_127 : decode b_Rod_count 127 = .ok (.aload_n 0, 1) := dc_42 (by decide +kernel)
theorem d_Rod_count_128 : decode b_Rod_count 128 = .ok (.getfield 62, 3) := dc_180 (a := 0) (b := 62) (by decide +kernel) rfl
theorem d_Rod_count_131 : decode b_Rod_count 131 = .ok (.iconst 0, 1) := dc_3 (by decide +kernel)
theorem d_Rod_count_132 : decode b_Rod_count 132 = .ok (.aaload, 1) := dc_50 (by decide +kernel)
theorem d_Rod_count_133 : decode b_Rod_count 133 = .ok (.getfield 296, 3) := dc_180 (a := 1) (b := 40) (by decide +kernel) rfl
theorem d_Rod_count_136 : decode b_Rod_count 136 = .ok (.ireturn, 1) := dc_172 (by decide +kernel)
theorem d_Rod_count_137 : decode b_Rod_count 137 = .ok (.aload_n 0, 1) := dc_42 (by decide +kernel)
theorem d_Rod_count_138 : decode b_Rod_count 138 = .ok (.getfield 12, 3) := dc_180 (a := 0) (b := 12) (by decide +kernel) rfl
theorem d_Rod_count_141 : decode b_Rod_count 141 = .ok (.getfield 115, 3) := dc_180 (a := 0) (b := 115) (by decide +kernel) rfl
theorem d_Rod_count_144 : decode b_Rod_count 144 = .ok (.invokevirtual 315, 3) := dc_182 (a := 1) (b := 59) (by decide +kernel) rfl
theorem d_Rod_count_147 : decode b_Rod_count 147 = .ok (.ireturn, 1) := dc_172 (by decide +kernel)
theorem d_Rod_count_148 : decode b_Rod_count 148 = .ok (.iconst (-1), 1) := dc_2 (by decide +kernel)
theorem d_Rod_count_149 : decode b_Rod_count 149 = .ok (.ireturn, 1) := dc_172 (by decide +kernel)
end
section
def va_AOA (t : FieldType) (U : State) : Prop := (Cond.arrayOver (.array t)).before #[] U = true
theorem va_AOA.of {t : FieldType} {A : Array Value} {U : State} (h : (Cond.arrayOver (.array t)).before A U = true) : va_AOA t U := h
theorem va_AOA.use {t : FieldType} {A : Array Value} {U : State} (h : va_AOA t U) : (Cond.arrayOver (.array t)).before A U = true := h
theorem va_AOA.moved {t : FieldType} {u U : State} (hvm : u.vm.Alike U.vm) (h : va_AOA t u) : va_AOA t U := by
  have h0 : (Cond.arrayOver (.array t)).before #[] u = true := h
  unfold Cond.before Cond.holds at h0
  simp only [Cond.value, beq_iff_eq] at h0
  cases hc : u.vm.findClass (FieldType.array t).toString with
  | none => simp [hc] at h0
  | some comp =>
    simp only [hc, Option.bind_some, Option.bind_eq_some_iff, Option.map_eq_some_iff] at h0
    obtain ⟨c, hi0, k, hk, hb⟩ := h0
    obtain ⟨k', hk', he⟩ := hvm.2.2 _ _ hk
    have hi : (U.vm.classes.findIdx? fun (x : Class) => match x.kind with | .array component _ => component == comp | _ => false) = some c := by
      have e1 := va_idx_bare U.vm comp
      have e2 := va_idx_bare u.vm comp
      have eb : U.vm.bare = u.vm.bare := by first | exact hvm.bare_eq | exact hvm.bare_eq.symm
      rw [eb] at e1
      exact (e1.symm.trans e2).trans hi0
    have f1 : U.vm.findClass (FieldType.array t).toString = some comp := by rw [hvm.findClass]; exact hc
    have hfc : ∀ n, U.vm.findClass n = u.vm.findClass n := fun n => hvm.findClass n none
    unfold va_AOA Cond.before Cond.holds
    simp only [Cond.value]
    rw [f1, Option.bind_some]
    refine (congrArg (fun o : Option Nat => (o.bind (fun c => (U.vm.classes[c]?).map fun (k : Class) => match k.kind with | .array _ ty => decide (ty = FieldType.array t) && decide (U.vm.findClass ("[" ++ (FieldType.array t).toString) = some c) | _ => false) == some true)) hi).trans ?_
    cases hkind : k.kind with
    | array component ty =>
      rw [hkind] at hb
      have hkind' : k'.kind = .array component ty := by rw [he]; exact hkind
      simp at hb
      simp [hk', hkind', hfc, hb.1, hb.2]
    | _ => rw [hkind] at hb; simp at hb
-- what follows is the printed block of the claim's NAMES.whole (new T[n][m]), pasted as it stands
/-- f, but v at every address of l -/
def vr_up {α : Type} (f : Nat → α) (l : List Nat) (v : α) : Nat → α := fun a => if a ∈ l then v else f a
theorem vr_up_in {α : Type} {f : Nat → α} {l : List Nat} {v : α} {a : Nat} (h : a ∈ l) : vr_up f l v a = v := if_pos h
theorem vr_up_ne {α : Type} {f : Nat → α} {l : List Nat} {v : α} {a : Nat} (h : a ∉ l) : vr_up f l v a = f a := if_neg h
theorem vr_rows {L l : List Nat} {f : Nat → va_E} {e : va_E} (h : ∀ a, a ∈ l → a ∉ L) : va_pl L f ++ l.map (fun a => (a, e)) = va_pl (L ++ l) (vr_up f l e) := by
  unfold va_pl
  rw [List.map_append]
  congr 1
  · apply List.map_congr_left
    intro a ha
    rw [vr_up_ne (fun q => h a q ha)]
  · apply List.map_congr_left
    intro a ha
    rw [vr_up_in ha]
theorem vr_lay {X rows : va_W} {x : Nat × va_E} {pl : va_W} {D : va_G} {cl : List vw_C} {H : Heap} (hP : va_P D cl (((X ++ pl) ++ [x]) ++ rows) H) : va_P D cl ((X ++ [x]) ++ (pl ++ rows)) H := by
  rw [List.append_assoc (X ++ pl)] at hP
  have h := va_P.swap hP
  rw [← List.append_assoc X] at h
  have h2 := va_P.swap h
  rw [List.append_assoc (X ++ [x])] at h2
  exact h2
theorem vr_layD {X rows : va_W} {x : Nat × va_E} {pl : va_W} {A : Nat → Prop} (hD : va_D A (((X ++ pl) ++ [x]) ++ rows)) : va_D A ((X ++ [x]) ++ (pl ++ rows)) := by
  rw [List.append_assoc (X ++ pl)] at hD
  have h := va_D.swap hD
  rw [← List.append_assoc X] at h
  have h2 := va_D.swap h
  rw [List.append_assoc (X ++ [x])] at h2
  exact h2
theorem vr_outer (c : ClassId) (N h0 : Nat) : ∀ i : Nat, Jvm.Free.Multi.outerC c N h0 i = arrV c N (fun j => va_rf (if j < i then some (h0 + 1 + j) else none))
  | 0 => by
    show ({ cls := c, slots := Array.replicate N .null, vm := .none } : Cell) = _
    rw [arrV_new]
    refine congrArg (arrV c N) (funext fun j => ?_)
    simp [va_rf]
  | i + 1 => by
    show (Jvm.Free.Multi.outerC c N h0 i).setSlot i (.ref (h0 + 1 + i)) = _
    rw [vr_outer c N h0 i, arrV_store]
    refine congrArg (arrV c N) (funext fun j => ?_)
    by_cases e : j = i
    · subst e
      simp [updV, va_rf]
    · by_cases h : j < i
      · simp [updV, e, h, Nat.lt_succ_of_lt h]
      · simp [updV, e, h, show ¬ j < i + 1 by (first | decide +kernel | omega)]
section VGM
variable {p : Program} {l : Launch} {e : Env} {R : Room} {s : State} {m : MethodId} {args : Array Value} {below : List Frame} {meth : Method} {c : Code} {H : Heap} {locs : List Loc} {cells slots : Nat} {Q : State → Prop}
variable {cc : ByteArray} {pc : Nat} {ls : Array Slot} {rest : List Value} {D : va_G} {cl : List vw_C} {A : Nat → Prop} {a : Nat} {tys : List (ClassId × FieldType)} {ws : va_W} {H0 : Heap}
theorem va_mna {X : va_W} {L : List Nat} {f : Nat → va_E} {cc : ByteArray} (hexec : p.tables.exec = Jvm.exec) (hb : c.code = cc) {own : String} {index : Nat} {ty : FieldType} {cy : ClassId} (hown : s.vm.findClass own = some m.cls) (hclink : (Cond.classLink own index ("[" ++ (FieldType.array ty).toString)).before args s = true) (hover : va_AOA ty s) (harr : (Cond.arrayClass ty).before args s = true) (hcy : s.vm.findClass (FieldType.array ty).toString = some cy)
    (hK : va_K D cl tys s) (hP : va_P D cl (X ++ va_pl L f) H) (hD : va_D A (X ++ va_pl L f)) (hS : va_S A H0 H locs) (hA : ∀ q, H0.size ≤ q → A q) {n k : Int32} {N' K' : Nat} {z : vp_A} (hn : ¬ n < 0) (hk : ¬ k < 0) (hN : n.toNatClampNeg = N') (hM : k.toNatClampNeg = K')
    (hb1 : N' * 4 ≤ 536870912) (hb2 : K' * componentBytes ty ≤ 536870912) (hb3 : K' ≤ 536870912) (hdf : fits ty (defaultValue ty) = true) (hdd : (defaultValue ty).isDefault = true) (hcells : cells + (1 + N') ≤ R.cells) (hslots : slots + (N' + N' * K') ≤ R.slots) (hz : ∀ c : ClassId, Jvm.Free.Multi.innerC c K' (defaultValue ty) = vp_cell c z) (hdg : decode cc pc = .ok (.multianewarray index 2, 4))
    (kk : ∀ (q : Nat) (r : Nat → Nat) (cA : ClassId) (H1 : Heap), (∀ i j : Nat, i < N' → j < N' → r i = r j → i = j) → (∀ i : Nat, i < N' → r i ∉ L) → va_K D cl (tys ++ [(cA, .array ty)]) s →
      va_P D cl ((X ++ [(q, .inl (cA, N', .inr (.inr (.inr (.inr (fun i => if i < N' then some (r i) else none))))))]) ++ va_pl (L ++ (List.range N').map r) (vr_up f ((List.range N').map r) (.inl (cy, z)))) H1 → va_D A ((X ++ [(q, .inl (cA, N', .inr (.inr (.inr (.inr (fun i => if i < N' then some (r i) else none))))))]) ++ va_pl (L ++ (List.range N').map r) (vr_up f ((List.range N').map r) (.inl (cy, z)))) → va_S A H0 H1 locs →
      W p l e R s m args below meth c H1 locs (cells + 1 + N') (slots + N' + N' * K') Q (F0 m (pc + 4) ls (.ref q :: rest))) : W p l e R s m args below meth c H locs cells slots Q (F0 m pc ls (.int k :: .int n :: rest)) := by
  subst hN
  subst hM
  intro T hT Xs
  obtain ⟨vm₁, cA, comp, -, fA, fC, hO, -, X', step⟩ := Xs.multianewarray2F hexec hown hclink (va_AOA.use hover) harr (g := F0 m pc ls (.int k :: .int n :: rest)) rfl (by rw [hb]; exact hdg) rfl hn hk hb1 hb2 hb3 hdf hdd hcells hslots
  have ec : some cy = some comp := hcy.symm.trans fC
  cases ec
  generalize hF : Jvm.Free.Multi.fill (T.setVm vm₁) cA cy n.toNatClampNeg k.toNatClampNeg (defaultValue ty) n.toNatClampNeg = F at X' step
  have hTh : (T.setVm vm₁).heap = H := hT
  obtain ⟨f1, f2, -, -⟩ := Jvm.Free.Multi.fill_facts (T.setVm vm₁) cA cy n.toNatClampNeg k.toNatClampNeg (defaultValue ty) n.toNatClampNeg
  rw [hF, hTh] at f1 f2
  have hold : ∀ x : Nat, x < H.size → F.heap[x]? = H[x]? := fun x hx => by
    have := Jvm.Free.Multi.fill_old (T.setVm vm₁) cA cy n.toNatClampNeg k.toNatClampNeg (defaultValue ty) (a := x) (by rw [hTh]; exact hx) n.toNatClampNeg
    rw [hF, hTh] at this
    exact this
  have hrow : ∀ j : Nat, j < n.toNatClampNeg → F.heap[H.size + 1 + j]? = some (vp_cell cy z) := fun j hj => by
    have := Jvm.Free.Multi.fill_inner (T.setVm vm₁) cA cy n.toNatClampNeg k.toNatClampNeg (defaultValue ty) n.toNatClampNeg j hj
    rw [hF, hTh, hz] at this
    exact this
  have hout : Jvm.Free.Multi.outerC cA n.toNatClampNeg H.size n.toNatClampNeg = vp_cell cA (n.toNatClampNeg, .inr (.inr (.inr (.inr (fun i => if i < n.toNatClampNeg then some (H.size + 1 + i) else none))))) := by
    rw [vp_cell_q]
    exact vr_outer cA n.toNatClampNeg H.size n.toNatClampNeg
  rw [hout] at f2
  have hlt : ∀ a, a ∈ L → a < H.size := fun a ha => by
    obtain ⟨k9, hk9⟩ := va_pl_get (X := X) (f := f) ha
    exact (hP k9 _ hk9).lt
  have hnl : ∀ i : Nat, i < n.toNatClampNeg → H.size + 1 + i ∉ L := fun i _ h => by
    have := hlt _ h
    omega
  have hnm : ∀ a, a ∈ (List.range n.toNatClampNeg).map (fun i => H.size + 1 + i) → a ∉ L := fun a ha h => by
    obtain ⟨i, -, rfl⟩ := List.mem_map.mp ha
    have := hlt _ h
    omega
  have hP0 : va_P D cl (X ++ va_pl L f) F.heap := hP.kept (fun k9 x hx => hold x.1 ((hP k9 x hx).lt))
  have hP1 : va_P D cl ((X ++ va_pl L f) ++ [(H.size, .inl (cA, n.toNatClampNeg, .inr (.inr (.inr (.inr (fun i => if i < n.toNatClampNeg then some (H.size + 1 + i) else none))))))]) F.heap := hP0.app (fun k9 x hx => by
    have h0 : k9 < 1 := (List.getElem?_eq_some_iff.mp hx).1
    rw [show k9 = 0 by (first | decide +kernel | omega)] at hx
    cases hx
    exact f2)
  have hP2 : va_P D cl (((X ++ va_pl L f) ++ [(H.size, .inl (cA, n.toNatClampNeg, .inr (.inr (.inr (.inr (fun i => if i < n.toNatClampNeg then some (H.size + 1 + i) else none))))))]) ++ ((List.range n.toNatClampNeg).map (fun i => H.size + 1 + i)).map (fun a => (a, .inl (cy, z)))) F.heap := hP1.app (fun k9 x hx => by
    obtain ⟨a, ha, rfl⟩ := List.mem_map.mp (List.mem_of_getElem? hx)
    obtain ⟨i, hi, rfl⟩ := List.mem_map.mp ha
    exact hrow i (List.mem_range.mp hi))
  have hD2 : va_D A (((X ++ va_pl L f) ++ [(H.size, .inl (cA, n.toNatClampNeg, .inr (.inr (.inr (.inr (fun i => if i < n.toNatClampNeg then some (H.size + 1 + i) else none))))))]) ++ ((List.range n.toNatClampNeg).map (fun i => H.size + 1 + i)).map (fun a => (a, .inl (cy, z)))) := by
    have hD1 := hD.push (e := .inl (cA, n.toNatClampNeg, .inr (.inr (.inr (.inr (fun i => if i < n.toNatClampNeg then some (H.size + 1 + i) else none)))))) hP rfl (hA _ hS.1)
    generalize hW1 : (X ++ va_pl L f) ++ [(H.size, .inl (cA, n.toNatClampNeg, .inr (.inr (.inr (.inr (fun i => if i < n.toNatClampNeg then some (H.size + 1 + i) else none))))))] = W1 at hD1 hP1 ⊢
    have hle : ∀ (k9 : Nat) (x : Nat × va_E), W1[k9]? = some x → x.1 ≤ H.size := fun k9 x hx => by
      rw [← hW1] at hx
      by_cases hl : k9 < (X ++ va_pl L f).length
      · rw [List.getElem?_append_left hl] at hx
        exact Nat.le_of_lt ((hP k9 x hx).lt)
      · rw [List.getElem?_append_right (by (first | decide +kernel | omega))] at hx
        have h0 : k9 - (X ++ va_pl L f).length < 1 := (List.getElem?_eq_some_iff.mp hx).1
        rw [show k9 - (X ++ va_pl L f).length = 0 by (first | decide +kernel | omega)] at hx
        cases hx
        exact Nat.le_refl _
    have hr : ∀ (k9 : Nat) (x : Nat × va_E), (((List.range n.toNatClampNeg).map (fun i => H.size + 1 + i)).map (fun a => ((a, .inl (cy, z)) : Nat × va_E)))[k9]? = some x → x.1 = H.size + 1 + k9 := fun k9 x hx => by
      rw [List.getElem?_map, List.getElem?_map] at hx
      by_cases h9 : k9 < n.toNatClampNeg
      · rw [List.getElem?_range h9] at hx
        cases hx
        rfl
      · have hn0 : (List.range n.toNatClampNeg)[k9]? = none := List.getElem?_eq_none (by rw [List.length_range]; omega)
        rw [hn0] at hx
        cases hx
    refine ⟨fun i j x y hi hj hxy => ?_, fun k9 x hx => ?_⟩
    · by_cases h1 : i < W1.length <;> by_cases h2 : j < W1.length
      · rw [List.getElem?_append_left h1] at hi
        rw [List.getElem?_append_left h2] at hj
        exact hD1.1 i j x y hi hj hxy
      · rw [List.getElem?_append_left h1] at hi
        rw [List.getElem?_append_right (by (first | decide +kernel | omega))] at hj
        have := hle _ _ hi
        have := hr _ _ hj
        omega
      · rw [List.getElem?_append_right (by (first | decide +kernel | omega))] at hi
        rw [List.getElem?_append_left h2] at hj
        have := hle _ _ hj
        have := hr _ _ hi
        omega
      · rw [List.getElem?_append_right (by (first | decide +kernel | omega))] at hi hj
        have := hr _ _ hi
        have := hr _ _ hj
        omega
    · by_cases h1 : k9 < W1.length
      · rw [List.getElem?_append_left h1] at hx
        exact hD1.2 k9 x hx
      · rw [List.getElem?_append_right (by (first | decide +kernel | omega))] at hx
        have := hr _ _ hx
        exact hA _ (by have := hS.1; omega)
  have hAr : ArrOfT s cA (.array ty) := fun N9 z9 => by
    obtain ⟨-, k9, hk9, cm9, hkk9⟩ := (hO 0 0 0).1
    exact ⟨(fun q hq => by cases hq), k9, hk9, cm9, hkk9⟩
  have hK2 : va_K D cl (tys ++ [(cA, .array ty)]) s := ⟨hK.1, fun k9 x hx => by
    by_cases hl : k9 < tys.length
    · rw [List.getElem?_append_left hl] at hx
      exact hK.2 k9 x hx
    · rw [List.getElem?_append_right (by (first | decide +kernel | omega))] at hx
      have h0 : k9 - tys.length < 1 := (List.getElem?_eq_some_iff.mp hx).1
      rw [show k9 - tys.length = 0 by (first | decide +kernel | omega)] at hx
      cases hx
      exact ⟨hAr, fA⟩⟩
  obtain ⟨t, a1, b1⟩ := kk H.size (fun i => H.size + 1 + i) cA F.heap (fun i j _ _ h => by have h9 : H.size + 1 + i = H.size + 1 + j := h; omega) hnl hK2 (by rw [← vr_rows hnm]; exact vr_lay hP2) (by rw [← vr_rows hnm]; exact vr_layD hD2) ⟨by rw [f1]; have := hS.1; omega, fun x h1 h2 => (hold x (Nat.lt_of_lt_of_le h1 hS.1)).trans (hS.2.1 x h1 h2), hS.2.2⟩ F rfl X'
  refine ⟨t, step t ?_, b1⟩
  have e : T.heap.size = H.size := by rw [hT]
  rw [e]
  exact a1
end VGM
end
section
def tysC (ca : Nat → ClassId) : List (ClassId × FieldType) := [(ca 0, .int), (ca 1, .byte), (ca 2, .boolean), (ca 3, .object "RodOwes$County"), (ca 4, .object "RodOwes$Sheet"), (ca 5, .array .int)]
def kNest : List (String × Nat × MethodName) := [(R_Rod, 29, y_Reader_init), (R_Rod, 41, y_Walks_init), (R_Rod, 48, y_Plans_init), (R_Rod, 55, y_Beds_init), (R_Rod, 66, y_Sheet_init), (R_County, 11, y_Land_init), (R_County, 20, y_Ledger_init), (R_County, 27, y_Sights_init), (R_Reader, 11, y_Tape_init)]
def Kw (U : State) : Prop := (∀ q ∈ kNest, va_Nw (.methodLinkNest q.1 q.2.1 q.2.2 R_Rod) U) ∧ va_AO "RodOwes$County" U ∧ va_AO "RodOwes$Sheet" U ∧ va_AOA .int U
theorem Kw.to {s U : State} (hW : s.WarmedH U.vm) (h : Kw s) : Kw U := ⟨fun q hm => va_Nw.warmM hW (h.1 q hm), h.2.1.moved hW.alike, h.2.2.1.moved hW.alike, h.2.2.2.moved hW.alike⟩
theorem Kw.blind {U : State} (g : JFrame) (mk : MethodId) (a : Array Value) (h : Kw U) : Kw (U.calling g mk a) := ⟨fun q hm => va_Nw.same (u := U) rfl rfl (h.1 q hm), h.2.1.moved (Vm.Alike.refl U.vm), h.2.2.1.moved (Vm.Alike.refl U.vm), h.2.2.2.moved (Vm.Alike.refl U.vm)⟩
def rmC (F L C S : Nat) : Room := { frames := F, cells := C, slots := S, locals := L }
def Qu (D : va_G) (A : Nat → Prop) (post : va_W → Prop) : Array Value → State → Outcome → State → Prop := fun _ st oc t => (∃ ws : va_W, oc = .returned none ∧ post ws ∧ va_P D classes ws t.heap ∧ va_D A ws) ∧ va_F A st t
def Ku (own : String) (cc : ByteArray) (nL : Nat) (ini : Bool) (D : va_G) (ca : Nat → ClassId) (p : Program) (s : State) (m : MethodId) (args : Array Value) (meth : Method) (c : Code) (A : Nat → Prop) : Prop :=
  p.tables.exec = Jvm.exec ∧ c.code = cc ∧ c.maxLocals = nL ∧ s.vm.findClass own = some m.cls ∧ (∀ w ∈ vv_G, w.before args s = true) ∧ meth.locks = false ∧ meth.sig.returnType = none ∧ va_K D classes (tysC ca) s ∧ (∀ q : Nat, s.heap.size ≤ q → A q) ∧ (ini = true → meth.name = "<init>") ∧ Kw s
def U (own : String) (cc : ByteArray) (nL : Nat) (ini : Bool) (F L C S : Nat) (D : va_G) (ca : Nat → ClassId) (post : va_W → Prop) (ws : va_W) (cl sl pc : Nat) (ls : Pl) (st : List Value) : Prop :=
  ∀ (p : Program) (l : Launch) (e : Env) (s : State) (m : MethodId) (args : Array Value) (below : List Frame) (meth : Method) (c : Code) (A : Nat → Prop) (H : Heap) (locs : List Loc) (lsA : Array Slot),
    Ku own cc nL ini D ca p s m args meth c A → va_P D classes ws H → va_D A ws → va_S A s.heap H locs → lh (fun k => k) lsA nL ls →
    W p l e (rmC F L C S) s m args below meth c H locs cl sl (MQ below (Qu D A post) args s C S A) (F0 m pc lsA st)
def Cu (y : MethodName) (cc : ByteArray) (nL : Nat) (F L C S : Nat) (D : va_G) (ca : Nat → ClassId) (As : List Value) (ws : va_W) (post : va_W → Prop) : Prop :=
  ∀ (l : Launch) (sz : Nat), Met l y (.code y cc nL none :: vv_G) (rmC F L C S) (va_Pc As (fun U => U.heap.size = sz ∧ va_P D classes ws U.heap ∧ va_K D classes (tysC ca) U ∧ va_D (fun _ => True) ws ∧ Kw U)) (Qu D (va_A ws sz) post) C S (va_A ws sz)
theorem rv_id (v : Value) : rv (fun k => k) v = v := by cases v <;> rfl
theorem cu_of {y : MethodName} {cc : ByteArray} {nL F L C S : Nat} {D : va_G} {ca : Nat → ClassId} {As : List Value} {ws : va_W} {post : va_W → Prop} (own : String) (ini : Bool) (ls : Pl) (ho : y.cls = own) (hi : ini = true → y.name = "<init>") (hy : plainName y.cls = true) (hls : argLs As ++ List.replicate (nL - (argLs As).length) none = ls) (hn : (argLs As).length ≤ nL) (hV : U own cc nL ini F L C S D ca post ws 0 0 0 ls []) : Cu y cc nL F L C S D ca As ws post := by
  intro l sz
  refine Met.ofW (cc := cc) (maxL := nL) (ret := none) hy rfl ?_
  intro p e s m args below meth c s₁ B hml hv
  obtain ⟨rfl, hsz, hP, hK, hD, hKw⟩ := hv
  have hts := atoms_spec (ws := .code y cc nL none :: vv_G) B.pre
  subst hsz
  have hmap : As.map (rv (fun k => k)) = As := by
    rw [show (rv (fun k => k)) = id from funext rv_id]; simp
  have hl := lv_entry As (n := nL) (by have := argLs_len (fun k => k) As; rw [hmap] at this; rw [this]; exact hn)
  rw [lg_entry_eq]
  refine hV p l e s m _ below meth c (va_A ws s.heap.size) s.heap [] _ ⟨B.exec, B.bytes, hml, ho ▸ findClass_of_methodNamed B.named, fun w hw => hts w (List.mem_cons_of_mem _ hw), B.notSynchronized, B.returns, hK, fun q hq => Or.inr hq, fun q => ((name_of_methodNamed B.named B.method).1).trans (hi q), hKw⟩ hP hD.self va_S.rf ⟨hl.1, hl.2.1, fun i v hi => ?_⟩
  rw [← hls] at hi
  by_cases hlt : i < (argLs As).length
  · rw [List.getElem?_append_left hlt] at hi
    have h1 := argLs_in (fun k => k) As 0 i v hi
    rw [Nat.zero_add, hmap] at h1
    exact hl.2.2 (i, rv (fun k => k) v) h1
  · rw [List.getElem?_append_right (by (first | decide +kernel | omega))] at hi
    have := List.eq_of_mem_replicate (List.mem_of_getElem? hi)
    cases this
section UR
variable {own : String} {cc : ByteArray} {nL : Nat} {ini : Bool} {F L C S : Nat} {D : va_G} {ca : Nat → ClassId} {post : va_W → Prop} {ws : va_W} {cl sl pc : Nat} {ls : Pl} {st : List Value}
theorem U_iconst {n : Int} (v : Int32) (d : decode cc pc = .ok (.iconst n, 1)) (hv : Int32.ofInt n = v) (k : U own cc nL ini F L C S D ca post ws cl sl (pc + 1) ls (.int v :: st)) : U own cc nL ini F L C S D ca post ws cl sl pc ls st := fun p l e s m args below meth c A H locs lsA K hP hD hS hl => lv_iconst K.1 K.2.1 d hv (k p l e s m args below meth c A H locs lsA K hP hD hS hl)
theorem U_bipush {n : Int} (v : Int32) (d : decode cc pc = .ok (.bipush n, 2)) (hv : (Int8.ofInt n).toInt32 = v) (k : U own cc nL ini F L C S D ca post ws cl sl (pc + 2) ls (.int v :: st)) : U own cc nL ini F L C S D ca post ws cl sl pc ls st := fun p l e s m args below meth c A H locs lsA K hP hD hS hl => lv_bipush K.1 K.2.1 d hv (k p l e s m args below meth c A H locs lsA K hP hD hS hl)
theorem U_sipush {n : Int} (v : Int32) (d : decode cc pc = .ok (.sipush n, 3)) (hv : (Int16.ofInt n).toInt32 = v) (k : U own cc nL ini F L C S D ca post ws cl sl (pc + 3) ls (.int v :: st)) : U own cc nL ini F L C S D ca post ws cl sl pc ls st := fun p l e s m args below meth c A H locs lsA K hP hD hS hl => lv_sipush K.1 K.2.1 d hv (k p l e s m args below meth c A H locs lsA K hP hD hS hl)
theorem U_aload_n {n : Fin 4} (i : Nat) {x : Nat} (d : decode cc pc = .ok (.aload_n n, 1)) (hi : (n : Nat) = i) (hx : ls[i]? = some (some (.ref x))) (k : U own cc nL ini F L C S D ca post ws cl sl (pc + 1) ls (.ref x :: st)) : U own cc nL ini F L C S D ca post ws cl sl pc ls st := fun p l e s m args below meth c A H locs lsA K hP hD hS hl => lv_aload_n K.1 K.2.1 d hi (hl.2.2 i _ hx) (k p l e s m args below meth c A H locs lsA K hP hD hS hl)
theorem U_iload_n {n : Fin 4} (i : Nat) {x : Int32} (d : decode cc pc = .ok (.iload_n n, 1)) (hi : (n : Nat) = i) (hx : ls[i]? = some (some (.int x))) (k : U own cc nL ini F L C S D ca post ws cl sl (pc + 1) ls (.int x :: st)) : U own cc nL ini F L C S D ca post ws cl sl pc ls st := fun p l e s m args below meth c A H locs lsA K hP hD hS hl => lv_iload_n K.1 K.2.1 d hi (hl.2.2 i _ hx) (k p l e s m args below meth c A H locs lsA K hP hD hS hl)
theorem U_istore_n {n : Fin 4} (i : Nat) (ls1 : Pl) {x : Int32} (d : decode cc pc = .ok (.istore_n n, 1)) (hi : (n : Nat) = i) (hn : i < nL) (ho : okS ls i = true) (h1 : ls.set i (some (.int x)) = ls1) (k : U own cc nL ini F L C S D ca post ws cl sl (pc + 1) ls1 st) : U own cc nL ini F L C S D ca post ws cl sl pc ls (.int x :: st) := fun p l e s m args below meth c A H locs lsA K hP hD hS hl => lv_istore_n K.1 K.2.1 d hi (asc_has hl) hn rfl (fun lsB hB => k p l e s m args below meth c A H locs lsB K hP hD hS (lh_set1 rfl ho h1 hB))
theorem U_iinc {n : Int} (i : Nat) (ls1 : Pl) {x v : Int32} (d : decode cc pc = .ok (.iinc i n, 3)) (hx : ls[i]? = some (some (.int x))) (hv : x + Int32.ofInt n = v) (hn : i < nL) (ho : okS ls i = true) (h1 : ls.set i (some (.int v)) = ls1) (k : U own cc nL ini F L C S D ca post ws cl sl (pc + 3) ls1 st) : U own cc nL ini F L C S D ca post ws cl sl pc ls st := fun p l e s m args below meth c A H locs lsA K hP hD hS hl => by
  have hm : (i, Value.int x) ∈ asc (fun k => k) ls := asc_in (ad := fun k => k) hx
  obtain ⟨q, hq⟩ := List.getElem?_of_mem hm
  exact lv_iinc K.1 K.2.1 d (asc_has hl) hq hv hn rfl (fun lsB hB => k p l e s m args below meth c A H locs lsB K hP hD hS (lh_set1 rfl ho h1 hB))
theorem U_dup {v : Value} (d : decode cc pc = .ok (.dup, 1)) (hv : v.category = 1) (k : U own cc nL ini F L C S D ca post ws cl sl (pc + 1) ls (v :: v :: st)) : U own cc nL ini F L C S D ca post ws cl sl pc ls (v :: st) := fun p l e s m args below meth c A H locs lsA K hP hD hS hl => lv_dup K.1 K.2.1 d hv (k p l e s m args below meth c A H locs lsA K hP hD hS hl)
theorem U_goto {off : Int} (tgt : Nat) (d : decode cc pc = .ok (.goto off, 3)) (ht : (pc : Int) + off = (tgt : Int)) (k : U own cc nL ini F L C S D ca post ws cl sl tgt ls st) : U own cc nL ini F L C S D ca post ws cl sl pc ls st := fun p l e s m args below meth c A H locs lsA K hP hD hS hl => lv_goto K.1 K.2.1 d ht (k p l e s m args below meth c A H locs lsA K hP hD hS hl)
theorem U_icmp_ge {x y : Int32} {off : Int} (tgt : Nat) (d : decode cc pc = .ok (.if_icmp .ge off, 3)) (ht : (pc : Int) + off = (tgt : Int)) (kt : y ≤ x → U own cc nL ini F L C S D ca post ws cl sl tgt ls st) (kf : ¬ y ≤ x → U own cc nL ini F L C S D ca post ws cl sl (pc + 3) ls st) : U own cc nL ini F L C S D ca post ws cl sl pc ls (.int y :: .int x :: st) := fun p l e s m args below meth c A H locs lsA K hP hD hS hl => lv_icmp_ge K.1 K.2.1 d ht (fun q => kt q p l e s m args below meth c A H locs lsA K hP hD hS hl) (fun q => kf q p l e s m args below meth c A H locs lsA K hP hD hS hl)
theorem U_obj {idx a : Nat} (hw : Cond.methodLink own idx objectInit ∈ vv_G) (h1 : Cond.instanceMethod objectInit ∈ vv_G) (h2 : Cond.code objectInit ⟨#[0xb1]⟩ 1 none ∈ vv_G) (d : decode cc pc = .ok (.invokespecial idx, 3)) (hF : 1 ≤ F) (hL : (st.map fun v => v.category).sum + 12 ≤ L) (k : U own cc nL ini F L C S D ca post ws cl sl (pc + 3) ls st) : U own cc nL ini F L C S D ca post ws cl sl pc ls (.ref a :: st) := fun p l e s m args below meth c A H locs lsA K hP hD hS hl => by
  have hts := K.2.2.2.2.1
  refine W.objInit K.1 K.2.1 K.2.2.2.1 (hts _ hw) (hts _ h1) (hts _ h2) rfl (hl.1.trans K.2.2.1.symm) rfl d hF ?_ (k p l e s m args below meth c A H locs lsA K hP hD hS hl)
  have : 2 * (F0 m pc lsA (Value.ref a :: st)).monitorRoom = 0 := rfl
  rw [this]
  show 0 + _ + 12 ≤ L
  omega
theorem U_new {idx ci N : Nat} {Cn : String} {T : u_T} {fs : List Value} (ty : Nat → FieldType) (hc : classes[ci]? = some (Cn, T, N)) (hin : ∀ w ∈ u_ws Cn T N, w ∈ vv_G) (hty : ∀ k, k < N → parseFieldDescriptor (T k).2.2.1 = some (ty k)) (hw : Cond.classLink own idx Cn ∈ vv_G) (h1 : Cond.instantiable Cn N ∈ vv_G) (h2 : Cond.initialized Cn ∈ vv_G) (hfs : ∀ j, j < N → defaultValue (ty j) = vp_V fs j) (d : decode cc pc = .ok (.new idx, 3)) (hC : cl + 1 ≤ C) (hSl : sl + N ≤ S)
    (k : ∀ q : Nat, U own cc nL ini F L C S D ca post (ws ++ [(q, .inr (ci, fs))]) (cl + 1) (sl + N) (pc + 3) ls (.ref q :: st)) : U own cc nL ini F L C S D ca post ws cl sl pc ls st := fun p l e s m args below meth c A H locs lsA K hP hD hS hl => by
  have hts := K.2.2.2.2.1
  exact va_new (D := D) (ci := ci) (fs := fs) K.1 K.2.1 hts hin ty hty K.2.2.2.1 (hts _ hw) (hts _ h1) (hts _ h2) K.2.2.2.2.2.2.2.1 hP hD hS K.2.2.2.2.2.2.2.2.1 hc hfs hC hSl d (fun q H1 hP1 hD1 hS1 => k q p l e s m args below meth c A H1 locs lsA K hP1 hD1 hS1 hl)
theorem ca_prim {s : State} {cA c0 : ClassId} {ty : FieldType} (h1 : s.vm.findClass ("[" ++ ty.toString) = some cA) (h2 : s.vm.findClass ("[" ++ ty.toString) = some c0) : cA = c0 := Option.some.inj (h1.symm.trans h2)
theorem U_newI (N : Nat) {n : Int32} (hn : ¬ n < 0) (hN : n.toNatClampNeg = N) (hw : Cond.arrayClass .int ∈ vv_G) (hby : N * componentBytes .int ≤ 536870912) (d : decode cc pc = .ok (.newarray .int, 2)) (hC : cl + 1 ≤ C) (hSl : sl + N ≤ S)
    (k : ∀ q : Nat, U own cc nL ini F L C S D ca post (ws ++ [(q, .inl (ca 0, N, .inl (fun _ => 0)))]) (cl + 1) (sl + N) (pc + 2) ls (.ref q :: st)) : U own cc nL ini F L C S D ca post ws cl sl pc ls (.int n :: st) := fun p l e s m args below meth c A H locs lsA K hP hD hS hl => by
  have hts := K.2.2.2.2.1
  refine va_newa (atype := .int) (D := D) (ty := .int) (a0 := (N, .inl (fun _ => 0))) K.1 K.2.1 (hts _ hw) rfl K.2.2.2.2.2.2.2.1 hP hD hS K.2.2.2.2.2.2.2.2.1 (fun _ => rfl) hn hN hby hC hSl d (fun q cA H1 hK1 hP1 hD1 hS1 => ?_)
  have eA : cA = ca 0 := ca_prim (hK1.2 6 _ rfl).2 (K.2.2.2.2.2.2.2.1.2 0 _ rfl).2
  subst eA
  exact k q p l e s m args below meth c A H1 locs lsA K hP1 hD1 hS1 hl
theorem U_newB (N : Nat) {n : Int32} (hn : ¬ n < 0) (hN : n.toNatClampNeg = N) (hw : Cond.arrayClass .byte ∈ vv_G) (hby : N * componentBytes .byte ≤ 536870912) (d : decode cc pc = .ok (.newarray .byte, 2)) (hC : cl + 1 ≤ C) (hSl : sl + N ≤ S)
    (k : ∀ q : Nat, U own cc nL ini F L C S D ca post (ws ++ [(q, .inl (ca 1, N, .inl (fun _ => 0)))]) (cl + 1) (sl + N) (pc + 2) ls (.ref q :: st)) : U own cc nL ini F L C S D ca post ws cl sl pc ls (.int n :: st) := fun p l e s m args below meth c A H locs lsA K hP hD hS hl => by
  have hts := K.2.2.2.2.1
  refine va_newa (atype := .byte) (D := D) (ty := .byte) (a0 := (N, .inl (fun _ => 0))) K.1 K.2.1 (hts _ hw) rfl K.2.2.2.2.2.2.2.1 hP hD hS K.2.2.2.2.2.2.2.2.1 (fun _ => rfl) hn hN hby hC hSl d (fun q cA H1 hK1 hP1 hD1 hS1 => ?_)
  have eA : cA = ca 1 := ca_prim (hK1.2 6 _ rfl).2 (K.2.2.2.2.2.2.2.1.2 1 _ rfl).2
  subst eA
  exact k q p l e s m args below meth c A H1 locs lsA K hP1 hD1 hS1 hl
theorem U_newZ (N : Nat) {n : Int32} (hn : ¬ n < 0) (hN : n.toNatClampNeg = N) (hw : Cond.arrayClass .boolean ∈ vv_G) (hby : N * componentBytes .boolean ≤ 536870912) (d : decode cc pc = .ok (.newarray .boolean, 2)) (hC : cl + 1 ≤ C) (hSl : sl + N ≤ S)
    (k : ∀ q : Nat, U own cc nL ini F L C S D ca post (ws ++ [(q, .inl (ca 2, N, .inl (fun _ => 0)))]) (cl + 1) (sl + N) (pc + 2) ls (.ref q :: st)) : U own cc nL ini F L C S D ca post ws cl sl pc ls (.int n :: st) := fun p l e s m args below meth c A H locs lsA K hP hD hS hl => by
  have hts := K.2.2.2.2.1
  refine va_newa (atype := .boolean) (D := D) (ty := .boolean) (a0 := (N, .inl (fun _ => 0))) K.1 K.2.1 (hts _ hw) rfl K.2.2.2.2.2.2.2.1 hP hD hS K.2.2.2.2.2.2.2.2.1 (fun _ => rfl) hn hN hby hC hSl d (fun q cA H1 hK1 hP1 hD1 hS1 => ?_)
  have eA : cA = ca 2 := ca_prim (hK1.2 6 _ rfl).2 (K.2.2.2.2.2.2.2.1.2 2 _ rfl).2
  subst eA
  exact k q p l e s m args below meth c A H1 locs lsA K hP1 hD1 hS1 hl
theorem ca_obj {s : State} {cA c0 : ClassId} {Cn : String} (h1 : va_RA s cA (.object Cn)) (h2 : va_RA s c0 (.object Cn)) : cA = c0 := by
  obtain ⟨_, _, _, _, _, a⟩ := h1
  obtain ⟨_, _, _, _, _, b⟩ := h2
  exact Option.some.inj (a.symm.trans b)
theorem U_newq {idx t N : Nat} {n : Int32} (Cn : String) (ht : t = 3 ∧ Cn = "RodOwes$County" ∨ t = 4 ∧ Cn = "RodOwes$Sheet") (hn : ¬ n < 0) (hN : n.toNatClampNeg = N) (hby : N * 4 ≤ 536870912) (hw : Cond.classLink own idx Cn ∈ vv_G) (d : decode cc pc = .ok (.anewarray idx, 3)) (hC : cl + 1 ≤ C) (hSl : sl + N ≤ S)
    (k : ∀ q : Nat, U own cc nL ini F L C S D ca post (ws ++ [(q, .inl (ca t, N, .inr (.inr (.inr (.inr (fun _ => none))))))]) (cl + 1) (sl + N) (pc + 3) ls (.ref q :: st)) : U own cc nL ini F L C S D ca post ws cl sl pc ls (.int n :: st) := fun p l e s m args below meth c A H locs lsA K hP hD hS hl => by
  have hts := K.2.2.2.2.1
  have hK := K.2.2.2.2.2.2.2.1
  rcases ht with ⟨rfl, rfl⟩ | ⟨rfl, rfl⟩
  · refine va_newq (D := D) K.1 K.2.1 K.2.2.2.1 (hts _ hw) K.2.2.2.2.2.2.2.2.2.2.2.1 hK hP hD hS K.2.2.2.2.2.2.2.2.1 hn hN hby hC hSl d (fun q cA H1 hK1 hP1 hD1 hS1 => ?_)
    have eA : cA = ca 3 := ca_obj (hK1.2 6 _ rfl).2 (hK.2 3 _ rfl).2
    subst eA
    exact k q p l e s m args below meth c A H1 locs lsA K hP1 hD1 hS1 hl
  · refine va_newq (D := D) K.1 K.2.1 K.2.2.2.1 (hts _ hw) K.2.2.2.2.2.2.2.2.2.2.2.2.1 hK hP hD hS K.2.2.2.2.2.2.2.2.1 hn hN hby hC hSl d (fun q cA H1 hK1 hP1 hD1 hS1 => ?_)
    have eA : cA = ca 4 := ca_obj (hK1.2 6 _ rfl).2 (hK.2 4 _ rfl).2
    subst eA
    exact k q p l e s m args below meth c A H1 locs lsA K hP1 hD1 hS1 hl
theorem U_eq (ws1 : va_W) (h : ws = ws1) (k : U own cc nL ini F L C S D ca post ws1 cl sl pc ls st) : U own cc nL ini F L C S D ca post ws cl sl pc ls st := by subst h; exact k
/-- a final field of references, in the constructor -/
theorem U_putF {idx ci N i a r : Nat} {Cn : String} {T : u_T} {fs : List Value} {ty : FieldType} (t0 : Nat → FieldType) (q0 : Nat) (he : ws[q0]? = some (a, .inr (ci, fs))) (hc : classes[ci]? = some (Cn, T, N)) (hin : ∀ w ∈ u_ws Cn T N, w ∈ vv_G) (hty : ∀ k, k < N → parseFieldDescriptor (T k).2.2.1 = some (t0 k)) (hnm : ∀ a, a < N → ∀ b, b < N → a ≠ b → (T a).2.1 ≠ (T b).2.1) (hi : i < N) (hw : Cond.fieldLink own idx (T i).1 (T i).2.1 (T i).2.2.1 ∈ vv_G) (hfin : (T i).2.2.2 = true) (hini : ini = true) (hdecl : (T i).1 = own) (hd : parseFieldDescriptor (T i).2.2.1 = some ty) (hn : narrow ty (.ref r) = .ref r) (hfit : fits ty (.ref r) = true) (hl0 : i < fs.length) (d : decode cc pc = .ok (.putfield idx, 3))
    (k : U own cc nL ini F L C S D ca post (ws.set q0 (a, .inr (ci, fs.set i (.ref r)))) cl sl (pc + 3) ls st) : U own cc nL ini F L C S D ca post ws cl sl pc ls (.ref r :: .ref a :: st) := fun p l e s m args below meth c A H locs lsA K hP hD hS hl => by
  have hts := K.2.2.2.2.1
  exact va_putF (D := D) (ci := ci) (v := .ref r) (ty := ty) K.1 K.2.1 hts hin t0 hty hnm K.2.2.2.1 K.2.2.2.2.2.2.2.1 hP hD hS q0 he hc i hi (hts _ hw) (fun _ q => q) hfin (K.2.2.2.2.2.2.2.2.2.1 hini) hdecl hd hn hfit hl0 d (fun H1 locs1 hP1 hD1 hS1 => k p l e s m args below meth c A H1 locs1 lsA K hP1 hD1 hS1 hl)
theorem U_putI {idx ci N i a : Nat} {x : Int32} {Cn : String} {T : u_T} {fs : List Value} (t0 : Nat → FieldType) (q0 : Nat) (he : ws[q0]? = some (a, .inr (ci, fs))) (hc : classes[ci]? = some (Cn, T, N)) (hin : ∀ w ∈ u_ws Cn T N, w ∈ vv_G) (hty : ∀ k, k < N → parseFieldDescriptor (T k).2.2.1 = some (t0 k)) (hnm : ∀ a, a < N → ∀ b, b < N → a ≠ b → (T a).2.1 ≠ (T b).2.1) (hi : i < N) (hw : Cond.fieldLink own idx (T i).1 (T i).2.1 (T i).2.2.1 ∈ vv_G) (hfin : (T i).2.2.2 = false) (hd : parseFieldDescriptor (T i).2.2.1 = some .int) (hl0 : i < fs.length) (d : decode cc pc = .ok (.putfield idx, 3))
    (k : U own cc nL ini F L C S D ca post (ws.set q0 (a, .inr (ci, fs.set i (.int x)))) cl sl (pc + 3) ls st) : U own cc nL ini F L C S D ca post ws cl sl pc ls (.int x :: .ref a :: st) := fun p l e s m args below meth c A H locs lsA K hP hD hS hl => by
  have hts := K.2.2.2.2.1
  exact va_put (D := D) (ci := ci) (v := .int x) (ty := .int) K.1 K.2.1 hts hin t0 hty hnm K.2.2.2.1 K.2.2.2.2.2.2.2.1 hP hD hS q0 he hc i hi (hts _ hw) (fun _ q => q) hfin hd rfl rfl hl0 d (fun H1 locs1 hP1 hD1 hS1 => k p l e s m args below meth c A H1 locs1 lsA K hP1 hD1 hS1 hl)
theorem U_get {idx ci i a : Nat} {fs : List Value} (v : Value) (q0 : Nat) (fa : FA own idx ci i) (he : ws[q0]? = some (a, .inr (ci, fs))) (hv : fs[i]? = some v) (d : decode cc pc = .ok (.getfield idx, 3)) (k : U own cc nL ini F L C S D ca post ws cl sl (pc + 3) ls (v :: st)) : U own cc nL ini F L C S D ca post ws cl sl pc ls (.ref a :: st) := fun p l e s m args below meth c A H locs lsA K hP hD hS hl => by
  obtain ⟨Cn, T, N, f1, f2, f3, f4⟩ := fa
  have hts := K.2.2.2.2.1
  exact va_get (D := D) (ci := ci) (v := v) K.1 K.2.1 hts f2 K.2.2.2.1 K.2.2.2.2.2.2.2.1 hP q0 he f1 i f3 (hts _ f4) (fun _ q => q) hv d (k p l e s m args below meth c A H locs lsA K hP hD hS hl)
theorem U_vret (d : decode cc pc = .ok (.return_, 1)) (hp : post ws) (hc : cl = C) (hs : sl = S) : U own cc nL ini F L C S D ca post ws cl sl pc ls [] := fun p l e s m args below meth c A H locs lsA K hP hD hS hl => by
  subst hc
  subst hs
  have hlocks : meth.locks = false := K.2.2.2.2.2.1
  exact W.vret K.1 K.2.1 K.2.2.2.2.2.2.1 (fun t ht hW => ⟨⟨ws, rfl, hp, by rw [ht]; exact hP, hD⟩, hS.F ht⟩) hS.2.2 d
theorem U_aast {t q0 qk ci a v n : Nat} {i : Int32} {Cn : String} {vs : List Value} {r : vw_C} {f : Nat → Option Nat} (ht : t = 3 ∧ Cn = "RodOwes$County" ∨ t = 4 ∧ Cn = "RodOwes$Sheet") (ha : ws[q0]? = some (a, .inl (ca t, n, .inr (.inr (.inr (.inr f)))))) (hv : ws[qk]? = some (v, .inr (ci, vs))) (hc : classes[ci]? = some r) (hr : r.1 = Cn) (hin : vp_in i n) (d : decode cc pc = .ok (.aastore, 1))
    (k : U own cc nL ini F L C S D ca post (ws.set q0 (a, .inl (ca t, n, .inr (.inr (.inr (.inr (va_up f i.toNatClampNeg (some v)))))))) cl sl (pc + 1) ls st) : U own cc nL ini F L C S D ca post ws cl sl pc ls (.ref v :: .int i :: .ref a :: st) := fun p l e s m args below meth c A H locs lsA K hP hD hS hl => by
  have hK := K.2.2.2.2.2.2.2.1
  rcases ht with ⟨rfl, rfl⟩ | ⟨rfl, rfl⟩
  · exact va_astq (D := D) K.1 K.2.1 hK hP hD hS q0 3 qk ci ha (by rw [hr]; rfl) hv hc hin d (fun H1 locs1 hP1 hD1 hS1 => k p l e s m args below meth c A H1 locs1 lsA K hP1 hD1 hS1 hl)
  · exact va_astq (D := D) K.1 K.2.1 hK hP hD hS q0 4 qk ci ha (by rw [hr]; rfl) hv hc hin d (fun H1 locs1 hP1 hD1 hS1 => k p l e s m args below meth c A H1 locs1 lsA K hP1 hD1 hS1 hl)
end UR
theorem arrV_congr {cA : ClassId} {n : Nat} {f g : Nat → Int32} (h : ∀ j, j < n → f j = g j) : vp_cell cA (n, .inl f) = vp_cell cA (n, .inl g) := by
  rw [vp_cell_i, vp_cell_i]
  unfold arrV
  congr 1
  apply Array.ext
  · simp
  · intro i h1 h2
    simp at h1
    simp [h i h1]
section UC
variable {own : String} {cc : ByteArray} {nL : Nat} {ini : Bool} {F L C S : Nat} {D : va_G} {ca : Nat → ClassId} {post : va_W → Prop} {ws : va_W} {cl sl pc : Nat} {ls : Pl} {st : List Value}
variable {p : Program} {l : Launch} {e : Env} {s : State} {m : MethodId} {args : Array Value} {below : List Frame} {meth : Method} {c : Code} {A : Nat → Prop} {H : Heap} {locs : List Loc} {lsA : Array Slot}
theorem uu_pre {wc : va_W} (K : Ku own cc nL ini D ca p s m args meth c A) (hP : va_P D classes wc H) (hD : va_D A wc) (As : List Value) : FrameBlind (va_Pc As (fun U => U.heap.size = H.size ∧ va_P D classes wc U.heap ∧ va_K D classes (tysC ca) U ∧ va_D (fun _ => True) wc ∧ Kw U)) ∧ ∀ U : State, U.heap = H → s.WarmedH U.vm → va_Pc As (fun U => U.heap.size = H.size ∧ va_P D classes wc U.heap ∧ va_K D classes (tysC ca) U ∧ va_D (fun _ => True) wc ∧ Kw U) As.toArray U := by
  refine ⟨fun a U g mk q => ?_, fun U hU hW => ⟨rfl, ?_⟩⟩
  · obtain ⟨q0, q1, qP, qK, qA, qR⟩ := q
    exact ⟨q0, q1, qP, va_K.moved (u := U) (U := U.calling g mk a) (Vm.Alike.refl U.vm) qK, qA, Kw.blind g mk a qR⟩
  · exact ⟨by rw [hU], by rw [hU]; exact hP, va_K.moved hW.alike K.2.2.2.2.2.2.2.1, hD.weaken (fun _ _ _ _ => trivial), Kw.to hW K.2.2.2.2.2.2.2.2.2.2⟩
theorem uu_after {wc wr : va_W} {st0 rest : List Value} {a : Array Value} {C' S' : Nat} {post' : va_W → Prop} (isC isR : List Nat) (hC : isC.map (fun i => ws[i]?) = wc.map some) (hR : isR.map (fun i => ws[i]?) = wr.map some) (hn : va_nd isR = true) (hdis : ∀ i ∈ isR, i ∉ isC) (hr : va_Run p l e (rmC F L C S) s m args below meth c H locs cl sl C' S' (F0 m pc lsA st0) rest (Qu D (va_A wc H.size) post' a) (va_A wc H.size)) (K : Ku own cc nL ini D ca p s m args meth c A) (hP : va_P D classes ws H) (hD : va_D A ws) (hS : va_S A s.heap H locs) (hl : lh (fun k => k) lsA nL ls)
    (kk : ∀ w1 : va_W, post' w1 → U own cc nL ini F L C S D ca post (wr ++ w1) (cl + C') (sl + S') (pc + 3) ls rest) : W p l e (rmC F L C S) s m args below meth c H locs cl sl (MQ below (Qu D A post) args s C S A) (F0 m pc lsA st0) := by
  have hFc := va_free (wc := wc) hD hS K.2.2.2.2.2.2.2.2.1 isC hC
  intro T hT Xs
  obtain ⟨v, st₀, t, T', L', h0, X', hL, e1, e2, ⟨⟨w1, hv, hp, hb, hb2⟩, hz, hk⟩, stp⟩ := hr T hT Xs
  have hv' : v = none := by injection hv
  subst hv'
  rw [h0] at hz hk
  obtain ⟨hPj, hDj⟩ := va_join (wr := wr) (w1 := w1) (H1 := t.heap) hP hD isC isR hC hR hn hdis hk hFc hb hb2
  have hS' : va_S A s.heap T'.heap (locs ++ L') := ⟨Nat.le_trans hS.1 (by rw [e1]; exact hz), fun q h1 h2 => by rw [e1, hk q (Nat.lt_of_lt_of_le h1 hS.1) (fun z => h2 (hFc q z))]; exact hS.2.1 q h1 h2, fun q hq => by
      rcases List.mem_append.mp hq with h | h
      · exact hS.2.2 q h
      · exact hFc _ (hL q h)⟩
  obtain ⟨t2, a1, b1⟩ := kk w1 hp p l e s m args below meth c A T'.heap (locs ++ L') lsA K (by rw [e1]; exact hPj) hDj hS' hl T' rfl X'
  exact ⟨t2, stp t2 a1, b1⟩
end UC
section UD
variable {own : String} {cc : ByteArray} {nL : Nat} {ini : Bool} {F L C S : Nat} {D : va_G} {ca : Nat → ClassId} {post : va_W → Prop} {ws : va_W} {cl sl pc : Nat} {ls : Pl} {st : List Value}
def CI (own : String) (idx : Nat) (y : MethodName) (cc' : ByteArray) (nL' : Nat) (n : Nat) : Prop := CB y cc' nL' none n ∧ y.name = "<init>" ∧ Cond.instanceMethod y ∈ vv_G ∧ (Cond.methodLink own idx y ∈ vv_G ∨ (own, idx, y) ∈ kNest)
theorem U_callI {y : MethodName} {cc' : ByteArray} {nL' F' L' C' S' idx b : Nat} {wc : va_W} {post' : va_W → Prop} (wr : va_W) (rest : List Value) (isC isR : List Nat) (ci : CI own idx y cc' nL' 0) (hC : isC.map (fun i => ws[i]?) = wc.map some) (hR : isR.map (fun i => ws[i]?) = wr.map some) (hn : va_nd isR = true) (hdis : ∀ i ∈ isR, i ∉ isC) (hns : va_nd isC = true) (d : decode cc pc = .ok (.invokespecial idx, 3)) (hrm : (rest.map fun v => v.category).sum ≤ 8) (hF : F' + 1 ≤ F) (hL : 8 + (nL' + 11) + L' ≤ L) (hcl : cl + C' ≤ C) (hsl : sl + S' ≤ S)
    (ct : Cu y cc' nL' F' L' C' S' D ca [.ref b] wc post') (kk : ∀ w1 : va_W, post' w1 → U own cc nL ini F L C S D ca post (wr ++ w1) (cl + C') (sl + S') (pc + 3) ls rest) : U own cc nL ini F L C S D ca post ws cl sl pc ls (.ref b :: rest) := fun p l e s m args below meth c A H locs lsA K hP hD hS hl => by
  obtain ⟨⟨q1, q2, q3⟩, q4, q5, q6⟩ := ci
  have hts := K.2.2.2.2.1
  have hPc : va_P D classes wc H := fun k q hk => by
    have h1 : (isC.map (fun i => ws[i]?))[k]? = some (some q) := by rw [hC, List.getElem?_map, hk]; rfl
    rw [List.getElem?_map] at h1
    cases hi : isC[k]? with
    | none => rw [hi] at h1; cases h1
    | some i => rw [hi] at h1; exact hP i q (Option.some.inj h1)
  obtain ⟨b1, b2⟩ := uu_pre K hPc (hD.sub isC hns hC) [.ref b]
  rcases q6 with q6 | q6
  · exact uu_after isC isR hC hR hn hdis (va_runI (Ts := vv_G) (As := []) (b := b) (n := 0) ⟨K.1, K.2.1, K.2.2.1, K.2.2.2.1, hts⟩ (ct l H.size) ⟨callB_of 0 hts (vv_good q1) rfl rfl rfl (hts _ q3) (hts _ q6) q2 ⟨hF, hL⟩, q4, hts _ q5⟩ ⟨b1, b2⟩ rfl rfl hl.1 rfl (lv_room hrm) d ⟨hcl, hsl⟩) K hP hD hS hl kk
  · have hN := K.2.2.2.2.2.2.2.2.2.2.1 _ q6
    exact uu_after isC isR hC hR hn hdis (va_runIN (Ts := vv_G) (As := []) (b := b) (n := 0) ⟨K.1, K.2.1, K.2.2.1, K.2.2.2.1, hts⟩ (ct l H.size) ⟨va_cnB 0 hts (vv_good q1) rfl rfl rfl hN (hts _ q3) q2 ⟨hF, hL⟩, q4, hts _ q5⟩ ⟨b1, b2⟩ rfl rfl hl.1 rfl (lv_room hrm) d ⟨hcl, hsl⟩) K hP hD hS hl kk
theorem U_callV {y : MethodName} {cc' : ByteArray} {nL' F' L' C' S' idx b ck qb : Nat} {wc : va_W} {fsb : List Value} {post' : va_W → Prop} (wr : va_W) (rest : List Value) (isC isR : List Nat) (cv : CV own idx y cc' nL' none 0) (hb : ws[qb]? = some (b, .inr (ck, fsb))) (hcn : (classes[ck]?).map (fun q => q.1) = some y.cls) (hC : isC.map (fun i => ws[i]?) = wc.map some) (hR : isR.map (fun i => ws[i]?) = wr.map some) (hn : va_nd isR = true) (hdis : ∀ i ∈ isR, i ∉ isC) (hns : va_nd isC = true) (d : decode cc pc = .ok (.invokevirtual idx, 3)) (hrm : (rest.map fun v => v.category).sum ≤ 8) (hF : F' + 1 ≤ F) (hL : 8 + (nL' + 11) + L' ≤ L) (hcl : cl + C' ≤ C) (hsl : sl + S' ≤ S)
    (ct : Cu y cc' nL' F' L' C' S' D ca [.ref b] wc post') (kk : ∀ w1 : va_W, post' w1 → U own cc nL ini F L C S D ca post (wr ++ w1) (cl + C') (sl + S') (pc + 3) ls rest) : U own cc nL ini F L C S D ca post ws cl sl pc ls (.ref b :: rest) := fun p l e s m args below meth c A H locs lsA K hP hD hS hl => by
  obtain ⟨⟨q1, q2, q3⟩, q4, q5, q6⟩ := cv
  have hts := K.2.2.2.2.1
  have hPc : va_P D classes wc H := fun k q hk => by
    have h1 : (isC.map (fun i => ws[i]?))[k]? = some (some q) := by rw [hC, List.getElem?_map, hk]; rfl
    rw [List.getElem?_map] at h1
    cases hi : isC[k]? with
    | none => rw [hi] at h1; cases h1
    | some i => rw [hi] at h1; exact hP i q (Option.some.inj h1)
  obtain ⟨b1, b2⟩ := uu_pre K hPc (hD.sub isC hns hC) [.ref b]
  obtain ⟨r, hr, hrc⟩ : ∃ r, classes[ck]? = some r ∧ r.1 = y.cls := by
    cases hz : classes[ck]? with
    | none => rw [hz] at hcn; cases hcn
    | some r => rw [hz] at hcn; exact ⟨r, rfl, Option.some.inj hcn⟩
  have hrecv := va_recv K.2.2.2.2.2.2.2.1 hP hr hb
  rw [hrc] at hrecv
  exact uu_after isC isR hC hR hn hdis (va_runV (Ts := vv_G) (As := []) (b := b) (C := y.cls) (n := 0) ⟨K.1, K.2.1, K.2.2.1, K.2.2.2.1, hts⟩ (ct l H.size) ⟨callB_of 0 hts (vv_good q1) rfl rfl rfl (hts _ q3) (hts _ q6) q2 ⟨hF, hL⟩, hts _ q4, hts _ q5⟩ ⟨b1, hrecv, b2⟩ rfl rfl hl.1 rfl (lv_room hrm) d ⟨hcl, hsl⟩) K hP hD hS hl kk
theorem U_callS {y : MethodName} {cc' : ByteArray} {nL' F' L' C' S' idx : Nat} {wc : va_W} {post' : va_W → Prop} (As : List Value) (wr : va_W) (rest : List Value) (isC isR : List Nat) (cs : CS own idx y cc' nL' none As.length) (hC : isC.map (fun i => ws[i]?) = wc.map some) (hR : isR.map (fun i => ws[i]?) = wr.map some) (hn : va_nd isR = true) (hdis : ∀ i ∈ isR, i ∉ isC) (hns : va_nd isC = true) (hno : (own, idx, y) ∉ vv_nest) (d : decode cc pc = .ok (.invokestatic idx, 3)) (hst : st = As.reverse ++ rest) (hrm : (rest.map fun v => v.category).sum ≤ 8) (hF : F' + 1 ≤ F) (hL : 8 + (nL' + 11) + L' ≤ L) (hcl : cl + C' ≤ C) (hsl : sl + S' ≤ S)
    (ct : Cu y cc' nL' F' L' C' S' D ca As wc post') (kk : ∀ w1 : va_W, post' w1 → U own cc nL ini F L C S D ca post (wr ++ w1) (cl + C') (sl + S') (pc + 3) ls rest) : U own cc nL ini F L C S D ca post ws cl sl pc ls st := fun p l e s m args below meth c A H locs lsA K hP hD hS hl => by
  obtain ⟨⟨q1, q2, q3⟩, q4, q6⟩ := cs
  have q6 := q6.resolve_right hno
  have hts := K.2.2.2.2.1
  have hPc : va_P D classes wc H := fun k q hk => by
    have h1 : (isC.map (fun i => ws[i]?))[k]? = some (some q) := by rw [hC, List.getElem?_map, hk]; rfl
    rw [List.getElem?_map] at h1
    cases hi : isC[k]? with
    | none => rw [hi] at h1; cases h1
    | some i => rw [hi] at h1; exact hP i q (Option.some.inj h1)
  obtain ⟨b1, b2⟩ := uu_pre K hPc (hD.sub isC hns hC) As
  exact uu_after isC isR hC hR hn hdis (va_runS (Ts := vv_G) (As := As) (n := As.length) ⟨K.1, K.2.1, K.2.2.1, K.2.2.2.1, hts⟩ (ct l H.size) ⟨callB_of As.length hts (vv_good q1) rfl rfl rfl (hts _ q3) (hts _ q6) q2 ⟨hF, hL⟩, hts _ q4⟩ ⟨b1, b2⟩ rfl rfl hl.1 (by rw [hst]) (lv_room hrm) d ⟨hcl, hsl⟩) K hP hD hS hl kk
end UD
end
section
section UM
variable {own : String} {cc : ByteArray} {nL : Nat} {ini : Bool} {F L C S : Nat} {D : va_G} {ca : Nat → ClassId} {post : va_W → Prop} {ws : va_W} {cl sl pc : Nat} {ls : Pl} {st : List Value}
theorem U_mna {idx : Nat} (hw : Cond.classLink own idx "[[I" ∈ vv_G) (ha : Cond.arrayClass .int ∈ vv_G) (d : decode cc pc = .ok (.multianewarray idx 2, 4)) (hC : cl + 7 ≤ C) (hSl : sl + 102 ≤ S)
    (k : ∀ (q : Nat) (r : Nat → Nat), U own cc nL ini F L C S D ca post (ws ++ [(q, .inl (ca 5, 6, .inr (.inr (.inr (.inr (fun i => if i < 6 then some (r i) else none)))))), (r 0, .inl (ca 0, 16, .inl (fun _ => 0))), (r 1, .inl (ca 0, 16, .inl (fun _ => 0))), (r 2, .inl (ca 0, 16, .inl (fun _ => 0))), (r 3, .inl (ca 0, 16, .inl (fun _ => 0))), (r 4, .inl (ca 0, 16, .inl (fun _ => 0))), (r 5, .inl (ca 0, 16, .inl (fun _ => 0)))]) (cl + 7) (sl + 102) (pc + 4) ls (.ref q :: st)) : U own cc nL ini F L C S D ca post ws cl sl pc ls (.int 16 :: .int 6 :: st) := fun p l e s m args below meth c A H locs lsA K hP hD hS hl => by
  have hts := K.2.2.2.2.1
  have hK := K.2.2.2.2.2.2.2.1
  have hcy : s.vm.findClass (FieldType.array .int).toString = some (ca 0) := (hK.2 0 _ rfl).2
  have e0 : ws ++ va_pl [] (fun _ => .inl (ca 0, 0, .inl (fun _ => 0))) = ws := List.append_nil ws
  refine va_mna (D := D) (ty := .int) (own := own) (index := idx) (X := ws) (L := []) (f := fun _ => .inl (ca 0, 0, .inl (fun _ => 0))) (N' := 6) (K' := 16) (z := (16, .inl (fun _ => 0))) K.1 K.2.1 K.2.2.2.1 (hts _ hw) K.2.2.2.2.2.2.2.2.2.2.2.2.2 (hts _ ha) hcy hK (by rw [e0]; exact hP) (by rw [e0]; exact hD) hS K.2.2.2.2.2.2.2.2.1 (by decide) (by decide) (by decide) (by decide) (by decide) (by decide) (by decide) (by decide) (by decide) (by show cl + (1 + 6) ≤ C; omega) (by show sl + (6 + 6 * 16) ≤ S; omega) (fun _ => rfl) d (fun q r cA H1 _ _ hK1 hP1 hD1 hS1 => ?_)
  have eA : cA = ca 5 := ca_prim (ty := .array .int) (hK1.2 6 _ rfl).2 (hK.2 5 _ rfl).2
  subst eA
  have e1 : (ws ++ [(q, Sum.inl (ca 5, 6, Sum.inr (Sum.inr (Sum.inr (Sum.inr (fun i => if i < 6 then some (r i) else none))))))]) ++ va_pl ([] ++ (List.range 6).map r) (vr_up (fun _ => Sum.inl (ca 0, 0, Sum.inl (fun _ => 0))) ((List.range 6).map r) (.inl (ca 0, 16, .inl (fun _ => 0)))) = ws ++ [(q, .inl (ca 5, 6, .inr (.inr (.inr (.inr (fun i => if i < 6 then some (r i) else none)))))), (r 0, .inl (ca 0, 16, .inl (fun _ => 0))), (r 1, .inl (ca 0, 16, .inl (fun _ => 0))), (r 2, .inl (ca 0, 16, .inl (fun _ => 0))), (r 3, .inl (ca 0, 16, .inl (fun _ => 0))), (r 4, .inl (ca 0, 16, .inl (fun _ => 0))), (r 5, .inl (ca 0, 16, .inl (fun _ => 0)))] := by
    rw [List.append_assoc]
    congr 1
    have hm : ∀ i, i < 6 → vr_up (fun _ => Sum.inl (ca 0, 0, Sum.inl (fun _ => 0))) ((List.range 6).map r) (.inl (ca 0, 16, .inl (fun _ => 0))) (r i) = (.inl (ca 0, 16, .inl (fun _ => 0)) : va_E) := fun i hi => vr_up_in (List.mem_map.mpr ⟨i, List.mem_range.mpr hi, rfl⟩)
    show [_] ++ List.map _ [r 0, r 1, r 2, r 3, r 4, r 5] = _
    simp only [List.map_cons, List.map_nil, List.cons_append, List.nil_append]
    rw [hm 0 (by decide), hm 1 (by decide), hm 2 (by decide), hm 3 (by decide), hm 4 (by decide), hm 5 (by decide)]
  rw [e1] at hP1 hD1
  exact W.widen (by (first | decide +kernel | omega)) (by (first | decide +kernel | omega)) (k q r p l e s m args below meth c A H1 locs lsA K hP1 hD1 hS1 hl)
theorem U_iast {q0 a n : Nat} {i x : Int32} {f : Nat → Int32} (ha : ws[q0]? = some (a, .inl (ca 0, n, .inl f))) (hin : vp_in i n) (d : decode cc pc = .ok (.iastore, 1)) (k : U own cc nL ini F L C S D ca post (ws.set q0 (a, .inl (ca 0, n, .inl (upd f i.toNatClampNeg x)))) cl sl (pc + 1) ls st) : U own cc nL ini F L C S D ca post ws cl sl pc ls (.int x :: .int i :: .ref a :: st) := fun p l e s m args below meth c A H locs lsA K hP hD hS hl =>
  va_iast (D := D) K.1 K.2.1 K.2.2.2.2.2.2.2.1 hP hD hS q0 0 ha rfl hin d (fun H1 locs1 hP1 hD1 hS1 => k p l e s m args below meth c A H1 locs1 lsA K hP1 hD1 hS1 hl)
theorem U_alen {q0 a n : Nat} {v : Int32} {f : Nat → Int32} (ha : ws[q0]? = some (a, .inl (ca 0, n, .inl f))) (hv : Int32.ofNat n = v) (d : decode cc pc = .ok (.arraylength, 1)) (k : U own cc nL ini F L C S D ca post ws cl sl (pc + 1) ls (.int v :: st)) : U own cc nL ini F L C S D ca post ws cl sl pc ls (.ref a :: st) := fun p l e s m args below meth c A H locs lsA K hP hD hS hl =>
  va_alen (D := D) K.1 K.2.1 K.2.2.2.2.2.2.2.1 hP q0 0 ha rfl hv d (k p l e s m args below meth c A H locs lsA K hP hD hS hl)
theorem U_row1 {q n : Nat} {f g : Nat → Int32} (h : ∀ j, j < n → f j = g j) (k : U own cc nL ini F L C S D ca post [(q, .inl (ca 0, n, .inl g))] cl sl pc ls st) : U own cc nL ini F L C S D ca post [(q, .inl (ca 0, n, .inl f))] cl sl pc ls st := fun p l e s m args below meth c A H locs lsA K hP hD hS hl => by
  refine k p l e s m args below meth c A H locs lsA K ?_ ?_ hS hl
  · intro k9 x hx
    have h0 : k9 < 1 := (List.getElem?_eq_some_iff.mp hx).1
    rw [show k9 = 0 by (first | decide +kernel | omega)] at hx
    cases hx
    have h1 := hP 0 _ rfl
    show H[q]? = some (vp_cell (ca 0) (n, .inl g))
    rw [← arrV_congr h]
    exact h1
  · refine ⟨fun i j x y hx hy _ => ?_, fun k9 x hx => ?_⟩
    · have h0 : i < 1 := (List.getElem?_eq_some_iff.mp hx).1
      have h1 : j < 1 := (List.getElem?_eq_some_iff.mp hy).1
      omega
    · have h0 : k9 < 1 := (List.getElem?_eq_some_iff.mp hx).1
      rw [show k9 = 0 by (first | decide +kernel | omega)] at hx
      cases hx
      exact hD.2 0 (q, .inl (ca 0, n, .inl f)) rfl
end UM
theorem k_fill_l (D : va_G) (ca : Nat → ClassId) (q n : Nat) (hn : n < 1000) (v w : Int32) (hw : w.toInt = n) : ∀ (d j : Nat) (x : Int32) (f : Nat → Int32), n - j = d → x.toInt = j → j ≤ n → (∀ i, i < j → f i = v) → U R_Arr b_Arr_fill 4 false 0 0 0 0 D ca (fun w => w = [(q, .inl (ca 0, n, .inl (fun _ => v)))]) [(q, .inl (ca 0, n, .inl f))] 0 0 5 [some (.ref q), some (.int v), some (.int x), some (.int w)] [] := by
  intro d
  induction d with
  | zero =>
    intro j x f hd hx hj hf
    refine U_iload_n 2 d_Arr_fill_5 rfl rfl ?_
    refine U_iload_n 3 d_Arr_fill_6 rfl rfl ?_
    refine U_icmp_ge 20 d_Arr_fill_7 (by decide) (fun _ => ?_) (fun c => absurd ((ti_le hw hx).mpr (by (first | decide +kernel | omega))) c)
    refine U_row1 (g := fun _ => v) (fun i hi => hf i (by (first | decide +kernel | omega))) ?_
    exact U_vret d_Arr_fill_20 rfl rfl rfl
  | succ d ih =>
    intro j x f hd hx hj hf
    refine U_iload_n 2 d_Arr_fill_5 rfl rfl ?_
    refine U_iload_n 3 d_Arr_fill_6 rfl rfl ?_
    refine U_icmp_ge 20 d_Arr_fill_7 (by decide) (fun c => absurd ((ti_le hw hx).mp c) (by (first | decide +kernel | omega))) (fun _ => ?_)
    refine U_aload_n 0 d_Arr_fill_10 rfl rfl ?_
    refine U_iload_n 2 d_Arr_fill_11 rfl rfl ?_
    refine U_iload_n 1 d_Arr_fill_12 rfl rfl ?_
    refine U_iast (q0 := 0) rfl (vp_in_of_ti hx (by (first | decide +kernel | omega))) d_Arr_fill_13 ?_
    refine U_iinc (v := x + 1) 2 [some (.ref q), some (.int v), some (.int (x + 1)), some (.int w)] d_Arr_fill_14 rfl rfl (by decide) rfl rfl ?_
    refine U_goto 5 d_Arr_fill_17 (by decide) ?_
    refine ih (j + 1) (x + 1) (upd f x.toNatClampNeg v) (by (first | decide +kernel | omega)) ?_ (by (first | decide +kernel | omega)) ?_
    · rw [ti_add hx (show (1 : Int32).toInt = 1 by decide) (by (first | decide +kernel | omega))]; omega
    · intro i hi
      have e : x.toNatClampNeg = j := by rw [ti_cl, hx]; omega
      rw [e]
      by_cases hij : i = j
      · subst hij; exact if_pos rfl
      · exact (if_neg hij).trans (hf i (by (first | decide +kernel | omega)))
theorem k_fill (D : va_G) (ca : Nat → ClassId) (q n : Nat) (hn : n < 1000) (f : Nat → Int32) (v : Int32) : Cu y_Arr_fill b_Arr_fill 4 0 0 0 0 D ca [.ref q, .int v] [(q, .inl (ca 0, n, .inl f))] (fun w => w = [(q, .inl (ca 0, n, .inl (fun _ => v)))]) := by
  refine cu_of R_Arr false [some (.ref q), some (.int v), none, none] rfl (fun q => by cases q) (by decide) rfl (Nat.le_of_ble_eq_true rfl) ?_
  refine U_iconst 0 d_Arr_fill_0 (by decide) ?_
  refine U_istore_n 2 [some (.ref q), some (.int v), some (.int 0), none] d_Arr_fill_1 rfl (by decide) rfl rfl ?_
  refine U_aload_n 0 d_Arr_fill_2 rfl rfl ?_
  refine U_alen (q0 := 0) rfl rfl d_Arr_fill_3 ?_
  refine U_istore_n 3 [some (.ref q), some (.int v), some (.int 0), some (.int (Int32.ofNat n))] d_Arr_fill_4 rfl (by decide) rfl rfl ?_
  have hw : (Int32.ofNat n).toInt = n := by
    rw [Int32.toInt_ofNat_of_lt (by (first | decide +kernel | omega))]
  exact k_fill_l D ca q n hn v _ hw (n - 0) 0 0 f rfl (by decide) (by (first | decide +kernel | omega)) (fun i hi => absurd hi (by (first | decide +kernel | omega)))
end
