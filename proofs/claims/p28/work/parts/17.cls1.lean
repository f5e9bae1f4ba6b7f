section
theorem wc_Int_265 : Cond.constant R_Int 265 1431655765 ∈ vv_G := vv_Gin (List.mem_append_right _ (List.mem_append_right _ (List.mem_append_right _ (List.mem_append_left _ (List.mem_of_getElem? (i := 189) (by decide +kernel)))))) (by decide +kernel)
theorem wc_Int_266 : Cond.constant R_Int 266 858993459 ∈ vv_G := vv_Gin (List.mem_append_right _ (List.mem_append_right _ (List.mem_append_right _ (List.mem_append_left _ (List.mem_of_getElem? (i := 190) (by decide +kernel)))))) (by decide +kernel)
theorem wc_Int_267 : Cond.constant R_Int 267 252645135 ∈ vv_G := vv_Gin (List.mem_append_right _ (List.mem_append_right _ (List.mem_append_right _ (List.mem_append_left _ (List.mem_of_getElem? (i := 191) (by decide +kernel)))))) (by decide +kernel)
theorem tc_18 : (18 : Int32).toInt = 18 := rfl
theorem cb_Rod_reachOf : CB y_Rod_reachOf b_Rod_reachOf 1 (some .int) 1 := ⟨vv_Gin (List.mem_append_right _ (List.mem_append_right _ (List.mem_append_right _ (List.mem_append_left _ (List.mem_of_getElem? (i := 238) rfl))))) rfl, by decide +kernel, vv_Gin (List.mem_append_right _ (List.mem_append_left _ (List.mem_of_getElem? (i := 1) rfl))) rfl⟩
theorem st_Rod_reachOf : Cond.static y_Rod_reachOf ∈ vv_G := vv_Gin (List.mem_append_right _ (List.mem_append_right _ (List.mem_append_right _ (List.mem_append_left _ (List.mem_of_getElem? (i := 237) rfl))))) rfl
theorem cs_Rod_318 : CS R_Rod 318 y_Rod_reachOf b_Rod_reachOf 1 (some .int) 1 := ⟨cb_Rod_reachOf, st_Rod_reachOf, Or.inl (vv_Gin (List.mem_append_right _ (List.mem_append_right _ (List.mem_append_right _ (List.mem_append_right _ (List.mem_append_left _ (List.mem_of_getElem? (i := 8) rfl)))))) rfl)⟩
theorem wc_Rod_321 : Cond.constant R_Rod 321 1103515245 ∈ vv_G := vv_Gin (List.mem_append_right _ (List.mem_append_right _ (List.mem_append_right _ (List.mem_append_right _ (List.mem_append_left _ (List.mem_of_getElem? (i := 146) (by decide +kernel))))))) (by decide +kernel)
theorem fa_Land_27 : FA R_Land 27 2 0 := ⟨_, _, _, rfl, i_Land, by decide, vv_Gin (List.mem_append_right _ (List.mem_append_left _ (List.mem_of_getElem? (i := 41) rfl))) rfl⟩
theorem fa_Land_31 : FA R_Land 31 2 1 := ⟨_, _, _, rfl, i_Land, by decide, vv_Gin (List.mem_append_right _ (List.mem_append_left _ (List.mem_of_getElem? (i := 45) rfl))) rfl⟩
theorem cb_Land_cells : CB y_Land_cells b_Land_cells 1 (some .int) 0 := ⟨vv_Gin (List.mem_append_right _ (List.mem_append_right _ (List.mem_append_right _ (List.mem_append_left _ (List.mem_of_getElem? (i := 78) rfl))))) rfl, by decide +kernel, vv_Gin (List.mem_append_right _ (List.mem_append_left _ (List.mem_of_getElem? (i := 3) rfl))) rfl⟩
theorem im_Land_cells : Cond.instanceMethod y_Land_cells ∈ vv_G := vv_Gin (List.mem_append_right _ (List.mem_append_right _ (List.mem_append_right _ (List.mem_append_left _ (List.mem_of_getElem? (i := 76) rfl))))) rfl
theorem se_Land_cells : Cond.selects y_Land_cells.cls y_Land_cells y_Land_cells ∈ vv_G := vv_Gin (List.mem_append_right _ (List.mem_append_right _ (List.mem_append_right _ (List.mem_append_left _ (List.mem_of_getElem? (i := 77) rfl))))) rfl
theorem cv_Land_52 : CV R_Land 52 y_Land_cells b_Land_cells 1 (some .int) 0 := ⟨cb_Land_cells, im_Land_cells, se_Land_cells, vv_Gin (List.mem_append_right _ (List.mem_append_right _ (List.mem_append_right _ (List.mem_append_left _ (List.mem_of_getElem? (i := 75) rfl))))) rfl⟩
theorem fa_Land_9 : FA R_Land 9 2 4 := ⟨_, _, _, rfl, i_Land, by decide, vv_Gin (List.mem_append_right _ (List.mem_append_left _ (List.mem_of_getElem? (i := 59) rfl))) rfl⟩
theorem fa_Land_24 : FA R_Land 24 2 8 := ⟨_, _, _, rfl, i_Land, by decide, vv_Gin (List.mem_append_right _ (List.mem_append_left _ (List.mem_of_getElem? (i := 76) rfl))) rfl⟩
theorem cb_Land_isWell : CB y_Land_isWell b_Land_isWell 2 (some .boolean) 1 := ⟨vv_Gin (List.mem_append_right _ (List.mem_append_right _ (List.mem_append_right _ (List.mem_append_left _ (List.mem_of_getElem? (i := 119) rfl))))) rfl, by decide +kernel, vv_Gin (List.mem_append_right _ (List.mem_append_left _ (List.mem_of_getElem? (i := 3) rfl))) rfl⟩
theorem im_Land_isWell : Cond.instanceMethod y_Land_isWell ∈ vv_G := vv_Gin (List.mem_append_right _ (List.mem_append_right _ (List.mem_append_right _ (List.mem_append_left _ (List.mem_of_getElem? (i := 117) rfl))))) rfl
theorem se_Land_isWell : Cond.selects y_Land_isWell.cls y_Land_isWell y_Land_isWell ∈ vv_G := vv_Gin (List.mem_append_right _ (List.mem_append_right _ (List.mem_append_right _ (List.mem_append_left _ (List.mem_of_getElem? (i := 118) rfl))))) rfl
theorem cv_Land_56 : CV R_Land 56 y_Land_isWell b_Land_isWell 2 (some .boolean) 1 := ⟨cb_Land_isWell, im_Land_isWell, se_Land_isWell, vv_Gin (List.mem_append_right _ (List.mem_append_right _ (List.mem_append_right _ (List.mem_append_left _ (List.mem_of_getElem? (i := 185) rfl))))) rfl⟩
theorem cb_Land_wellBits : CB y_Land_wellBits b_Land_wellBits 3 (some .int) 0 := ⟨vv_Gin (List.mem_append_right _ (List.mem_append_right _ (List.mem_append_right _ (List.mem_append_left _ (List.mem_of_getElem? (i := 184) rfl))))) rfl, by decide +kernel, vv_Gin (List.mem_append_right _ (List.mem_append_left _ (List.mem_of_getElem? (i := 3) rfl))) rfl⟩
theorem im_Land_wellBits : Cond.instanceMethod y_Land_wellBits ∈ vv_G := vv_Gin (List.mem_append_right _ (List.mem_append_right _ (List.mem_append_right _ (List.mem_append_left _ (List.mem_of_getElem? (i := 182) rfl))))) rfl
theorem se_Land_wellBits : Cond.selects y_Land_wellBits.cls y_Land_wellBits y_Land_wellBits ∈ vv_G := vv_Gin (List.mem_append_right _ (List.mem_append_right _ (List.mem_append_right _ (List.mem_append_left _ (List.mem_of_getElem? (i := 183) rfl))))) rfl
theorem cv_Land_60 : CV R_Land 60 y_Land_wellBits b_Land_wellBits 3 (some .int) 0 := ⟨cb_Land_wellBits, im_Land_wellBits, se_Land_wellBits, vv_Gin (List.mem_append_right _ (List.mem_append_right _ (List.mem_append_right _ (List.mem_append_left _ (List.mem_of_getElem? (i := 181) rfl))))) rfl⟩
theorem cb_Int_bitCount : CB y_Int_bitCount b_Int_bitCount 1 (some .int) 1 := ⟨vv_Gin (List.mem_append_right _ (List.mem_append_right _ (List.mem_append_right _ (List.mem_append_left _ (List.mem_of_getElem? (i := 188) rfl))))) rfl, by decide +kernel, vv_Gin (List.mem_append_right _ (List.mem_append_left _ (List.mem_of_getElem? (i := 20) rfl))) rfl⟩
theorem st_Int_bitCount : Cond.static y_Int_bitCount ∈ vv_G := vv_Gin (List.mem_append_right _ (List.mem_append_right _ (List.mem_append_right _ (List.mem_append_left _ (List.mem_of_getElem? (i := 187) rfl))))) rfl
theorem cs_Land_63 : CS R_Land 63 y_Int_bitCount b_Int_bitCount 1 (some .int) 1 := ⟨cb_Int_bitCount, st_Int_bitCount, Or.inl (vv_Gin (List.mem_append_right _ (List.mem_append_right _ (List.mem_append_right _ (List.mem_append_left _ (List.mem_of_getElem? (i := 186) rfl))))) rfl)⟩
theorem wm_Land_69 : Cond.methodLink R_Land 69 Lib.Math.max.name ∈ vv_G := vv_Gin (List.mem_append_right _ (List.mem_append_right _ (List.mem_append_right _ (List.mem_append_left _ (List.mem_of_getElem? (i := 174) (by decide +kernel)))))) (by decide +kernel)
theorem cb_Land_has : CB y_Land_has b_Land_has 2 (some .boolean) 1 := ⟨vv_Gin (List.mem_append_right _ (List.mem_append_right _ (List.mem_append_right _ (List.mem_append_left _ (List.mem_of_getElem? (i := 115) rfl))))) rfl, by decide +kernel, vv_Gin (List.mem_append_right _ (List.mem_append_left _ (List.mem_of_getElem? (i := 3) rfl))) rfl⟩
theorem im_Land_has : Cond.instanceMethod y_Land_has ∈ vv_G := vv_Gin (List.mem_append_right _ (List.mem_append_right _ (List.mem_append_right _ (List.mem_append_left _ (List.mem_of_getElem? (i := 113) rfl))))) rfl
theorem se_Land_has : Cond.selects y_Land_has.cls y_Land_has y_Land_has ∈ vv_G := vv_Gin (List.mem_append_right _ (List.mem_append_right _ (List.mem_append_right _ (List.mem_append_left _ (List.mem_of_getElem? (i := 114) rfl))))) rfl
theorem cv_Land_75 : CV R_Land 75 y_Land_has b_Land_has 2 (some .boolean) 1 := ⟨cb_Land_has, im_Land_has, se_Land_has, vv_Gin (List.mem_append_right _ (List.mem_append_right _ (List.mem_append_right _ (List.mem_append_right _ (List.mem_append_left _ (List.mem_of_getElem? (i := 34) rfl)))))) rfl⟩
theorem fa_Land_21 : FA R_Land 21 2 7 := ⟨_, _, _, rfl, i_Land, by decide, vv_Gin (List.mem_append_right _ (List.mem_append_left _ (List.mem_of_getElem? (i := 71) rfl))) rfl⟩
theorem fa_Land_15 : FA R_Land 15 2 5 := ⟨_, _, _, rfl, i_Land, by decide, vv_Gin (List.mem_append_right _ (List.mem_append_left _ (List.mem_of_getElem? (i := 64) rfl))) rfl⟩
theorem tc_21 : (21 : Int32).toInt = 21 := rfl
theorem cb_Rod_natureOf : CB y_Rod_natureOf b_Rod_natureOf 1 (some .int) 1 := ⟨vv_Gin (List.mem_append_right _ (List.mem_append_right _ (List.mem_append_right _ (List.mem_append_left _ (List.mem_of_getElem? (i := 235) rfl))))) rfl, by decide +kernel, vv_Gin (List.mem_append_right _ (List.mem_append_left _ (List.mem_of_getElem? (i := 1) rfl))) rfl⟩
theorem st_Rod_natureOf : Cond.static y_Rod_natureOf ∈ vv_G := vv_Gin (List.mem_append_right _ (List.mem_append_right _ (List.mem_append_right _ (List.mem_append_left _ (List.mem_of_getElem? (i := 234) rfl))))) rfl
theorem cs_Land_78 : CS R_Land 78 y_Rod_natureOf b_Rod_natureOf 1 (some .int) 1 := ⟨cb_Rod_natureOf, st_Rod_natureOf, Or.inr (by decide +kernel)⟩
theorem cs_Land_81 : CS R_Land 81 y_Rod_reachOf b_Rod_reachOf 1 (some .int) 1 := ⟨cb_Rod_reachOf, st_Rod_reachOf, Or.inr (by decide +kernel)⟩
theorem cb_Land_twitches : CB y_Land_twitches b_Land_twitches 8 (some .boolean) 5 := ⟨vv_Gin (List.mem_append_right _ (List.mem_append_right _ (List.mem_append_right _ (List.mem_append_left _ (List.mem_of_getElem? (i := 207) rfl))))) rfl, by decide +kernel, vv_Gin (List.mem_append_right _ (List.mem_append_left _ (List.mem_of_getElem? (i := 3) rfl))) rfl⟩
theorem im_Land_twitches : Cond.instanceMethod y_Land_twitches ∈ vv_G := vv_Gin (List.mem_append_right _ (List.mem_append_right _ (List.mem_append_right _ (List.mem_append_left _ (List.mem_of_getElem? (i := 205) rfl))))) rfl
theorem se_Land_twitches : Cond.selects y_Land_twitches.cls y_Land_twitches y_Land_twitches ∈ vv_G := vv_Gin (List.mem_append_right _ (List.mem_append_right _ (List.mem_append_right _ (List.mem_append_left _ (List.mem_of_getElem? (i := 206) rfl))))) rfl
theorem cv_Land_84 : CV R_Land 84 y_Land_twitches b_Land_twitches 8 (some .boolean) 5 := ⟨cb_Land_twitches, im_Land_twitches, se_Land_twitches, vv_Gin (List.mem_append_right _ (List.mem_append_right _ (List.mem_append_right _ (List.mem_append_left _ (List.mem_of_getElem? (i := 239) rfl))))) rfl⟩
theorem fp_Land_27 : FP R_Land 27 2 0 .int := ⟨_, _, _, t_Land, rfl, i_Land, by decide, vv_Gin (List.mem_append_right _ (List.mem_append_left _ (List.mem_of_getElem? (i := 41) rfl))) rfl, t_Land_ok, n_Land, rfl, t_Land_ok 0 (by decide)⟩
theorem fp_Land_31 : FP R_Land 31 2 1 .int := ⟨_, _, _, t_Land, rfl, i_Land, by decide, vv_Gin (List.mem_append_right _ (List.mem_append_left _ (List.mem_of_getElem? (i := 45) rfl))) rfl, t_Land_ok, n_Land, rfl, t_Land_ok 1 (by decide)⟩
theorem fp_Land_34 : FP R_Land 34 2 2 .int := ⟨_, _, _, t_Land, rfl, i_Land, by decide, vv_Gin (List.mem_append_right _ (List.mem_append_left _ (List.mem_of_getElem? (i := 49) rfl))) rfl, t_Land_ok, n_Land, rfl, t_Land_ok 2 (by decide)⟩
theorem fp_Land_37 : FP R_Land 37 2 3 .int := ⟨_, _, _, t_Land, rfl, i_Land, by decide, vv_Gin (List.mem_append_right _ (List.mem_append_left _ (List.mem_of_getElem? (i := 54) rfl))) rfl, t_Land_ok, n_Land, rfl, t_Land_ok 3 (by decide)⟩
theorem cb_Arr_fill : CB y_Arr_fill b_Arr_fill 4 none 2 := ⟨vv_Gin (List.mem_append_right _ (List.mem_append_left _ (List.mem_of_getElem? (i := 165) rfl))) rfl, by decide +kernel, vv_Gin (List.mem_append_right _ (List.mem_append_left _ (List.mem_of_getElem? (i := 6) rfl))) rfl⟩
theorem st_Arr_fill : Cond.static y_Arr_fill ∈ vv_G := vv_Gin (List.mem_append_right _ (List.mem_append_left _ (List.mem_of_getElem? (i := 164) rfl))) rfl
theorem cs_Land_40 : CS R_Land 40 y_Arr_fill b_Arr_fill 4 none 2 := ⟨cb_Arr_fill, st_Arr_fill, Or.inl (vv_Gin (List.mem_append_right _ (List.mem_append_left _ (List.mem_of_getElem? (i := 163) rfl))) rfl)⟩
theorem fa_Land_18 : FA R_Land 18 2 6 := ⟨_, _, _, rfl, i_Land, by decide, vv_Gin (List.mem_append_right _ (List.mem_append_left _ (List.mem_of_getElem? (i := 67) rfl))) rfl⟩
theorem fa_Ledger_9 : FA R_Ledger 9 3 0 := ⟨_, _, _, rfl, i_Ledger, by decide, vv_Gin (List.mem_append_right _ (List.mem_append_left _ (List.mem_of_getElem? (i := 106) rfl))) rfl⟩
theorem cs_Ledger_24 : CS R_Ledger 24 y_Arr_fill b_Arr_fill 4 none 2 := ⟨cb_Arr_fill, st_Arr_fill, Or.inl (vv_Gin (List.mem_append_right _ (List.mem_append_left _ (List.mem_of_getElem? (i := 170) rfl))) rfl)⟩
theorem fp_Ledger_30 : FP R_Ledger 30 3 4 .int := ⟨_, _, _, t_Ledger, rfl, i_Ledger, by decide, vv_Gin (List.mem_append_right _ (List.mem_append_left _ (List.mem_of_getElem? (i := 113) rfl))) rfl, t_Ledger_ok, n_Ledger, rfl, t_Ledger_ok 4 (by decide)⟩
theorem fa_County_12 : FA R_County 12 1 0 := ⟨_, _, _, rfl, i_County, by decide, vv_Gin (List.mem_append_right _ (List.mem_append_left _ (List.mem_of_getElem? (i := 171) rfl))) rfl⟩
theorem cb_Land_reset : CB y_Land_reset b_Land_reset 1 none 0 := ⟨vv_Gin (List.mem_append_right _ (List.mem_append_left _ (List.mem_of_getElem? (i := 162) rfl))) rfl, by decide +kernel, vv_Gin (List.mem_append_right _ (List.mem_append_left _ (List.mem_of_getElem? (i := 3) rfl))) rfl⟩
theorem im_Land_reset : Cond.instanceMethod y_Land_reset ∈ vv_G := vv_Gin (List.mem_append_right _ (List.mem_append_left _ (List.mem_of_getElem? (i := 160) rfl))) rfl
theorem se_Land_reset : Cond.selects y_Land_reset.cls y_Land_reset y_Land_reset ∈ vv_G := vv_Gin (List.mem_append_right _ (List.mem_append_left _ (List.mem_of_getElem? (i := 161) rfl))) rfl
theorem cv_County_35 : CV R_County 35 y_Land_reset b_Land_reset 1 none 0 := ⟨cb_Land_reset, im_Land_reset, se_Land_reset, vv_Gin (List.mem_append_right _ (List.mem_append_left _ (List.mem_of_getElem? (i := 159) rfl))) rfl⟩
theorem fa_County_21 : FA R_County 21 1 1 := ⟨_, _, _, rfl, i_County, by decide, vv_Gin (List.mem_append_right _ (List.mem_append_left _ (List.mem_of_getElem? (i := 175) rfl))) rfl⟩
theorem cb_Ledger_reset : CB y_Ledger_reset b_Ledger_reset 1 none 0 := ⟨vv_Gin (List.mem_append_right _ (List.mem_append_left _ (List.mem_of_getElem? (i := 169) rfl))) rfl, by decide +kernel, vv_Gin (List.mem_append_right _ (List.mem_append_left _ (List.mem_of_getElem? (i := 4) rfl))) rfl⟩
theorem im_Ledger_reset : Cond.instanceMethod y_Ledger_reset ∈ vv_G := vv_Gin (List.mem_append_right _ (List.mem_append_left _ (List.mem_of_getElem? (i := 167) rfl))) rfl
theorem se_Ledger_reset : Cond.selects y_Ledger_reset.cls y_Ledger_reset y_Ledger_reset ∈ vv_G := vv_Gin (List.mem_append_right _ (List.mem_append_left _ (List.mem_of_getElem? (i := 168) rfl))) rfl
theorem cv_County_36 : CV R_County 36 y_Ledger_reset b_Ledger_reset 1 none 0 := ⟨cb_Ledger_reset, im_Ledger_reset, se_Ledger_reset, vv_Gin (List.mem_append_right _ (List.mem_append_left _ (List.mem_of_getElem? (i := 166) rfl))) rfl⟩
theorem fa_County_28 : FA R_County 28 1 2 := ⟨_, _, _, rfl, i_County, by decide, vv_Gin (List.mem_append_right _ (List.mem_append_left _ (List.mem_of_getElem? (i := 178) rfl))) rfl⟩
theorem fp_County_37 : FP R_County 37 7 4 .int := ⟨_, _, _, t_Sights, rfl, i_Sights, by decide, vv_Gin (List.mem_append_right _ (List.mem_append_left _ (List.mem_of_getElem? (i := 141) rfl))) rfl, t_Sights_ok, n_Sights, rfl, t_Sights_ok 4 (by decide)⟩
theorem fp_County_41 : FP R_County 41 1 3 .int := ⟨_, _, _, t_County, rfl, i_County, by decide, vv_Gin (List.mem_append_right _ (List.mem_append_left _ (List.mem_of_getElem? (i := 180) rfl))) rfl, t_County_ok, n_County, rfl, t_County_ok 3 (by decide)⟩
theorem fp_County_44 : FP R_County 44 1 4 .int := ⟨_, _, _, t_County, rfl, i_County, by decide, vv_Gin (List.mem_append_right _ (List.mem_append_left _ (List.mem_of_getElem? (i := 183) rfl))) rfl, t_County_ok, n_County, rfl, t_County_ok 4 (by decide)⟩
theorem fa_Land_34 : FA R_Land 34 2 2 := ⟨_, _, _, rfl, i_Land, by decide, vv_Gin (List.mem_append_right _ (List.mem_append_left _ (List.mem_of_getElem? (i := 49) rfl))) rfl⟩
theorem fa_Land_37 : FA R_Land 37 2 3 := ⟨_, _, _, rfl, i_Land, by decide, vv_Gin (List.mem_append_right _ (List.mem_append_left _ (List.mem_of_getElem? (i := 54) rfl))) rfl⟩
theorem wa_Land_46 : Cond.methodLink R_Land 46 arraycopyName ∈ vv_G := vv_Gin (List.mem_append_right _ (List.mem_append_right _ (List.mem_append_right _ (List.mem_append_left _ (List.mem_of_getElem? (i := 87) (by decide +kernel)))))) (by decide +kernel)
theorem wa_Ledger_34 : Cond.methodLink R_Ledger 34 arraycopyName ∈ vv_G := vv_Gin (List.mem_append_right _ (List.mem_append_right _ (List.mem_append_right _ (List.mem_append_left _ (List.mem_of_getElem? (i := 94) (by decide +kernel)))))) (by decide +kernel)
theorem fa_Ledger_15 : FA R_Ledger 15 3 1 := ⟨_, _, _, rfl, i_Ledger, by decide, vv_Gin (List.mem_append_right _ (List.mem_append_left _ (List.mem_of_getElem? (i := 110) rfl))) rfl⟩
theorem fa_Ledger_18 : FA R_Ledger 18 3 2 := ⟨_, _, _, rfl, i_Ledger, by decide, vv_Gin (List.mem_append_right _ (List.mem_append_left _ (List.mem_of_getElem? (i := 111) rfl))) rfl⟩
theorem fa_Ledger_21 : FA R_Ledger 21 3 3 := ⟨_, _, _, rfl, i_Ledger, by decide, vv_Gin (List.mem_append_right _ (List.mem_append_left _ (List.mem_of_getElem? (i := 112) rfl))) rfl⟩
theorem fa_Ledger_30 : FA R_Ledger 30 3 4 := ⟨_, _, _, rfl, i_Ledger, by decide, vv_Gin (List.mem_append_right _ (List.mem_append_left _ (List.mem_of_getElem? (i := 113) rfl))) rfl⟩
theorem fa_Sights_9 : FA R_Sights 9 7 0 := ⟨_, _, _, rfl, i_Sights, by decide, vv_Gin (List.mem_append_right _ (List.mem_append_left _ (List.mem_of_getElem? (i := 133) rfl))) rfl⟩
theorem wa_Sights_24 : Cond.methodLink R_Sights 24 arraycopyName ∈ vv_G := vv_Gin (List.mem_append_right _ (List.mem_append_right _ (List.mem_append_right _ (List.mem_append_left _ (List.mem_of_getElem? (i := 99) (by decide +kernel)))))) (by decide +kernel)
theorem fa_Sights_15 : FA R_Sights 15 7 1 := ⟨_, _, _, rfl, i_Sights, by decide, vv_Gin (List.mem_append_right _ (List.mem_append_left _ (List.mem_of_getElem? (i := 135) rfl))) rfl⟩
theorem fa_Sights_18 : FA R_Sights 18 7 2 := ⟨_, _, _, rfl, i_Sights, by decide, vv_Gin (List.mem_append_right _ (List.mem_append_left _ (List.mem_of_getElem? (i := 137) rfl))) rfl⟩
theorem fa_Sights_21 : FA R_Sights 21 7 3 := ⟨_, _, _, rfl, i_Sights, by decide, vv_Gin (List.mem_append_right _ (List.mem_append_left _ (List.mem_of_getElem? (i := 139) rfl))) rfl⟩
theorem fa_Sights_30 : FA R_Sights 30 7 4 := ⟨_, _, _, rfl, i_Sights, by decide, vv_Gin (List.mem_append_right _ (List.mem_append_left _ (List.mem_of_getElem? (i := 142) rfl))) rfl⟩
theorem fp_Sights_30 : FP R_Sights 30 7 4 .int := ⟨_, _, _, t_Sights, rfl, i_Sights, by decide, vv_Gin (List.mem_append_right _ (List.mem_append_left _ (List.mem_of_getElem? (i := 142) rfl))) rfl, t_Sights_ok, n_Sights, rfl, t_Sights_ok 4 (by decide)⟩
theorem cb_Land_copyFrom : CB y_Land_copyFrom b_Land_copyFrom 2 none 1 := ⟨vv_Gin (List.mem_append_right _ (List.mem_append_right _ (List.mem_append_right _ (List.mem_append_left _ (List.mem_of_getElem? (i := 86) rfl))))) rfl, by decide +kernel, vv_Gin (List.mem_append_right _ (List.mem_append_left _ (List.mem_of_getElem? (i := 3) rfl))) rfl⟩
theorem im_Land_copyFrom : Cond.instanceMethod y_Land_copyFrom ∈ vv_G := vv_Gin (List.mem_append_right _ (List.mem_append_right _ (List.mem_append_right _ (List.mem_append_left _ (List.mem_of_getElem? (i := 84) rfl))))) rfl
theorem se_Land_copyFrom : Cond.selects y_Land_copyFrom.cls y_Land_copyFrom y_Land_copyFrom ∈ vv_G := vv_Gin (List.mem_append_right _ (List.mem_append_right _ (List.mem_append_right _ (List.mem_append_left _ (List.mem_of_getElem? (i := 85) rfl))))) rfl
theorem cv_County_47 : CV R_County 47 y_Land_copyFrom b_Land_copyFrom 2 none 1 := ⟨cb_Land_copyFrom, im_Land_copyFrom, se_Land_copyFrom, vv_Gin (List.mem_append_right _ (List.mem_append_right _ (List.mem_append_right _ (List.mem_append_left _ (List.mem_of_getElem? (i := 83) rfl))))) rfl⟩
theorem cb_Ledger_copyFrom : CB y_Ledger_copyFrom b_Ledger_copyFrom 2 none 1 := ⟨vv_Gin (List.mem_append_right _ (List.mem_append_right _ (List.mem_append_right _ (List.mem_append_left _ (List.mem_of_getElem? (i := 93) rfl))))) rfl, by decide +kernel, vv_Gin (List.mem_append_right _ (List.mem_append_left _ (List.mem_of_getElem? (i := 4) rfl))) rfl⟩
theorem im_Ledger_copyFrom : Cond.instanceMethod y_Ledger_copyFrom ∈ vv_G := vv_Gin (List.mem_append_right _ (List.mem_append_right _ (List.mem_append_right _ (List.mem_append_left _ (List.mem_of_getElem? (i := 91) rfl))))) rfl
theorem se_Ledger_copyFrom : Cond.selects y_Ledger_copyFrom.cls y_Ledger_copyFrom y_Ledger_copyFrom ∈ vv_G := vv_Gin (List.mem_append_right _ (List.mem_append_right _ (List.mem_append_right _ (List.mem_append_left _ (List.mem_of_getElem? (i := 92) rfl))))) rfl
theorem cv_County_51 : CV R_County 51 y_Ledger_copyFrom b_Ledger_copyFrom 2 none 1 := ⟨cb_Ledger_copyFrom, im_Ledger_copyFrom, se_Ledger_copyFrom, vv_Gin (List.mem_append_right _ (List.mem_append_right _ (List.mem_append_right _ (List.mem_append_left _ (List.mem_of_getElem? (i := 90) rfl))))) rfl⟩
theorem cb_Sights_copyFrom : CB y_Sights_copyFrom b_Sights_copyFrom 2 none 1 := ⟨vv_Gin (List.mem_append_right _ (List.mem_append_right _ (List.mem_append_right _ (List.mem_append_left _ (List.mem_of_getElem? (i := 98) rfl))))) rfl, by decide +kernel, vv_Gin (List.mem_append_right _ (List.mem_append_left _ (List.mem_of_getElem? (i := 5) rfl))) rfl⟩
theorem im_Sights_copyFrom : Cond.instanceMethod y_Sights_copyFrom ∈ vv_G := vv_Gin (List.mem_append_right _ (List.mem_append_right _ (List.mem_append_right _ (List.mem_append_left _ (List.mem_of_getElem? (i := 96) rfl))))) rfl
theorem se_Sights_copyFrom : Cond.selects y_Sights_copyFrom.cls y_Sights_copyFrom y_Sights_copyFrom ∈ vv_G := vv_Gin (List.mem_append_right _ (List.mem_append_right _ (List.mem_append_right _ (List.mem_append_left _ (List.mem_of_getElem? (i := 97) rfl))))) rfl
theorem cv_County_54 : CV R_County 54 y_Sights_copyFrom b_Sights_copyFrom 2 none 1 := ⟨cb_Sights_copyFrom, im_Sights_copyFrom, se_Sights_copyFrom, vv_Gin (List.mem_append_right _ (List.mem_append_right _ (List.mem_append_right _ (List.mem_append_left _ (List.mem_of_getElem? (i := 95) rfl))))) rfl⟩
theorem fa_County_41 : FA R_County 41 1 3 := ⟨_, _, _, rfl, i_County, by decide, vv_Gin (List.mem_append_right _ (List.mem_append_left _ (List.mem_of_getElem? (i := 180) rfl))) rfl⟩
theorem fa_County_44 : FA R_County 44 1 4 := ⟨_, _, _, rfl, i_County, by decide, vv_Gin (List.mem_append_right _ (List.mem_append_left _ (List.mem_of_getElem? (i := 183) rfl))) rfl⟩
theorem cb_Ledger_lacking : CB y_Ledger_lacking b_Ledger_lacking 5 (some .int) 2 := ⟨vv_Gin (List.mem_append_right _ (List.mem_append_right _ (List.mem_append_right _ (List.mem_append_right _ (List.mem_append_left _ (List.mem_of_getElem? (i := 133) rfl)))))) rfl, by decide +kernel, vv_Gin (List.mem_append_right _ (List.mem_append_left _ (List.mem_of_getElem? (i := 4) rfl))) rfl⟩
theorem im_Ledger_lacking : Cond.instanceMethod y_Ledger_lacking ∈ vv_G := vv_Gin (List.mem_append_right _ (List.mem_append_right _ (List.mem_append_right _ (List.mem_append_right _ (List.mem_append_left _ (List.mem_of_getElem? (i := 131) rfl)))))) rfl
theorem se_Ledger_lacking : Cond.selects y_Ledger_lacking.cls y_Ledger_lacking y_Ledger_lacking ∈ vv_G := vv_Gin (List.mem_append_right _ (List.mem_append_right _ (List.mem_append_right _ (List.mem_append_right _ (List.mem_append_left _ (List.mem_of_getElem? (i := 132) rfl)))))) rfl
theorem cv_Ledger_40 : CV R_Ledger 40 y_Ledger_lacking b_Ledger_lacking 5 (some .int) 2 := ⟨cb_Ledger_lacking, im_Ledger_lacking, se_Ledger_lacking, vv_Gin (List.mem_append_right _ (List.mem_append_right _ (List.mem_append_right _ (List.mem_append_right _ (List.mem_append_left _ (List.mem_of_getElem? (i := 130) rfl)))))) rfl⟩
theorem cv_County_57 : CV R_County 57 y_Land_twitches b_Land_twitches 8 (some .boolean) 5 := ⟨cb_Land_twitches, im_Land_twitches, se_Land_twitches, vv_Gin (List.mem_append_right _ (List.mem_append_right _ (List.mem_append_right _ (List.mem_append_left _ (List.mem_of_getElem? (i := 204) rfl))))) rfl⟩
theorem wc_County_61 : Cond.constant R_County 61 2097151 ∈ vv_G := vv_Gin (List.mem_append_right _ (List.mem_append_right _ (List.mem_append_right _ (List.mem_append_left _ (List.mem_of_getElem? (i := 228) (by decide +kernel)))))) (by decide +kernel)
theorem tc_2097151 : (2097151 : Int32).toInt = 2097151 := rfl
theorem fa_County_37 : FA R_County 37 7 4 := ⟨_, _, _, rfl, i_Sights, by decide, vv_Gin (List.mem_append_right _ (List.mem_append_left _ (List.mem_of_getElem? (i := 141) rfl))) rfl⟩
theorem fa_County_62 : FA R_County 62 7 0 := ⟨_, _, _, rfl, i_Sights, by decide, vv_Gin (List.mem_append_right _ (List.mem_append_left _ (List.mem_of_getElem? (i := 134) rfl))) rfl⟩
theorem fa_County_66 : FA R_County 66 7 1 := ⟨_, _, _, rfl, i_Sights, by decide, vv_Gin (List.mem_append_right _ (List.mem_append_left _ (List.mem_of_getElem? (i := 136) rfl))) rfl⟩
theorem fa_County_69 : FA R_County 69 7 2 := ⟨_, _, _, rfl, i_Sights, by decide, vv_Gin (List.mem_append_right _ (List.mem_append_left _ (List.mem_of_getElem? (i := 138) rfl))) rfl⟩
theorem cb_Land_twitchingRods : CB y_Land_twitchingRods b_Land_twitchingRods 6 (some .int) 3 := ⟨vv_Gin (List.mem_append_right _ (List.mem_append_right _ (List.mem_append_right _ (List.mem_append_left _ (List.mem_of_getElem? (i := 232) rfl))))) rfl, by decide +kernel, vv_Gin (List.mem_append_right _ (List.mem_append_left _ (List.mem_of_getElem? (i := 3) rfl))) rfl⟩
theorem im_Land_twitchingRods : Cond.instanceMethod y_Land_twitchingRods ∈ vv_G := vv_Gin (List.mem_append_right _ (List.mem_append_right _ (List.mem_append_right _ (List.mem_append_left _ (List.mem_of_getElem? (i := 230) rfl))))) rfl
theorem se_Land_twitchingRods : Cond.selects y_Land_twitchingRods.cls y_Land_twitchingRods y_Land_twitchingRods ∈ vv_G := vv_Gin (List.mem_append_right _ (List.mem_append_right _ (List.mem_append_right _ (List.mem_append_left _ (List.mem_of_getElem? (i := 231) rfl))))) rfl
theorem cv_County_72 : CV R_County 72 y_Land_twitchingRods b_Land_twitchingRods 6 (some .int) 3 := ⟨cb_Land_twitchingRods, im_Land_twitchingRods, se_Land_twitchingRods, vv_Gin (List.mem_append_right _ (List.mem_append_right _ (List.mem_append_right _ (List.mem_append_left _ (List.mem_of_getElem? (i := 229) rfl))))) rfl⟩
theorem fa_County_76 : FA R_County 76 7 3 := ⟨_, _, _, rfl, i_Sights, by decide, vv_Gin (List.mem_append_right _ (List.mem_append_left _ (List.mem_of_getElem? (i := 140) rfl))) rfl⟩
theorem cb_Rod_isOwner : CB y_Rod_isOwner b_Rod_isOwner 1 (some .boolean) 1 := ⟨vv_Gin (List.mem_append_right _ (List.mem_append_right _ (List.mem_append_right _ (List.mem_append_left _ (List.mem_of_getElem? (i := 129) rfl))))) rfl, by decide +kernel, vv_Gin (List.mem_append_right _ (List.mem_append_left _ (List.mem_of_getElem? (i := 1) rfl))) rfl⟩
theorem st_Rod_isOwner : Cond.static y_Rod_isOwner ∈ vv_G := vv_Gin (List.mem_append_right _ (List.mem_append_right _ (List.mem_append_right _ (List.mem_append_left _ (List.mem_of_getElem? (i := 128) rfl))))) rfl
theorem cs_County_79 : CS R_County 79 y_Rod_isOwner b_Rod_isOwner 1 (some .boolean) 1 := ⟨cb_Rod_isOwner, st_Rod_isOwner, Or.inr (by decide +kernel)⟩
theorem cv_County_83 : CV R_County 83 y_Land_has b_Land_has 2 (some .boolean) 1 := ⟨cb_Land_has, im_Land_has, se_Land_has, vv_Gin (List.mem_append_right _ (List.mem_append_right _ (List.mem_append_right _ (List.mem_append_right _ (List.mem_append_left _ (List.mem_of_getElem? (i := 52) rfl)))))) rfl⟩
theorem cb_Rod_isDepth : CB y_Rod_isDepth b_Rod_isDepth 1 (some .boolean) 1 := ⟨vv_Gin (List.mem_append_right _ (List.mem_append_right _ (List.mem_append_right _ (List.mem_append_right _ (List.mem_append_left _ (List.mem_of_getElem? (i := 55) rfl)))))) rfl, by decide +kernel, vv_Gin (List.mem_append_right _ (List.mem_append_left _ (List.mem_of_getElem? (i := 1) rfl))) rfl⟩
theorem st_Rod_isDepth : Cond.static y_Rod_isDepth ∈ vv_G := vv_Gin (List.mem_append_right _ (List.mem_append_right _ (List.mem_append_right _ (List.mem_append_right _ (List.mem_append_left _ (List.mem_of_getElem? (i := 54) rfl)))))) rfl
theorem cs_County_86 : CS R_County 86 y_Rod_isDepth b_Rod_isDepth 1 (some .boolean) 1 := ⟨cb_Rod_isDepth, st_Rod_isDepth, Or.inr (by decide +kernel)⟩
theorem fa_County_89 : FA R_County 89 2 7 := ⟨_, _, _, rfl, i_Land, by decide, vv_Gin (List.mem_append_right _ (List.mem_append_left _ (List.mem_of_getElem? (i := 73) rfl))) rfl⟩
theorem cv_County_92 : CV R_County 92 y_Land_isWell b_Land_isWell 2 (some .boolean) 1 := ⟨cb_Land_isWell, im_Land_isWell, se_Land_isWell, vv_Gin (List.mem_append_right _ (List.mem_append_right _ (List.mem_append_right _ (List.mem_append_right _ (List.mem_append_left _ (List.mem_of_getElem? (i := 56) rfl)))))) rfl⟩
theorem fa_County_95 : FA R_County 95 2 8 := ⟨_, _, _, rfl, i_Land, by decide, vv_Gin (List.mem_append_right _ (List.mem_append_left _ (List.mem_of_getElem? (i := 78) rfl))) rfl⟩
theorem wm_County_98 : Cond.methodLink R_County 98 Lib.Math.max.name ∈ vv_G := vv_Gin (List.mem_append_right _ (List.mem_append_right _ (List.mem_append_right _ (List.mem_append_right _ (List.mem_append_left _ (List.mem_of_getElem? (i := 57) (by decide +kernel))))))) (by decide +kernel)
theorem fa_County_107 : FA R_County 107 3 0 := ⟨_, _, _, rfl, i_Ledger, by decide, vv_Gin (List.mem_append_right _ (List.mem_append_left _ (List.mem_of_getElem? (i := 107) rfl))) rfl⟩
theorem fa_County_110 : FA R_County 110 2 2 := ⟨_, _, _, rfl, i_Land, by decide, vv_Gin (List.mem_append_right _ (List.mem_append_left _ (List.mem_of_getElem? (i := 52) rfl))) rfl⟩
theorem cb_Rod_oneIf : CB y_Rod_oneIf b_Rod_oneIf 1 (some .int) 1 := ⟨vv_Gin (List.mem_append_right _ (List.mem_append_right _ (List.mem_append_right _ (List.mem_append_left _ (List.mem_of_getElem? (i := 122) rfl))))) rfl, by decide +kernel, vv_Gin (List.mem_append_right _ (List.mem_append_left _ (List.mem_of_getElem? (i := 1) rfl))) rfl⟩
theorem st_Rod_oneIf : Cond.static y_Rod_oneIf ∈ vv_G := vv_Gin (List.mem_append_right _ (List.mem_append_right _ (List.mem_append_right _ (List.mem_append_left _ (List.mem_of_getElem? (i := 121) rfl))))) rfl
theorem cs_County_116 : CS R_County 116 y_Rod_oneIf b_Rod_oneIf 1 (some .int) 1 := ⟨cb_Rod_oneIf, st_Rod_oneIf, Or.inr (by decide +kernel)⟩
theorem fa_County_113 : FA R_County 113 2 3 := ⟨_, _, _, rfl, i_Land, by decide, vv_Gin (List.mem_append_right _ (List.mem_append_left _ (List.mem_of_getElem? (i := 57) rfl))) rfl⟩
theorem fa_County_104 : FA R_County 104 2 4 := ⟨_, _, _, rfl, i_Land, by decide, vv_Gin (List.mem_append_right _ (List.mem_append_left _ (List.mem_of_getElem? (i := 61) rfl))) rfl⟩
theorem fa_Sheet_9 : FA R_Sheet 9 6 0 := ⟨_, _, _, rfl, i_Sheet, by decide, vv_Gin (List.mem_append_right _ (List.mem_append_right _ (List.mem_append_left _ (List.mem_of_getElem? (i := 100) rfl)))) rfl⟩
theorem cs_Sheet_19 : CS R_Sheet 19 y_Arr_fill b_Arr_fill 4 none 2 := ⟨cb_Arr_fill, st_Arr_fill, Or.inl (vv_Gin (List.mem_append_right _ (List.mem_append_right _ (List.mem_append_right _ (List.mem_append_right _ (List.mem_append_left _ (List.mem_of_getElem? (i := 172) rfl)))))) rfl)⟩
theorem fp_Sheet_15 : FP R_Sheet 15 6 1 .int := ⟨_, _, _, t_Sheet, rfl, i_Sheet, by decide, vv_Gin (List.mem_append_right _ (List.mem_append_right _ (List.mem_append_left _ (List.mem_of_getElem? (i := 102) rfl)))) rfl, t_Sheet_ok, n_Sheet, rfl, t_Sheet_ok 1 (by decide)⟩
theorem fp_Sheet_25 : FP R_Sheet 25 6 2 .int := ⟨_, _, _, t_Sheet, rfl, i_Sheet, by decide, vv_Gin (List.mem_append_right _ (List.mem_append_right _ (List.mem_append_left _ (List.mem_of_getElem? (i := 104) rfl)))) rfl, t_Sheet_ok, n_Sheet, rfl, t_Sheet_ok 2 (by decide)⟩
theorem fa_Sheet_15 : FA R_Sheet 15 6 1 := ⟨_, _, _, rfl, i_Sheet, by decide, vv_Gin (List.mem_append_right _ (List.mem_append_right _ (List.mem_append_left _ (List.mem_of_getElem? (i := 102) rfl)))) rfl⟩
theorem fa_Sheet_25 : FA R_Sheet 25 6 2 := ⟨_, _, _, rfl, i_Sheet, by decide, vv_Gin (List.mem_append_right _ (List.mem_append_right _ (List.mem_append_left _ (List.mem_of_getElem? (i := 104) rfl)))) rfl⟩
theorem wm_Sheet_28 : Cond.methodLink R_Sheet 28 Lib.Math.min.name ∈ vv_G := vv_Gin (List.mem_append_right _ (List.mem_append_right _ (List.mem_append_right _ (List.mem_append_right _ (List.mem_append_left _ (List.mem_of_getElem? (i := 189) (by decide +kernel))))))) (by decide +kernel)
theorem d_Arr_fill_0 : decode b_Arr_fill 0 = .ok (.iconst 0, 1) := dc_3 (by decide +kernel)
theorem d_Arr_fill_1 : decode b_Arr_fill 1 = .ok (.istore_n 2, 1) := dc_61 (by decide +kernel)
theorem d_Arr_fill_2 : decode b_Arr_fill 2 = .ok (.aload_n 0, 1) := dc_42 (by decide +kernel)
theorem d_Arr_fill_3 : decode b_Arr_fill 3 = .ok (.arraylength, 1) := dc_190 (by decide +kernel)
theorem d_Arr_fill_4 : decode b_Arr_fill 4 = .ok (.istore_n 3, 1) := dc_62 (by decide +kernel)
theorem d_Arr_fill_5 : decode b_Arr_fill 5 = .ok (.iload_n 2, 1) := dc_28 (by decide +kernel)
theorem d_Arr_fill_6 : decode b_Arr_fill 6 = .ok (.iload_n 3, 1) := dc_29 (by decide +kernel)
theorem d_Arr_fill_7 : decode b_Arr_fill 7 = .ok (.if_icmp .ge 13, 3) := dc_162 (a := 0) (b := 13) (by decide +kernel) rfl
theorem d_Arr_fill_10 : decode b_Arr_fill 10 = .ok (.aload_n 0, 1) := dc_42 (by decide +kernel)
theorem d_Arr_fill_11 : decode b_Arr_fill 11 = .ok (.iload_n 2, 1) := dc_28 (by decide +kernel)
theorem d_Arr_fill_12 : decode b_Arr_fill 12 = .ok (.iload_n 1, 1) := dc_27 (by decide +kernel)
theorem d_Arr_fill_13 : decode b_Arr_fill 13 = .ok (.iastore, 1) := dc_79 (by decide +kernel)
theorem d_Arr_fill_14 : decode b_Arr_fill 14 = .ok (.iinc 2 1, 3) := dc_132 (a := 2) (b := 1) (by decide +kernel) rfl
theorem d_Arr_fill_17 : decode b_Arr_fill 17 = .ok (.goto (-12), 3) := dc_167 (a := 255) (b := 244) (by decide +kernel) rfl
theorem d_Arr_fill_20 : decode b_Arr_fill 20 = .ok (.return_, 1) := dc_177 (by decide +kernel)
theorem d_Int_bitCount_0 : decode b_Int_bitCount 0 = .ok (.iload_n 0, 1) := dc_26 (by decide +kernel)
theorem d_Int_bitCount_1 : decode b_Int_bitCount 1 = .ok (.iload_n 0, 1) := dc_26 (by decide +kernel)
theorem d_Int_bitCount_2 : decode b_Int_bitCount 2 = .ok (.iconst 1, 1) := dc_4 (by decide +kernel)
theorem d_Int_bitCount_3 : decode b_Int_bitCount 3 = .ok (.iushr, 1) := dc_124 (by decide +kernel)
theorem d_Int_bitCount_4 : decode b_Int_bitCount 4 = .ok (.ldc_w 265, 3) := dc_19 (a := 1) (b := 9) (by decide +kernel) rfl
theorem d_Int_bitCount_7 : decode b_Int_bitCount 7 = .ok (.iand, 1) := dc_126 (by decide +kernel)
theorem d_Int_bitCount_8 : decode b_Int_bitCount 8 = .ok (.isub, 1) := dc_100 (by decide +kernel)
theorem d_Int_bitCount_9 : decode b_Int_bitCount 9 = .ok (.istore_n 0, 1) := dc_59 (by decide +kernel)
theorem d_Int_bitCount_10 : decode b_Int_bitCount 10 = .ok (.iload_n 0, 1) := dc_26 (by decide +kernel)
theorem d_Int_bitCount_11 : decode b_Int_bitCount 11 = .ok (.ldc_w 266, 3) := dc_19 (a := 1) (b := 10) (by decide +kernel) rfl
theorem d_Int_bitCount_14 : decode b_Int_bitCount 14 = .ok (.iand, 1) := dc_126 (by decide +kernel)
theorem d_Int_bitCount_15 : decode b_Int_bitCount 15 = .ok (.iload_n 0, 1) := dc_26 (by decide +kernel)
theorem d_Int_bitCount_16 : decode b_Int_bitCount 16 = .ok (.iconst 2, 1) := dc_5 (by decide +kernel)
theorem d_Int_bitCount_17 : decode b_Int_bitCount 17 = .ok (.iushr, 1) := dc_124 (by decide +kernel)
theorem d_Int_bitCount_18 : decode b_Int_bitCount 18 = .ok (.ldc_w 266, 3) := dc_19 (a := 1) (b := 10) (by decide +kernel) rfl
theorem d_Int_bitCount_21 : decode b_Int_bitCount 21 = .ok (.iand, 1) := dc_126 (by decide +kernel)
theorem d_Int_bitCount_22 : decode b_Int_bitCount 22 = .ok (.iadd, 1) := dc_96 (by decide +kernel)
theorem d_Int_bitCount_23 : decode b_Int_bitCount 23 = .ok (.istore_n 0, 1) := dc_59 (by decide +kernel)
theorem d_Int_bitCount_24 : decode b_Int_bitCount 24 = .ok (.iload_n 0, 1) := dc_26 (by decide +kernel)
theorem d_Int_bitCount_25 : decode b_Int_bitCount 25 = .ok (.iload_n 0, 1) := dc_26 (by decide +kernel)
theorem d_Int_bitCount_26 : decode b_Int_bitCount 26 = .ok (.iconst 4, 1) := dc_7 (by decide +kernel)
theorem d_Int_bitCount_27 : decode b_Int_bitCount 27 = .ok (.iushr, 1) := dc_124 (by decide +kernel)
theorem d_Int_bitCount_28 : decode b_Int_bitCount 28 = .ok (.iadd, 1) := dc_96 (by decide +kernel)
theorem d_Int_bitCount_29 : decode b_Int_bitCount 29 = .ok (.ldc_w 267, 3) := dc_19 (a := 1) (b := 11) (by decide +kernel) rfl
theorem d_Int_bitCount_32 : decode b_Int_bitCount 32 = .ok (.iand, 1) := dc_126 (by decide +kernel)
theorem d_Int_bitCount_33 : decode b_Int_bitCount 33 = .ok (.istore_n 0, 1) := dc_59 (by decide +kernel)
theorem d_Int_bitCount_34 : decode b_Int_bitCount 34 = .ok (.iload_n 0, 1) := dc_26 (by decide +kernel)
theorem d_Int_bitCount_35 : decode b_Int_bitCount 35 = .ok (.iload_n 0, 1) := dc_26 (by decide +kernel)
theorem d_Int_bitCount_36 : decode b_Int_bitCount 36 = .ok (.bipush 8, 2) := dc_16 (a := 8) (by decide +kernel) rfl
theorem d_Int_bitCount_38 : decode b_Int_bitCount 38 = .ok (.iushr, 1) := dc_124 (by decide +kernel)
theorem d_Int_bitCount_39 : decode b_Int_bitCount 39 = .ok (.iadd, 1) := dc_96 (by decide +kernel)
theorem d_Int_bitCount_40 : decode b_Int_bitCount 40 = .ok (.istore_n 0, 1) := dc_59 (by decide +kernel)
theorem d_Int_bitCount_41 : decode b_Int_bitCount 41 = .ok (.iload_n 0, 1) := dc_26 (by decide +kernel)
theorem d_Int_bitCount_42 : decode b_Int_bitCount 42 = .ok (.iload_n 0, 1) := dc_26 (by decide +kernel)
theorem d_Int_bitCount_43 : decode b_Int_bitCount 43 = .ok (.bipush 16, 2) := dc_16 (a := 16) (by decide +kernel) rfl
theorem d_Int_bitCount_45 : decode b_Int_bitCount 45 = .ok (.iushr, 1) := dc_124 (by decide +kernel)
theorem d_Int_bitCount_46 : decode b_Int_bitCount 46 = .ok (.iadd, 1) := dc_96 (by decide +kernel)
theorem d_Int_bitCount_47 : decode b_Int_bitCount 47 = .ok (.istore_n 0, 1) := dc_59 (by decide +kernel)
theorem d_Int_bitCount_48 : decode b_Int_bitCount 48 = .ok (.iload_n 0, 1) := dc_26 (by decide +kernel)
theorem d_Int_bitCount_49 : decode b_Int_bitCount 49 = .ok (.bipush 63, 2) := dc_16 (a := 63) (by decide +kernel) rfl
theorem d_Int_bitCount_51 : decode b_Int_bitCount 51 = .ok (.iand, 1) := dc_126 (by decide +kernel)
theorem d_Int_bitCount_52 : decode b_Int_bitCount 52 = .ok (.ireturn, 1) := dc_172 (by decide +kernel)
theorem d_Rod_isOwner_0 : decode b_Rod_isOwner 0 = .ok (.iload_n 0, 1) := dc_26 (by decide +kernel)
theorem d_Rod_isOwner_1 : decode b_Rod_isOwner 1 = .ok (.ifCond .lt 12, 3) := dc_155 (a := 0) (b := 12) (by decide +kernel) rfl
theorem d_Rod_isOwner_4 : decode b_Rod_isOwner 4 = .ok (.iload_n 0, 1) := dc_26 (by decide +kernel)
theorem d_Rod_isOwner_5 : decode b_Rod_isOwner 5 = .ok (.iconst 4, 1) := dc_7 (by decide +kernel)
theorem d_Rod_isOwner_6 : decode b_Rod_isOwner 6 = .ok (.if_icmp .ge 7, 3) := dc_162 (a := 0) (b := 7) (by decide +kernel) rfl
theorem d_Rod_isOwner_9 : decode b_Rod_isOwner 9 = .ok (.iconst 1, 1) := dc_4 (by decide +kernel)
theorem d_Rod_isOwner_10 : decode b_Rod_isOwner 10 = .ok (.goto 4, 3) := dc_167 (a := 0) (b := 4) (by decide +kernel) rfl
theorem d_Rod_isOwner_13 : decode b_Rod_isOwner 13 = .ok (.iconst 0, 1) := dc_3 (by decide +kernel)
theorem d_Rod_isOwner_14 : decode b_Rod_isOwner 14 = .ok (.ireturn, 1) := dc_172 (by decide +kernel)
abbrev q_Rod_isOwner (h : Hp) (o : Int32) (oZ : Int) : Option Value → Hp → Prop := pInt (fun r h' => h = h' ∧ (r.toInt = 1 ∧ 0 ≤ oZ ∧ oZ ≤ 3 ∨ r.toInt = 0 ∧ (oZ < 0 ∨ 3 < oZ)))
set_option maxRecDepth 100000 in
theorem c_Rod_isOwner (h : Hp) (o : Int32) (oZ : Int) (oE : o.toInt = oZ) : Ct y_Rod_isOwner b_Rod_isOwner 1 (some .boolean) 0 0 [.int o] h (q_Rod_isOwner h o oZ) := by
  refine ct_ow R_Rod [some (.int o)] rfl (by decide) rfl (Nat.le_of_ble_eq_true rfl) ?_
  have f0 : fr [] h h := fr_rf
  refine V_iload_n 0 d_Rod_isOwner_0 rfl rfl ?_
  refine V_if_lt 13 oE d_Rod_isOwner_1 (by decide) (fun c1 => ?_) (fun c1 => ?_)
  ·
    refine V_iconst 0 d_Rod_isOwner_13 (by decide) ?_
    exact V_zret rfl (by decide) d_Rod_isOwner_14 ⟨0, rfl, ⟨rfl, (by (try rw [show Int32.toInt 0 = 0 from rfl]); omega)⟩⟩
  ·
    refine V_iload_n 0 d_Rod_isOwner_4 rfl rfl ?_
    refine V_iconst 4 d_Rod_isOwner_5 (by decide) ?_
    refine V_icmp_ge 13 oE tc_4 d_Rod_isOwner_6 (by decide) (fun c2 => ?_) (fun c2 => ?_)
    ·
      refine V_iconst 0 d_Rod_isOwner_13 (by decide) ?_
      exact V_zret rfl (by decide) d_Rod_isOwner_14 ⟨0, rfl, ⟨rfl, (by (try rw [show Int32.toInt 0 = 0 from rfl]); omega)⟩⟩
    ·
      refine V_iconst 1 d_Rod_isOwner_9 (by decide) ?_
      refine V_goto 14 d_Rod_isOwner_10 (by decide) ?_
      exact V_zret rfl (by decide) d_Rod_isOwner_14 ⟨1, rfl, ⟨rfl, (by (try rw [show Int32.toInt 1 = 1 from rfl]); omega)⟩⟩
theorem d_Rod_isDepth_0 : decode b_Rod_isDepth 0 = .ok (.iload_n 0, 1) := dc_26 (by decide +kernel)
theorem d_Rod_isDepth_1 : decode b_Rod_isDepth 1 = .ok (.iconst 1, 1) := dc_4 (by decide +kernel)
theorem d_Rod_isDepth_2 : decode b_Rod_isDepth 2 = .ok (.if_icmp .lt 13, 3) := dc_161 (a := 0) (b := 13) (by decide +kernel) rfl
theorem d_Rod_isDepth_5 : decode b_Rod_isDepth 5 = .ok (.iload_n 0, 1) := dc_26 (by decide +kernel)
theorem d_Rod_isDepth_6 : decode b_Rod_isDepth 6 = .ok (.bipush 9, 2) := dc_16 (a := 9) (by decide +kernel) rfl
theorem d_Rod_isDepth_8 : decode b_Rod_isDepth 8 = .ok (.if_icmp .gt 7, 3) := dc_163 (a := 0) (b := 7) (by decide +kernel) rfl
theorem d_Rod_isDepth_11 : decode b_Rod_isDepth 11 = .ok (.iconst 1, 1) := dc_4 (by decide +kernel)
theorem d_Rod_isDepth_12 : decode b_Rod_isDepth 12 = .ok (.goto 4, 3) := dc_167 (a := 0) (b := 4) (by decide +kernel) rfl
theorem d_Rod_isDepth_15 : decode b_Rod_isDepth 15 = .ok (.iconst 0, 1) := dc_3 (by decide +kernel)
theorem d_Rod_isDepth_16 : decode b_Rod_isDepth 16 = .ok (.ireturn, 1) := dc_172 (by decide +kernel)
abbrev q_Rod_isDepth (h : Hp) (o : Int32) (oZ : Int) : Option Value → Hp → Prop := pInt (fun r h' => h = h' ∧ (r.toInt = 1 ∧ 1 ≤ oZ ∧ oZ ≤ 9 ∨ r.toInt = 0 ∧ (oZ < 1 ∨ 9 < oZ)))
set_option maxRecDepth 100000 in
theorem c_Rod_isDepth (h : Hp) (o : Int32) (oZ : Int) (oE : o.toInt = oZ) : Ct y_Rod_isDepth b_Rod_isDepth 1 (some .boolean) 0 0 [.int o] h (q_Rod_isDepth h o oZ) := by
  refine ct_ow R_Rod [some (.int o)] rfl (by decide) rfl (Nat.le_of_ble_eq_true rfl) ?_
  have f0 : fr [] h h := fr_rf
  refine V_iload_n 0 d_Rod_isDepth_0 rfl rfl ?_
  refine V_iconst 1 d_Rod_isDepth_1 (by decide) ?_
  refine V_icmp_lt 15 oE tc_1 d_Rod_isDepth_2 (by decide) (fun c1 => ?_) (fun c1 => ?_)
  ·
    refine V_iconst 0 d_Rod_isDepth_15 (by decide) ?_
    exact V_zret rfl (by decide) d_Rod_isDepth_16 ⟨0, rfl, ⟨rfl, (by (try rw [show Int32.toInt 0 = 0 from rfl]); omega)⟩⟩
  ·
    refine V_iload_n 0 d_Rod_isDepth_5 rfl rfl ?_
    refine V_bipush 9 d_Rod_isDepth_6 (by decide) ?_
    refine V_icmp_gt 15 oE tc_9 d_Rod_isDepth_8 (by decide) (fun c2 => ?_) (fun c2 => ?_)
    ·
      refine V_iconst 0 d_Rod_isDepth_15 (by decide) ?_
      exact V_zret rfl (by decide) d_Rod_isDepth_16 ⟨0, rfl, ⟨rfl, (by (try rw [show Int32.toInt 0 = 0 from rfl]); omega)⟩⟩
    ·
      refine V_iconst 1 d_Rod_isDepth_11 (by decide) ?_
      refine V_goto 16 d_Rod_isDepth_12 (by decide) ?_
      exact V_zret rfl (by decide) d_Rod_isDepth_16 ⟨1, rfl, ⟨rfl, (by (try rw [show Int32.toInt 1 = 1 from rfl]); omega)⟩⟩
theorem d_Rod_isNature_0 : decode b_Rod_isNature 0 = .ok (.iload_n 0, 1) := dc_26 (by decide +kernel)
theorem d_Rod_isNature_1 : decode b_Rod_isNature 1 = .ok (.ifCond .lt 12, 3) := dc_155 (a := 0) (b := 12) (by decide +kernel) rfl
theorem d_Rod_isNature_4 : decode b_Rod_isNature 4 = .ok (.iload_n 0, 1) := dc_26 (by decide +kernel)
theorem d_Rod_isNature_5 : decode b_Rod_isNature 5 = .ok (.iconst 5, 1) := dc_8 (by decide +kernel)
theorem d_Rod_isNature_6 : decode b_Rod_isNature 6 = .ok (.if_icmp .ge 7, 3) := dc_162 (a := 0) (b := 7) (by decide +kernel) rfl
theorem d_Rod_isNature_9 : decode b_Rod_isNature 9 = .ok (.iconst 1, 1) := dc_4 (by decide +kernel)
theorem d_Rod_isNature_10 : decode b_Rod_isNature 10 = .ok (.goto 4, 3) := dc_167 (a := 0) (b := 4) (by decide +kernel) rfl
theorem d_Rod_isNature_13 : decode b_Rod_isNature 13 = .ok (.iconst 0, 1) := dc_3 (by decide +kernel)
theorem d_Rod_isNature_14 : decode b_Rod_isNature 14 = .ok (.ireturn, 1) := dc_172 (by decide +kernel)
abbrev q_Rod_isNature (h : Hp) (o : Int32) (oZ : Int) : Option Value → Hp → Prop := pInt (fun r h' => h = h' ∧ (r.toInt = 1 ∧ 0 ≤ oZ ∧ oZ ≤ 4 ∨ r.toInt = 0 ∧ (oZ < 0 ∨ 4 < oZ)))
set_option maxRecDepth 100000 in
theorem c_Rod_isNature (h : Hp) (o : Int32) (oZ : Int) (oE : o.toInt = oZ) : Ct y_Rod_isNature b_Rod_isNature 1 (some .boolean) 0 0 [.int o] h (q_Rod_isNature h o oZ) := by
  refine ct_ow R_Rod [some (.int o)] rfl (by decide) rfl (Nat.le_of_ble_eq_true rfl) ?_
  have f0 : fr [] h h := fr_rf
  refine V_iload_n 0 d_Rod_isNature_0 rfl rfl ?_
  refine V_if_lt 13 oE d_Rod_isNature_1 (by decide) (fun c1 => ?_) (fun c1 => ?_)
  ·
    refine V_iconst 0 d_Rod_isNature_13 (by decide) ?_
    exact V_zret rfl (by decide) d_Rod_isNature_14 ⟨0, rfl, ⟨rfl, (by (try rw [show Int32.toInt 0 = 0 from rfl]); omega)⟩⟩
  ·
    refine V_iload_n 0 d_Rod_isNature_4 rfl rfl ?_
    refine V_iconst 5 d_Rod_isNature_5 (by decide) ?_
    refine V_icmp_ge 13 oE tc_5 d_Rod_isNature_6 (by decide) (fun c2 => ?_) (fun c2 => ?_)
    ·
      refine V_iconst 0 d_Rod_isNature_13 (by decide) ?_
      exact V_zret rfl (by decide) d_Rod_isNature_14 ⟨0, rfl, ⟨rfl, (by (try rw [show Int32.toInt 0 = 0 from rfl]); omega)⟩⟩
    ·
      refine V_iconst 1 d_Rod_isNature_9 (by decide) ?_
      refine V_goto 14 d_Rod_isNature_10 (by decide) ?_
      exact V_zret rfl (by decide) d_Rod_isNature_14 ⟨1, rfl, ⟨rfl, (by (try rw [show Int32.toInt 1 = 1 from rfl]); omega)⟩⟩
theorem d_Rod_isSheet_0 : decode b_Rod_isSheet 0 = .ok (.iload_n 0, 1) := dc_26 (by decide +kernel)
theorem d_Rod_isSheet_1 : decode b_Rod_isSheet 1 = .ok (.ifCond .lt 12, 3) := dc_155 (a := 0) (b := 12) (by decide +kernel) rfl
theorem d_Rod_isSheet_4 : decode b_Rod_isSheet 4 = .ok (.iload_n 0, 1) := dc_26 (by decide +kernel)
theorem d_Rod_isSheet_5 : decode b_Rod_isSheet 5 = .ok (.iconst 4, 1) := dc_7 (by decide +kernel)
theorem d_Rod_isSheet_6 : decode b_Rod_isSheet 6 = .ok (.if_icmp .ge 7, 3) := dc_162 (a := 0) (b := 7) (by decide +kernel) rfl
theorem d_Rod_isSheet_9 : decode b_Rod_isSheet 9 = .ok (.iconst 1, 1) := dc_4 (by decide +kernel)
theorem d_Rod_isSheet_10 : decode b_Rod_isSheet 10 = .ok (.goto 4, 3) := dc_167 (a := 0) (b := 4) (by decide +kernel) rfl
theorem d_Rod_isSheet_13 : decode b_Rod_isSheet 13 = .ok (.iconst 0, 1) := dc_3 (by decide +kernel)
theorem d_Rod_isSheet_14 : decode b_Rod_isSheet 14 = .ok (.ireturn, 1) := dc_172 (by decide +kernel)
abbrev q_Rod_isSheet (h : Hp) (o : Int32) (oZ : Int) : Option Value → Hp → Prop := pInt (fun r h' => h = h' ∧ (r.toInt = 1 ∧ 0 ≤ oZ ∧ oZ ≤ 3 ∨ r.toInt = 0 ∧ (oZ < 0 ∨ 3 < oZ)))
set_option maxRecDepth 100000 in
theorem c_Rod_isSheet (h : Hp) (o : Int32) (oZ : Int) (oE : o.toInt = oZ) : Ct y_Rod_isSheet b_Rod_isSheet 1 (some .boolean) 0 0 [.int o] h (q_Rod_isSheet h o oZ) := by
  refine ct_ow R_Rod [some (.int o)] rfl (by decide) rfl (Nat.le_of_ble_eq_true rfl) ?_
  have f0 : fr [] h h := fr_rf
  refine V_iload_n 0 d_Rod_isSheet_0 rfl rfl ?_
  refine V_if_lt 13 oE d_Rod_isSheet_1 (by decide) (fun c1 => ?_) (fun c1 => ?_)
  ·
    refine V_iconst 0 d_Rod_isSheet_13 (by decide) ?_
    exact V_zret rfl (by decide) d_Rod_isSheet_14 ⟨0, rfl, ⟨rfl, (by (try rw [show Int32.toInt 0 = 0 from rfl]); omega)⟩⟩
  ·
    refine V_iload_n 0 d_Rod_isSheet_4 rfl rfl ?_
    refine V_iconst 4 d_Rod_isSheet_5 (by decide) ?_
    refine V_icmp_ge 13 oE tc_4 d_Rod_isSheet_6 (by decide) (fun c2 => ?_) (fun c2 => ?_)
    ·
      refine V_iconst 0 d_Rod_isSheet_13 (by decide) ?_
      exact V_zret rfl (by decide) d_Rod_isSheet_14 ⟨0, rfl, ⟨rfl, (by (try rw [show Int32.toInt 0 = 0 from rfl]); omega)⟩⟩
    ·
      refine V_iconst 1 d_Rod_isSheet_9 (by decide) ?_
      refine V_goto 14 d_Rod_isSheet_10 (by decide) ?_
      exact V_zret rfl (by decide) d_Rod_isSheet_14 ⟨1, rfl, ⟨rfl, (by (try rw [show Int32.toInt 1 = 1 from rfl]); omega)⟩⟩
theorem d_Rod_isLane_0 : decode b_Rod_isLane 0 = .ok (.iload_n 0, 1) := dc_26 (by decide +kernel)
theorem d_Rod_isLane_1 : decode b_Rod_isLane 1 = .ok (.ifCond .lt 12, 3) := dc_155 (a := 0) (b := 12) (by decide +kernel) rfl
theorem d_Rod_isLane_4 : decode b_Rod_isLane 4 = .ok (.iload_n 0, 1) := dc_26 (by decide +kernel)
theorem d_Rod_isLane_5 : decode b_Rod_isLane 5 = .ok (.iconst 3, 1) := dc_6 (by decide +kernel)
theorem d_Rod_isLane_6 : decode b_Rod_isLane 6 = .ok (.if_icmp .ge 7, 3) := dc_162 (a := 0) (b := 7) (by decide +kernel) rfl
theorem d_Rod_isLane_9 : decode b_Rod_isLane 9 = .ok (.iconst 1, 1) := dc_4 (by decide +kernel)
theorem d_Rod_isLane_10 : decode b_Rod_isLane 10 = .ok (.goto 4, 3) := dc_167 (a := 0) (b := 4) (by decide +kernel) rfl
theorem d_Rod_isLane_13 : decode b_Rod_isLane 13 = .ok (.iconst 0, 1) := dc_3 (by decide +kernel)
theorem d_Rod_isLane_14 : decode b_Rod_isLane 14 = .ok (.ireturn, 1) := dc_172 (by decide +kernel)
abbrev q_Rod_isLane (h : Hp) (o : Int32) (oZ : Int) : Option Value → Hp → Prop := pInt (fun r h' => h = h' ∧ (r.toInt = 1 ∧ 0 ≤ oZ ∧ oZ ≤ 2 ∨ r.toInt = 0 ∧ (oZ < 0 ∨ 2 < oZ)))
set_option maxRecDepth 100000 in
theorem c_Rod_isLane (h : Hp) (o : Int32) (oZ : Int) (oE : o.toInt = oZ) : Ct y_Rod_isLane b_Rod_isLane 1 (some .boolean) 0 0 [.int o] h (q_Rod_isLane h o oZ) := by
  refine ct_ow R_Rod [some (.int o)] rfl (by decide) rfl (Nat.le_of_ble_eq_true rfl) ?_
  have f0 : fr [] h h := fr_rf
  refine V_iload_n 0 d_Rod_isLane_0 rfl rfl ?_
  refine V_if_lt 13 oE d_Rod_isLane_1 (by decide) (fun c1 => ?_) (fun c1 => ?_)
  ·
    refine V_iconst 0 d_Rod_isLane_13 (by decide) ?_
    exact V_zret rfl (by decide) d_Rod_isLane_14 ⟨0, rfl, ⟨rfl, (by (try rw [show Int32.toInt 0 = 0 from rfl]); omega)⟩⟩
  ·
    refine V_iload_n 0 d_Rod_isLane_4 rfl rfl ?_
    refine V_iconst 3 d_Rod_isLane_5 (by decide) ?_
    refine V_icmp_ge 13 oE tc_3 d_Rod_isLane_6 (by decide) (fun c2 => ?_) (fun c2 => ?_)
    ·
      refine V_iconst 0 d_Rod_isLane_13 (by decide) ?_
      exact V_zret rfl (by decide) d_Rod_isLane_14 ⟨0, rfl, ⟨rfl, (by (try rw [show Int32.toInt 0 = 0 from rfl]); omega)⟩⟩
    ·
      refine V_iconst 1 d_Rod_isLane_9 (by decide) ?_
      refine V_goto 14 d_Rod_isLane_10 (by decide) ?_
      exact V_zret rfl (by decide) d_Rod_isLane_14 ⟨1, rfl, ⟨rfl, (by (try rw [show Int32.toInt 1 = 1 from rfl]); omega)⟩⟩
theorem d_Rod_oneIf_0 : decode b_Rod_oneIf 0 = .ok (.iload_n 0, 1) := dc_26 (by decide +kernel)
theorem d_Rod_oneIf_1 : decode b_Rod_oneIf 1 = .ok (.ifCond .eq 7, 3) := dc_153 (a := 0) (b := 7) (by decide +kernel) rfl
theorem d_Rod_oneIf_4 : decode b_Rod_oneIf 4 = .ok (.iconst 1, 1) := dc_4 (by decide +kernel)
theorem d_Rod_oneIf_5 : decode b_Rod_oneIf 5 = .ok (.goto 4, 3) := dc_167 (a := 0) (b := 4) (by decide +kernel) rfl
theorem d_Rod_oneIf_8 : decode b_Rod_oneIf 8 = .ok (.iconst 0, 1) := dc_3 (by decide +kernel)
theorem d_Rod_oneIf_9 : decode b_Rod_oneIf 9 = .ok (.ireturn, 1) := dc_172 (by decide +kernel)
abbrev q_Rod_oneIf (h : Hp) (b : Int32) (bZ : Int) : Option Value → Hp → Prop := pInt (fun r h' => h = h' ∧ (bZ ≠ 0 ∧ r.toInt = 1 ∨ bZ = 0 ∧ r.toInt = 0))
set_option maxRecDepth 100000 in
theorem c_Rod_oneIf (h : Hp) (b : Int32) (bZ : Int) (bE : b.toInt = bZ) : Ct y_Rod_oneIf b_Rod_oneIf 1 (some .int) 0 0 [.int b] h (q_Rod_oneIf h b bZ) := by
  refine ct_ow R_Rod [some (.int b)] rfl (by decide) rfl (Nat.le_of_ble_eq_true rfl) ?_
  have f0 : fr [] h h := fr_rf
  refine V_iload_n 0 d_Rod_oneIf_0 rfl rfl ?_
  refine V_if_eq 8 bE d_Rod_oneIf_1 (by decide) (fun c1 => ?_) (fun c1 => ?_)
  ·
    refine V_iconst 0 d_Rod_oneIf_8 (by decide) ?_
    exact V_iret rfl d_Rod_oneIf_9 ⟨0, rfl, ⟨rfl, (by (try rw [show Int32.toInt 0 = 0 from rfl]); omega)⟩⟩
  ·
    refine V_iconst 1 d_Rod_oneIf_4 (by decide) ?_
    refine V_goto 9 d_Rod_oneIf_5 (by decide) ?_
    exact V_iret rfl d_Rod_oneIf_9 ⟨1, rfl, ⟨rfl, (by (try rw [show Int32.toInt 1 = 1 from rfl]); omega)⟩⟩
theorem d_Rod_natureOf_0 : decode b_Rod_natureOf 0 = .ok (.iload_n 0, 1) := dc_26 (by decide +kernel)
theorem d_Rod_natureOf_1 : decode b_Rod_natureOf 1 = .ok (.bipush 9, 2) := dc_16 (a := 9) (by decide +kernel) rfl
theorem d_Rod_natureOf_3 : decode b_Rod_natureOf 3 = .ok (.if_icmp .ge 5, 3) := dc_162 (a := 0) (b := 5) (by decide +kernel) rfl
theorem d_Rod_natureOf_6 : decode b_Rod_natureOf 6 = .ok (.iconst 0, 1) := dc_3 (by decide +kernel)
theorem d_Rod_natureOf_7 : decode b_Rod_natureOf 7 = .ok (.ireturn, 1) := dc_172 (by decide +kernel)
theorem d_Rod_natureOf_8 : decode b_Rod_natureOf 8 = .ok (.iload_n 0, 1) := dc_26 (by decide +kernel)
theorem d_Rod_natureOf_9 : decode b_Rod_natureOf 9 = .ok (.bipush 18, 2) := dc_16 (a := 18) (by decide +kernel) rfl
theorem d_Rod_natureOf_11 : decode b_Rod_natureOf 11 = .ok (.if_icmp .ge 7, 3) := dc_162 (a := 0) (b := 7) (by decide +kernel) rfl
theorem d_Rod_natureOf_14 : decode b_Rod_natureOf 14 = .ok (.iconst 4, 1) := dc_7 (by decide +kernel)
theorem d_Rod_natureOf_15 : decode b_Rod_natureOf 15 = .ok (.goto 9, 3) := dc_167 (a := 0) (b := 9) (by decide +kernel) rfl
theorem d_Rod_natureOf_18 : decode b_Rod_natureOf 18 = .ok (.iload_n 0, 1) := dc_26 (by decide +kernel)
theorem d_Rod_natureOf_19 : decode b_Rod_natureOf 19 = .ok (.bipush 18, 2) := dc_16 (a := 18) (by decide +kernel) rfl
theorem d_Rod_natureOf_21 : decode b_Rod_natureOf 21 = .ok (.isub, 1) := dc_100 (by decide +kernel)
theorem d_Rod_natureOf_22 : decode b_Rod_natureOf 22 = .ok (.iconst 1, 1) := dc_4 (by decide +kernel)
theorem d_Rod_natureOf_23 : decode b_Rod_natureOf 23 = .ok (.iadd, 1) := dc_96 (by decide +kernel)
theorem d_Rod_natureOf_24 : decode b_Rod_natureOf 24 = .ok (.ireturn, 1) := dc_172 (by decide +kernel)
theorem d_Rod_reachOf_0 : decode b_Rod_reachOf 0 = .ok (.iload_n 0, 1) := dc_26 (by decide +kernel)
theorem d_Rod_reachOf_1 : decode b_Rod_reachOf 1 = .ok (.bipush 9, 2) := dc_16 (a := 9) (by decide +kernel) rfl
theorem d_Rod_reachOf_3 : decode b_Rod_reachOf 3 = .ok (.irem, 1) := dc_112 (by decide +kernel)
theorem d_Rod_reachOf_4 : decode b_Rod_reachOf 4 = .ok (.iconst 1, 1) := dc_4 (by decide +kernel)
theorem d_Rod_reachOf_5 : decode b_Rod_reachOf 5 = .ok (.iadd, 1) := dc_96 (by decide +kernel)
theorem d_Rod_reachOf_6 : decode b_Rod_reachOf 6 = .ok (.ireturn, 1) := dc_172 (by decide +kernel)
theorem d_Rod_reachBits_0 : decode b_Rod_reachBits 0 = .ok (.iload_n 0, 1) := dc_26 (by decide +kernel)
theorem d_Rod_reachBits_1 : decode b_Rod_reachBits 1 = .ok (.bipush 18, 2) := dc_16 (a := 18) (by decide +kernel) rfl
theorem d_Rod_reachBits_3 : decode b_Rod_reachBits 3 = .ok (.if_icmp .ge 12, 3) := dc_162 (a := 0) (b := 12) (by decide +kernel) rfl
theorem d_Rod_reachBits_6 : decode b_Rod_reachBits 6 = .ok (.iconst 1, 1) := dc_4 (by decide +kernel)
theorem d_Rod_reachBits_7 : decode b_Rod_reachBits 7 = .ok (.iload_n 0, 1) := dc_26 (by decide +kernel)
theorem d_Rod_reachBits_8 : decode b_Rod_reachBits 8 = .ok (.invokestatic 318, 3) := dc_184 (a := 1) (b := 62) (by decide +kernel) rfl
theorem d_Rod_reachBits_11 : decode b_Rod_reachBits 11 = .ok (.ishl, 1) := dc_120 (by decide +kernel)
theorem d_Rod_reachBits_12 : decode b_Rod_reachBits 12 = .ok (.goto 6, 3) := dc_167 (a := 0) (b := 6) (by decide +kernel) rfl
theorem d_Rod_reachBits_15 : decode b_Rod_reachBits 15 = .ok (.sipush 1022, 3) := dc_17 (a := 3) (b := 254) (by decide +kernel) rfl
theorem d_Rod_reachBits_18 : decode b_Rod_reachBits 18 = .ok (.ireturn, 1) := dc_172 (by decide +kernel)
theorem d_Rod_stirred_0 : decode b_Rod_stirred 0 = .ok (.iload_n 0, 1) := dc_26 (by decide +kernel)
theorem d_Rod_stirred_1 : decode b_Rod_stirred 1 = .ok (.ldc_w 321, 3) := dc_19 (a := 1) (b := 65) (by decide +kernel) rfl
theorem d_Rod_stirred_4 : decode b_Rod_stirred 4 = .ok (.imul, 1) := dc_104 (by decide +kernel)
theorem d_Rod_stirred_5 : decode b_Rod_stirred 5 = .ok (.sipush 12345, 3) := dc_17 (a := 48) (b := 57) (by decide +kernel) rfl
theorem d_Rod_stirred_8 : decode b_Rod_stirred 8 = .ok (.iadd, 1) := dc_96 (by decide +kernel)
theorem d_Rod_stirred_9 : decode b_Rod_stirred 9 = .ok (.ireturn, 1) := dc_172 (by decide +kernel)
theorem d_Rod_drawnBits_0 : decode b_Rod_drawnBits 0 = .ok (.iload_n 0, 1) := dc_26 (by decide +kernel)
theorem d_Rod_drawnBits_1 : decode b_Rod_drawnBits 1 = .ok (.bipush 16, 2) := dc_16 (a := 16) (by decide +kernel) rfl
theorem d_Rod_drawnBits_3 : decode b_Rod_drawnBits 3 = .ok (.iushr, 1) := dc_124 (by decide +kernel)
theorem d_Rod_drawnBits_4 : decode b_Rod_drawnBits 4 = .ok (.sipush 32767, 3) := dc_17 (a := 127) (b := 255) (by decide +kernel) rfl
theorem d_Rod_drawnBits_7 : decode b_Rod_drawnBits 7 = .ok (.iand, 1) := dc_126 (by decide +kernel)
theorem d_Rod_drawnBits_8 : decode b_Rod_drawnBits 8 = .ok (.ireturn, 1) := dc_172 (by decide +kernel)
theorem d_Land_cells_0 : decode b_Land_cells 0 = .ok (.aload_n 0, 1) := dc_42 (by decide +kernel)
theorem d_Land_cells_1 : decode b_Land_cells 1 = .ok (.getfield 27, 3) := dc_180 (a := 0) (b := 27) (by decide +kernel) rfl
theorem d_Land_cells_4 : decode b_Land_cells 4 = .ok (.aload_n 0, 1) := dc_42 (by decide +kernel)
theorem d_Land_cells_5 : decode b_Land_cells 5 = .ok (.getfield 31, 3) := dc_180 (a := 0) (b := 31) (by decide +kernel) rfl
theorem d_Land_cells_8 : decode b_Land_cells 8 = .ok (.imul, 1) := dc_104 (by decide +kernel)
theorem d_Land_cells_9 : decode b_Land_cells 9 = .ok (.ireturn, 1) := dc_172 (by decide +kernel)
abbrev q_Land_cells_0 (h : Hp) (w : Int32) (wZ : Int) (g : Int32) (gZ : Int) : Option Value → Hp → Prop := pInt (fun r h' => h = h' ∧ (4 ≤ r.toInt ∧ r.toInt ≤ 16 ∧ r.toInt = wZ * gZ))
set_option maxRecDepth 100000 in
theorem c_Land_cells_0 (h : Hp) (hI : Inv h) (w : Int32) (wZ : Int) (wE : w.toInt = wZ) (wK : h.1 1 0 = w) (g : Int32) (gZ : Int) (gE : g.toInt = gZ) (gK : h.1 1 1 = g) : Ct y_Land_cells b_Land_cells 1 (some .int) 0 0 [.ref 1] h (q_Land_cells_0 h w wZ g gZ) := by
  refine ct_ow R_Land [some (.ref 1)] rfl (by decide) rfl (Nat.le_of_ble_eq_true rfl) ?_
  have f0 : fr [] h h := fr_rf
  have g1 : 2 ≤ wZ ∧ wZ ≤ 4 := inv_at hI wE wK.symm rfl
  have g2 : 2 ≤ gZ ∧ gZ ≤ 4 := inv_at hI gE gK.symm rfl
  refine V_aload_n 0 d_Land_cells_0 rfl rfl ?_
  refine N_getK fa_Land_27 sk_1 rfl d_Land_cells_1 wK ?_
  refine V_aload_n 0 d_Land_cells_4 rfl rfl ?_
  refine N_getK fa_Land_31 sk_1 rfl d_Land_cells_5 gK ?_
  refine N_mul24 wE gE (by (first | decide +kernel | omega)) (by (first | decide +kernel | omega)) d_Land_cells_8 (fun z3 z3Z z3E z3e z3r z3m => ?_)
  exact V_iret rfl d_Land_cells_9 ⟨z3, rfl, ⟨rfl, (by (try rw [z3E]); omega)⟩⟩
abbrev q_Land_cells_1 (h : Hp) (w : Int32) (wZ : Int) (g : Int32) (gZ : Int) : Option Value → Hp → Prop := pInt (fun r h' => h = h' ∧ (4 ≤ r.toInt ∧ r.toInt ≤ 16 ∧ r.toInt = wZ * gZ))
set_option maxRecDepth 100000 in
theorem c_Land_cells_1 (h : Hp) (hI : Inv h) (w : Int32) (wZ : Int) (wE : w.toInt = wZ) (wK : h.1 18 0 = w) (g : Int32) (gZ : Int) (gE : g.toInt = gZ) (gK : h.1 18 1 = g) : Ct y_Land_cells b_Land_cells 1 (some .int) 0 0 [.ref 18] h (q_Land_cells_1 h w wZ g gZ) := by
  refine ct_ow R_Land [some (.ref 18)] rfl (by decide) rfl (Nat.le_of_ble_eq_true rfl) ?_
  have f0 : fr [] h h := fr_rf
  have g1 : 2 ≤ wZ ∧ wZ ≤ 4 := inv_at hI wE wK.symm rfl
  have g2 : 2 ≤ gZ ∧ gZ ≤ 4 := inv_at hI gE gK.symm rfl
  refine V_aload_n 0 d_Land_cells_0 rfl rfl ?_
  refine N_getK fa_Land_27 sk_18 rfl d_Land_cells_1 wK ?_
  refine V_aload_n 0 d_Land_cells_4 rfl rfl ?_
  refine N_getK fa_Land_31 sk_18 rfl d_Land_cells_5 gK ?_
  refine N_mul24 wE gE (by (first | decide +kernel | omega)) (by (first | decide +kernel | omega)) d_Land_cells_8 (fun z3 z3Z z3E z3e z3r z3m => ?_)
  exact V_iret rfl d_Land_cells_9 ⟨z3, rfl, ⟨rfl, (by (try rw [z3E]); omega)⟩⟩
abbrev q_Land_cells_4 (h : Hp) (w : Int32) (wZ : Int) (g : Int32) (gZ : Int) : Option Value → Hp → Prop := pInt (fun r h' => h = h' ∧ (4 ≤ r.toInt ∧ r.toInt ≤ 16 ∧ r.toInt = wZ * gZ))
set_option maxRecDepth 100000 in
theorem c_Land_cells_4 (h : Hp) (hI : Inv h) (w : Int32) (wZ : Int) (wE : w.toInt = wZ) (wK : h.1 69 0 = w) (g : Int32) (gZ : Int) (gE : g.toInt = gZ) (gK : h.1 69 1 = g) : Ct y_Land_cells b_Land_cells 1 (some .int) 0 0 [.ref 69] h (q_Land_cells_4 h w wZ g gZ) := by
  refine ct_ow R_Land [some (.ref 69)] rfl (by decide) rfl (Nat.le_of_ble_eq_true rfl) ?_
  have f0 : fr [] h h := fr_rf
  have g1 : 2 ≤ wZ ∧ wZ ≤ 4 := inv_at hI wE wK.symm rfl
  have g2 : 2 ≤ gZ ∧ gZ ≤ 4 := inv_at hI gE gK.symm rfl
  refine V_aload_n 0 d_Land_cells_0 rfl rfl ?_
  refine N_getK fa_Land_27 sk_69 rfl d_Land_cells_1 wK ?_
  refine V_aload_n 0 d_Land_cells_4 rfl rfl ?_
  refine N_getK fa_Land_31 sk_69 rfl d_Land_cells_5 gK ?_
  refine N_mul24 wE gE (by (first | decide +kernel | omega)) (by (first | decide +kernel | omega)) d_Land_cells_8 (fun z3 z3Z z3E z3e z3r z3m => ?_)
  exact V_iret rfl d_Land_cells_9 ⟨z3, rfl, ⟨rfl, (by (try rw [z3E]); omega)⟩⟩
theorem d_Land_allBits_0 : decode b_Land_allBits 0 = .ok (.iconst 1, 1) := dc_4 (by decide +kernel)
theorem d_Land_allBits_1 : decode b_Land_allBits 1 = .ok (.aload_n 0, 1) := dc_42 (by decide +kernel)
theorem d_Land_allBits_2 : decode b_Land_allBits 2 = .ok (.invokevirtual 52, 3) := dc_182 (a := 0) (b := 52) (by decide +kernel) rfl
theorem d_Land_allBits_5 : decode b_Land_allBits 5 = .ok (.ishl, 1) := dc_120 (by decide +kernel)
theorem d_Land_allBits_6 : decode b_Land_allBits 6 = .ok (.iconst 1, 1) := dc_4 (by decide +kernel)
theorem d_Land_allBits_7 : decode b_Land_allBits 7 = .ok (.isub, 1) := dc_100 (by decide +kernel)
theorem d_Land_allBits_8 : decode b_Land_allBits 8 = .ok (.ireturn, 1) := dc_172 (by decide +kernel)
theorem d_Land_has_0 : decode b_Land_has 0 = .ok (.iload_n 1, 1) := dc_27 (by decide +kernel)
theorem d_Land_has_1 : decode b_Land_has 1 = .ok (.ifCond .lt 15, 3) := dc_155 (a := 0) (b := 15) (by decide +kernel) rfl
theorem d_Land_has_4 : decode b_Land_has 4 = .ok (.iload_n 1, 1) := dc_27 (by decide +kernel)
theorem d_Land_has_5 : decode b_Land_has 5 = .ok (.aload_n 0, 1) := dc_42 (by decide +kernel)
theorem d_Land_has_6 : decode b_Land_has 6 = .ok (.invokevirtual 52, 3) := dc_182 (a := 0) (b := 52) (by decide +kernel) rfl
theorem d_Land_has_9 : decode b_Land_has 9 = .ok (.if_icmp .ge 7, 3) := dc_162 (a := 0) (b := 7) (by decide +kernel) rfl
theorem d_Land_has_12 : decode b_Land_has 12 = .ok (.iconst 1, 1) := dc_4 (by decide +kernel)
theorem d_Land_has_13 : decode b_Land_has 13 = .ok (.goto 4, 3) := dc_167 (a := 0) (b := 4) (by decide +kernel) rfl
theorem d_Land_has_16 : decode b_Land_has 16 = .ok (.iconst 0, 1) := dc_3 (by decide +kernel)
theorem d_Land_has_17 : decode b_Land_has 17 = .ok (.ireturn, 1) := dc_172 (by decide +kernel)
theorem d_Land_isWell_0 : decode b_Land_isWell 0 = .ok (.aload_n 0, 1) := dc_42 (by decide +kernel)
theorem d_Land_isWell_1 : decode b_Land_isWell 1 = .ok (.getfield 9, 3) := dc_180 (a := 0) (b := 9) (by decide +kernel) rfl
theorem d_Land_isWell_4 : decode b_Land_isWell 4 = .ok (.iload_n 1, 1) := dc_27 (by decide +kernel)
theorem d_Land_isWell_5 : decode b_Land_isWell 5 = .ok (.iaload, 1) := dc_46 (by decide +kernel)
theorem d_Land_isWell_6 : decode b_Land_isWell 6 = .ok (.ifCond .le 22, 3) := dc_158 (a := 0) (b := 22) (by decide +kernel) rfl
theorem d_Land_isWell_9 : decode b_Land_isWell 9 = .ok (.aload_n 0, 1) := dc_42 (by decide +kernel)
theorem d_Land_isWell_10 : decode b_Land_isWell 10 = .ok (.getfield 9, 3) := dc_180 (a := 0) (b := 9) (by decide +kernel) rfl
theorem d_Land_isWell_13 : decode b_Land_isWell 13 = .ok (.iload_n 1, 1) := dc_27 (by decide +kernel)
theorem d_Land_isWell_14 : decode b_Land_isWell 14 = .ok (.iaload, 1) := dc_46 (by decide +kernel)
theorem d_Land_isWell_15 : decode b_Land_isWell 15 = .ok (.aload_n 0, 1) := dc_42 (by decide +kernel)
theorem d_Land_isWell_16 : decode b_Land_isWell 16 = .ok (.getfield 24, 3) := dc_180 (a := 0) (b := 24) (by decide +kernel) rfl
theorem d_Land_isWell_19 : decode b_Land_isWell 19 = .ok (.iload_n 1, 1) := dc_27 (by decide +kernel)
theorem d_Land_isWell_20 : decode b_Land_isWell 20 = .ok (.iaload, 1) := dc_46 (by decide +kernel)
theorem d_Land_isWell_21 : decode b_Land_isWell 21 = .ok (.if_icmp .gt 7, 3) := dc_163 (a := 0) (b := 7) (by decide +kernel) rfl
theorem d_Land_isWell_24 : decode b_Land_isWell 24 = .ok (.iconst 1, 1) := dc_4 (by decide +kernel)
theorem d_Land_isWell_25 : decode b_Land_isWell 25 = .ok (.goto 4, 3) := dc_167 (a := 0) (b := 4) (by decide +kernel) rfl
theorem d_Land_isWell_28 : decode b_Land_isWell 28 = .ok (.iconst 0, 1) := dc_3 (by decide +kernel)
theorem d_Land_isWell_29 : decode b_Land_isWell 29 = .ok (.ireturn, 1) := dc_172 (by decide +kernel)
theorem d_Land_wellBits_0 : decode b_Land_wellBits 0 = .ok (.iconst 0, 1) := dc_3 (by decide +kernel)
theorem d_Land_wellBits_1 : decode b_Land_wellBits 1 = .ok (.istore_n 1, 1) := dc_60 (by decide +kernel)
theorem d_Land_wellBits_2 : decode b_Land_wellBits 2 = .ok (.iconst 0, 1) := dc_3 (by decide +kernel)
theorem d_Land_wellBits_3 : decode b_Land_wellBits 3 = .ok (.istore_n 2, 1) := dc_61 (by decide +kernel)
theorem d_Land_wellBits_4 : decode b_Land_wellBits 4 = .ok (.iload_n 2, 1) := dc_28 (by decide +kernel)
theorem d_Land_wellBits_5 : decode b_Land_wellBits 5 = .ok (.aload_n 0, 1) := dc_42 (by decide +kernel)
theorem d_Land_wellBits_6 : decode b_Land_wellBits 6 = .ok (.invokevirtual 52, 3) := dc_182 (a := 0) (b := 52) (by decide +kernel) rfl
theorem d_Land_wellBits_9 : decode b_Land_wellBits 9 = .ok (.if_icmp .ge 23, 3) := dc_162 (a := 0) (b := 23) (by decide +kernel) rfl
theorem d_Land_wellBits_12 : decode b_Land_wellBits 12 = .ok (.aload_n 0, 1) := dc_42 (by decide +kernel)
theorem d_Land_wellBits_13 : decode b_Land_wellBits 13 = .ok (.iload_n 2, 1) := dc_28 (by decide +kernel)
theorem d_Land_wellBits_14 : decode b_Land_wellBits 14 = .ok (.invokevirtual 56, 3) := dc_182 (a := 0) (b := 56) (by decide +kernel) rfl
theorem d_Land_wellBits_17 : decode b_Land_wellBits 17 = .ok (.ifCond .eq 9, 3) := dc_153 (a := 0) (b := 9) (by decide +kernel) rfl
theorem d_Land_wellBits_20 : decode b_Land_wellBits 20 = .ok (.iload_n 1, 1) := dc_27 (by decide +kernel)
theorem d_Land_wellBits_21 : decode b_Land_wellBits 21 = .ok (.iconst 1, 1) := dc_4 (by decide +kernel)
theorem d_Land_wellBits_22 : decode b_Land_wellBits 22 = .ok (.iload_n 2, 1) := dc_28 (by decide +kernel)
theorem d_Land_wellBits_23 : decode b_Land_wellBits 23 = .ok (.ishl, 1) := dc_120 (by decide +kernel)
theorem d_Land_wellBits_24 : decode b_Land_wellBits 24 = .ok (.ior, 1) := dc_128 (by decide +kernel)
theorem d_Land_wellBits_25 : decode b_Land_wellBits 25 = .ok (.istore_n 1, 1) := dc_60 (by decide +kernel)
theorem d_Land_wellBits_26 : decode b_Land_wellBits 26 = .ok (.iinc 2 1, 3) := dc_132 (a := 2) (b := 1) (by decide +kernel) rfl
theorem d_Land_wellBits_29 : decode b_Land_wellBits 29 = .ok (.goto (-25), 3) := dc_167 (a := 255) (b := 231) (by decide +kernel) rfl
theorem d_Land_wellBits_32 : decode b_Land_wellBits 32 = .ok (.iload_n 1, 1) := dc_27 (by decide +kernel)
theorem d_Land_wellBits_33 : decode b_Land_wellBits 33 = .ok (.ireturn, 1) := dc_172 (by decide +kernel)
theorem d_Land_wells_0 : decode b_Land_wells 0 = .ok (.aload_n 0, 1) := dc_42 (by decide +kernel)
theorem d_Land_wells_1 : decode b_Land_wells 1 = .ok (.invokevirtual 60, 3) := dc_182 (a := 0) (b := 60) (by decide +kernel) rfl
theorem d_Land_wells_4 : decode b_Land_wells 4 = .ok (.invokestatic 63, 3) := dc_184 (a := 0) (b := 63) (by decide +kernel) rfl
theorem d_Land_wells_7 : decode b_Land_wells 7 = .ok (.ireturn, 1) := dc_172 (by decide +kernel)
theorem d_Land_boredBits_0 : decode b_Land_boredBits 0 = .ok (.iconst 0, 1) := dc_3 (by decide +kernel)
theorem d_Land_boredBits_1 : decode b_Land_boredBits 1 = .ok (.istore_n 2, 1) := dc_61 (by decide +kernel)
theorem d_Land_boredBits_2 : decode b_Land_boredBits 2 = .ok (.iconst 0, 1) := dc_3 (by decide +kernel)
theorem d_Land_boredBits_3 : decode b_Land_boredBits 3 = .ok (.istore_n 3, 1) := dc_62 (by decide +kernel)
theorem d_Land_boredBits_4 : decode b_Land_boredBits 4 = .ok (.iload_n 3, 1) := dc_29 (by decide +kernel)
theorem d_Land_boredBits_5 : decode b_Land_boredBits 5 = .ok (.aload_n 0, 1) := dc_42 (by decide +kernel)
theorem d_Land_boredBits_6 : decode b_Land_boredBits 6 = .ok (.invokevirtual 52, 3) := dc_182 (a := 0) (b := 52) (by decide +kernel) rfl
theorem d_Land_boredBits_9 : decode b_Land_boredBits 9 = .ok (.if_icmp .ge 25, 3) := dc_162 (a := 0) (b := 25) (by decide +kernel) rfl
theorem d_Land_boredBits_12 : decode b_Land_boredBits 12 = .ok (.aload_n 0, 1) := dc_42 (by decide +kernel)
theorem d_Land_boredBits_13 : decode b_Land_boredBits 13 = .ok (.getfield 24, 3) := dc_180 (a := 0) (b := 24) (by decide +kernel) rfl
theorem d_Land_boredBits_16 : decode b_Land_boredBits 16 = .ok (.iload_n 3, 1) := dc_29 (by decide +kernel)
theorem d_Land_boredBits_17 : decode b_Land_boredBits 17 = .ok (.iaload, 1) := dc_46 (by decide +kernel)
theorem d_Land_boredBits_18 : decode b_Land_boredBits 18 = .ok (.iload_n 1, 1) := dc_27 (by decide +kernel)
theorem d_Land_boredBits_19 : decode b_Land_boredBits 19 = .ok (.if_icmp .lt 9, 3) := dc_161 (a := 0) (b := 9) (by decide +kernel) rfl
theorem d_Land_boredBits_22 : decode b_Land_boredBits 22 = .ok (.iload_n 2, 1) := dc_28 (by decide +kernel)
theorem d_Land_boredBits_23 : decode b_Land_boredBits 23 = .ok (.iconst 1, 1) := dc_4 (by decide +kernel)
theorem d_Land_boredBits_24 : decode b_Land_boredBits 24 = .ok (.iload_n 3, 1) := dc_29 (by decide +kernel)
theorem d_Land_boredBits_25 : decode b_Land_boredBits 25 = .ok (.ishl, 1) := dc_120 (by decide +kernel)
theorem d_Land_boredBits_26 : decode b_Land_boredBits 26 = .ok (.ior, 1) := dc_128 (by decide +kernel)
theorem d_Land_boredBits_27 : decode b_Land_boredBits 27 = .ok (.istore_n 2, 1) := dc_61 (by decide +kernel)
theorem d_Land_boredBits_28 : decode b_Land_boredBits 28 = .ok (.iinc 3 1, 3) := dc_132 (a := 3) (b := 1) (by decide +kernel) rfl
theorem d_Land_boredBits_31 : decode b_Land_boredBits 31 = .ok (.goto (-27), 3) := dc_167 (a := 255) (b := 229) (by decide +kernel) rfl
theorem d_Land_boredBits_34 : decode b_Land_boredBits 34 = .ok (.iload_n 2, 1) := dc_28 (by decide +kernel)
theorem d_Land_boredBits_35 : decode b_Land_boredBits 35 = .ok (.ireturn, 1) := dc_172 (by decide +kernel)
theorem d_Land_raiseWater_0 : decode b_Land_raiseWater 0 = .ok (.iconst 0, 1) := dc_3 (by decide +kernel)
theorem d_Land_raiseWater_1 : decode b_Land_raiseWater 1 = .ok (.istore_n 2, 1) := dc_61 (by decide +kernel)
theorem d_Land_raiseWater_2 : decode b_Land_raiseWater 2 = .ok (.iload_n 2, 1) := dc_28 (by decide +kernel)
theorem d_Land_raiseWater_3 : decode b_Land_raiseWater 3 = .ok (.aload_n 0, 1) := dc_42 (by decide +kernel)
theorem d_Land_raiseWater_4 : decode b_Land_raiseWater 4 = .ok (.invokevirtual 52, 3) := dc_182 (a := 0) (b := 52) (by decide +kernel) rfl
theorem d_Land_raiseWater_7 : decode b_Land_raiseWater 7 = .ok (.if_icmp .ge 36, 3) := dc_162 (a := 0) (b := 36) (by decide +kernel) rfl
theorem d_Land_raiseWater_10 : decode b_Land_raiseWater 10 = .ok (.aload_n 0, 1) := dc_42 (by decide +kernel)
theorem d_Land_raiseWater_11 : decode b_Land_raiseWater 11 = .ok (.getfield 9, 3) := dc_180 (a := 0) (b := 9) (by decide +kernel) rfl
theorem d_Land_raiseWater_14 : decode b_Land_raiseWater 14 = .ok (.iload_n 2, 1) := dc_28 (by decide +kernel)
theorem d_Land_raiseWater_15 : decode b_Land_raiseWater 15 = .ok (.iaload, 1) := dc_46 (by decide +kernel)
theorem d_Land_raiseWater_16 : decode b_Land_raiseWater 16 = .ok (.ifCond .le 21, 3) := dc_158 (a := 0) (b := 21) (by decide +kernel) rfl
theorem d_Land_raiseWater_19 : decode b_Land_raiseWater 19 = .ok (.aload_n 0, 1) := dc_42 (by decide +kernel)
theorem d_Land_raiseWater_20 : decode b_Land_raiseWater 20 = .ok (.getfield 9, 3) := dc_180 (a := 0) (b := 9) (by decide +kernel) rfl
theorem d_Land_raiseWater_23 : decode b_Land_raiseWater 23 = .ok (.iload_n 2, 1) := dc_28 (by decide +kernel)
theorem d_Land_raiseWater_24 : decode b_Land_raiseWater 24 = .ok (.iconst 1, 1) := dc_4 (by decide +kernel)
theorem d_Land_raiseWater_25 : decode b_Land_raiseWater 25 = .ok (.aload_n 0, 1) := dc_42 (by decide +kernel)
theorem d_Land_raiseWater_26 : decode b_Land_raiseWater 26 = .ok (.getfield 9, 3) := dc_180 (a := 0) (b := 9) (by decide +kernel) rfl
theorem d_Land_raiseWater_29 : decode b_Land_raiseWater 29 = .ok (.iload_n 2, 1) := dc_28 (by decide +kernel)
theorem d_Land_raiseWater_30 : decode b_Land_raiseWater 30 = .ok (.iaload, 1) := dc_46 (by decide +kernel)
theorem d_Land_raiseWater_31 : decode b_Land_raiseWater 31 = .ok (.iload_n 1, 1) := dc_27 (by decide +kernel)
theorem d_Land_raiseWater_32 : decode b_Land_raiseWater 32 = .ok (.isub, 1) := dc_100 (by decide +kernel)
theorem d_Land_raiseWater_33 : decode b_Land_raiseWater 33 = .ok (.invokestatic 69, 3) := dc_184 (a := 0) (b := 69) (by decide +kernel) rfl
theorem d_Land_raiseWater_36 : decode b_Land_raiseWater 36 = .ok (.iastore, 1) := dc_79 (by decide +kernel)
theorem d_Land_raiseWater_37 : decode b_Land_raiseWater 37 = .ok (.iinc 2 1, 3) := dc_132 (a := 2) (b := 1) (by decide +kernel) rfl
theorem d_Land_raiseWater_40 : decode b_Land_raiseWater 40 = .ok (.goto (-38), 3) := dc_167 (a := 255) (b := 218) (by decide +kernel) rfl
theorem d_Land_raiseWater_43 : decode b_Land_raiseWater 43 = .ok (.return_, 1) := dc_177 (by decide +kernel)
theorem d_Land_beside_0 : decode b_Land_beside 0 = .ok (.aload_n 0, 1) := dc_42 (by decide +kernel)
theorem d_Land_beside_1 : decode b_Land_beside 1 = .ok (.iload_n 1, 1) := dc_27 (by decide +kernel)
theorem d_Land_beside_2 : decode b_Land_beside 2 = .ok (.invokevirtual 75, 3) := dc_182 (a := 0) (b := 75) (by decide +kernel) rfl
theorem d_Land_beside_5 : decode b_Land_beside 5 = .ok (.ifCond .ne 5, 3) := dc_154 (a := 0) (b := 5) (by decide +kernel) rfl
theorem d_Land_beside_10 : decode b_Land_beside 10 = .ok (.iload_n 1, 1) := dc_27 (by decide +kernel)
theorem d_Land_beside_11 : decode b_Land_beside 11 = .ok (.aload_n 0, 1) := dc_42 (by decide +kernel)
theorem d_Land_beside_12 : decode b_Land_beside 12 = .ok (.getfield 27, 3) := dc_180 (a := 0) (b := 27) (by decide +kernel) rfl
theorem d_Land_beside_15 : decode b_Land_beside 15 = .ok (.irem, 1) := dc_112 (by decide +kernel)
theorem d_Land_beside_16 : decode b_Land_beside 16 = .ok (.istore_n 3, 1) := dc_62 (by decide +kernel)
theorem d_Land_beside_17 : decode b_Land_beside 17 = .ok (.iload_n 2, 1) := dc_28 (by decide +kernel)
theorem d_Land_beside_18 : decode b_Land_beside 18 = .ok (.tableswitch 75 0 2 #[26, 45, 57], 26) := by decide +kernel
theorem d_Land_beside_44 : decode b_Land_beside 44 = .ok (.iload_n 1, 1) := dc_27 (by decide +kernel)
theorem d_Land_beside_45 : decode b_Land_beside 45 = .ok (.aload_n 0, 1) := dc_42 (by decide +kernel)
theorem d_Land_beside_46 : decode b_Land_beside 46 = .ok (.getfield 27, 3) := dc_180 (a := 0) (b := 27) (by decide +kernel) rfl
theorem d_Land_beside_49 : decode b_Land_beside 49 = .ok (.if_icmp .lt 12, 3) := dc_161 (a := 0) (b := 12) (by decide +kernel) rfl
theorem d_Land_beside_52 : decode b_Land_beside 52 = .ok (.iload_n 1, 1) := dc_27 (by decide +kernel)
theorem d_Land_beside_53 : decode b_Land_beside 53 = .ok (.aload_n 0, 1) := dc_42 (by decide +kernel)
theorem d_Land_beside_54 : decode b_Land_beside 54 = .ok (.getfield 27, 3) := dc_180 (a := 0) (b := 27) (by decide +kernel) rfl
theorem d_Land_beside_57 : decode b_Land_beside 57 = .ok (.isub, 1) := dc_100 (by decide +kernel)
theorem d_Land_beside_58 : decode b_Land_beside 58 = .ok (.goto 4, 3) := dc_167 (a := 0) (b := 4) (by decide +kernel) rfl
theorem d_Land_beside_61 : decode b_Land_beside 61 = .ok (.iconst (-1), 1) := dc_2 (by decide +kernel)
theorem d_Land_beside_62 : decode b_Land_beside 62 = .ok (.ireturn, 1) := dc_172 (by decide +kernel)
theorem d_Land_beside_63 : decode b_Land_beside 63 = .ok (.iload_n 3, 1) := dc_29 (by decide +kernel)
theorem d_Land_beside_64 : decode b_Land_beside 64 = .ok (.ifCond .le 9, 3) := dc_158 (a := 0) (b := 9) (by decide +kernel) rfl
theorem d_Land_beside_67 : decode b_Land_beside 67 = .ok (.iload_n 1, 1) := dc_27 (by decide +kernel)
theorem d_Land_beside_68 : decode b_Land_beside 68 = .ok (.iconst 1, 1) := dc_4 (by decide +kernel)
theorem d_Land_beside_69 : decode b_Land_beside 69 = .ok (.isub, 1) := dc_100 (by decide +kernel)
theorem d_Land_beside_70 : decode b_Land_beside 70 = .ok (.goto 4, 3) := dc_167 (a := 0) (b := 4) (by decide +kernel) rfl
theorem d_Land_beside_73 : decode b_Land_beside 73 = .ok (.iconst (-1), 1) := dc_2 (by decide +kernel)
theorem d_Land_beside_74 : decode b_Land_beside 74 = .ok (.ireturn, 1) := dc_172 (by decide +kernel)
theorem d_Land_beside_75 : decode b_Land_beside 75 = .ok (.iload_n 3, 1) := dc_29 (by decide +kernel)
theorem d_Land_beside_76 : decode b_Land_beside 76 = .ok (.aload_n 0, 1) := dc_42 (by decide +kernel)
theorem d_Land_beside_77 : decode b_Land_beside 77 = .ok (.getfield 27, 3) := dc_180 (a := 0) (b := 27) (by decide +kernel) rfl
theorem d_Land_beside_80 : decode b_Land_beside 80 = .ok (.iconst 1, 1) := dc_4 (by decide +kernel)
theorem d_Land_beside_81 : decode b_Land_beside 81 = .ok (.isub, 1) := dc_100 (by decide +kernel)
theorem d_Land_beside_82 : decode b_Land_beside 82 = .ok (.if_icmp .ge 9, 3) := dc_162 (a := 0) (b := 9) (by decide +kernel) rfl
theorem d_Land_beside_85 : decode b_Land_beside 85 = .ok (.iload_n 1, 1) := dc_27 (by decide +kernel)
theorem d_Land_beside_86 : decode b_Land_beside 86 = .ok (.iconst 1, 1) := dc_4 (by decide +kernel)
theorem d_Land_beside_87 : decode b_Land_beside 87 = .ok (.iadd, 1) := dc_96 (by decide +kernel)
theorem d_Land_beside_88 : decode b_Land_beside 88 = .ok (.goto 4, 3) := dc_167 (a := 0) (b := 4) (by decide +kernel) rfl
theorem d_Land_beside_91 : decode b_Land_beside 91 = .ok (.iconst (-1), 1) := dc_2 (by decide +kernel)
theorem d_Land_beside_92 : decode b_Land_beside 92 = .ok (.ireturn, 1) := dc_172 (by decide +kernel)
theorem d_Land_beside_93 : decode b_Land_beside 93 = .ok (.aload_n 0, 1) := dc_42 (by decide +kernel)
theorem d_Land_beside_94 : decode b_Land_beside 94 = .ok (.iload_n 1, 1) := dc_27 (by decide +kernel)
theorem d_Land_beside_95 : decode b_Land_beside 95 = .ok (.aload_n 0, 1) := dc_42 (by decide +kernel)
theorem d_Land_beside_96 : decode b_Land_beside 96 = .ok (.getfield 27, 3) := dc_180 (a := 0) (b := 27) (by decide +kernel) rfl
theorem d_Land_beside_99 : decode b_Land_beside 99 = .ok (.iadd, 1) := dc_96 (by decide +kernel)
theorem d_Land_beside_100 : decode b_Land_beside 100 = .ok (.invokevirtual 75, 3) := dc_182 (a := 0) (b := 75) (by decide +kernel) rfl
theorem d_Land_beside_103 : decode b_Land_beside 103 = .ok (.ifCond .eq 12, 3) := dc_153 (a := 0) (b := 12) (by decide +kernel) rfl
theorem d_Land_beside_106 : decode b_Land_beside 106 = .ok (.iload_n 1, 1) := dc_27 (by decide +kernel)
theorem d_Land_beside_107 : decode b_Land_beside 107 = .ok (.aload_n 0, 1) := dc_42 (by decide +kernel)
theorem d_Land_beside_108 : decode b_Land_beside 108 = .ok (.getfield 27, 3) := dc_180 (a := 0) (b := 27) (by decide +kernel) rfl
theorem d_Land_beside_111 : decode b_Land_beside 111 = .ok (.iadd, 1) := dc_96 (by decide +kernel)
theorem d_Land_beside_112 : decode b_Land_beside 112 = .ok (.goto 4, 3) := dc_167 (a := 0) (b := 4) (by decide +kernel) rfl
theorem d_Land_beside_115 : decode b_Land_beside 115 = .ok (.iconst (-1), 1) := dc_2 (by decide +kernel)
theorem d_Land_beside_116 : decode b_Land_beside 116 = .ok (.ireturn, 1) := dc_172 (by decide +kernel)
theorem d_Land_twitches_0 : decode b_Land_twitches 0 = .ok (.aload_n 0, 1) := dc_42 (by decide +kernel)
theorem d_Land_twitches_1 : decode b_Land_twitches 1 = .ok (.getfield 9, 3) := dc_180 (a := 0) (b := 9) (by decide +kernel) rfl
theorem d_Land_twitches_4 : decode b_Land_twitches 4 = .ok (.iload_n 3, 1) := dc_29 (by decide +kernel)
theorem d_Land_twitches_5 : decode b_Land_twitches 5 = .ok (.iaload, 1) := dc_46 (by decide +kernel)
theorem d_Land_twitches_6 : decode b_Land_twitches 6 = .ok (.ifCond .le 17, 3) := dc_158 (a := 0) (b := 17) (by decide +kernel) rfl
theorem d_Land_twitches_9 : decode b_Land_twitches 9 = .ok (.aload_n 0, 1) := dc_42 (by decide +kernel)
theorem d_Land_twitches_10 : decode b_Land_twitches 10 = .ok (.getfield 9, 3) := dc_180 (a := 0) (b := 9) (by decide +kernel) rfl
theorem d_Land_twitches_13 : decode b_Land_twitches 13 = .ok (.iload_n 3, 1) := dc_29 (by decide +kernel)
theorem d_Land_twitches_14 : decode b_Land_twitches 14 = .ok (.iaload, 1) := dc_46 (by decide +kernel)
theorem d_Land_twitches_15 : decode b_Land_twitches 15 = .ok (.iload_n 2, 1) := dc_28 (by decide +kernel)
theorem d_Land_twitches_16 : decode b_Land_twitches 16 = .ok (.if_icmp .gt 7, 3) := dc_163 (a := 0) (b := 7) (by decide +kernel) rfl
theorem d_Land_twitches_19 : decode b_Land_twitches 19 = .ok (.iconst 1, 1) := dc_4 (by decide +kernel)
theorem d_Land_twitches_20 : decode b_Land_twitches 20 = .ok (.goto 4, 3) := dc_167 (a := 0) (b := 4) (by decide +kernel) rfl
theorem d_Land_twitches_23 : decode b_Land_twitches 23 = .ok (.iconst 0, 1) := dc_3 (by decide +kernel)
theorem d_Land_twitches_24 : decode b_Land_twitches 24 = .ok (.istore 6, 2) := dc_54 (a := 6) (by decide +kernel) rfl
theorem d_Land_twitches_26 : decode b_Land_twitches 26 = .ok (.aload_n 0, 1) := dc_42 (by decide +kernel)
theorem d_Land_twitches_27 : decode b_Land_twitches 27 = .ok (.getfield 15, 3) := dc_180 (a := 0) (b := 15) (by decide +kernel) rfl
theorem d_Land_twitches_30 : decode b_Land_twitches 30 = .ok (.iload_n 3, 1) := dc_29 (by decide +kernel)
theorem d_Land_twitches_31 : decode b_Land_twitches 31 = .ok (.iaload, 1) := dc_46 (by decide +kernel)
theorem d_Land_twitches_32 : decode b_Land_twitches 32 = .ok (.ifCond .eq 7, 3) := dc_153 (a := 0) (b := 7) (by decide +kernel) rfl
theorem d_Land_twitches_35 : decode b_Land_twitches 35 = .ok (.iconst 1, 1) := dc_4 (by decide +kernel)
theorem d_Land_twitches_36 : decode b_Land_twitches 36 = .ok (.goto 4, 3) := dc_167 (a := 0) (b := 4) (by decide +kernel) rfl
theorem d_Land_twitches_39 : decode b_Land_twitches 39 = .ok (.iconst 0, 1) := dc_3 (by decide +kernel)
theorem d_Land_twitches_40 : decode b_Land_twitches 40 = .ok (.istore 7, 2) := dc_54 (a := 7) (by decide +kernel) rfl
theorem d_Land_twitches_42 : decode b_Land_twitches 42 = .ok (.iload_n 1, 1) := dc_27 (by decide +kernel)
theorem d_Land_twitches_43 : decode b_Land_twitches 43 = .ok (.tableswitch 65 0 3 #[29, 32, 35, 48], 29) := by decide +kernel
theorem d_Land_twitches_72 : decode b_Land_twitches 72 = .ok (.iload 6, 2) := dc_21 (a := 6) (by decide +kernel) rfl
theorem d_Land_twitches_74 : decode b_Land_twitches 74 = .ok (.ireturn, 1) := dc_172 (by decide +kernel)
theorem d_Land_twitches_75 : decode b_Land_twitches 75 = .ok (.iload 7, 2) := dc_21 (a := 7) (by decide +kernel) rfl
theorem d_Land_twitches_77 : decode b_Land_twitches 77 = .ok (.ireturn, 1) := dc_172 (by decide +kernel)
theorem d_Land_twitches_78 : decode b_Land_twitches 78 = .ok (.iload 5, 2) := dc_21 (a := 5) (by decide +kernel) rfl
theorem d_Land_twitches_80 : decode b_Land_twitches 80 = .ok (.iconst 1, 1) := dc_4 (by decide +kernel)
theorem d_Land_twitches_81 : decode b_Land_twitches 81 = .ok (.iand, 1) := dc_126 (by decide +kernel)
theorem d_Land_twitches_82 : decode b_Land_twitches 82 = .ok (.ifCond .eq 7, 3) := dc_153 (a := 0) (b := 7) (by decide +kernel) rfl
theorem d_Land_twitches_85 : decode b_Land_twitches 85 = .ok (.iconst 1, 1) := dc_4 (by decide +kernel)
theorem d_Land_twitches_86 : decode b_Land_twitches 86 = .ok (.goto 4, 3) := dc_167 (a := 0) (b := 4) (by decide +kernel) rfl
theorem d_Land_twitches_89 : decode b_Land_twitches 89 = .ok (.iconst 0, 1) := dc_3 (by decide +kernel)
theorem d_Land_twitches_90 : decode b_Land_twitches 90 = .ok (.ireturn, 1) := dc_172 (by decide +kernel)
theorem d_Land_twitches_91 : decode b_Land_twitches 91 = .ok (.aload_n 0, 1) := dc_42 (by decide +kernel)
theorem d_Land_twitches_92 : decode b_Land_twitches 92 = .ok (.getfield 21, 3) := dc_180 (a := 0) (b := 21) (by decide +kernel) rfl
theorem d_Land_twitches_95 : decode b_Land_twitches 95 = .ok (.iload_n 3, 1) := dc_29 (by decide +kernel)
theorem d_Land_twitches_96 : decode b_Land_twitches 96 = .ok (.iaload, 1) := dc_46 (by decide +kernel)
theorem d_Land_twitches_97 : decode b_Land_twitches 97 = .ok (.iload 4, 2) := dc_21 (a := 4) (by decide +kernel) rfl
theorem d_Land_twitches_99 : decode b_Land_twitches 99 = .ok (.if_icmp .ne 7, 3) := dc_160 (a := 0) (b := 7) (by decide +kernel) rfl
theorem d_Land_twitches_102 : decode b_Land_twitches 102 = .ok (.iconst 1, 1) := dc_4 (by decide +kernel)
theorem d_Land_twitches_103 : decode b_Land_twitches 103 = .ok (.goto 4, 3) := dc_167 (a := 0) (b := 4) (by decide +kernel) rfl
theorem d_Land_twitches_106 : decode b_Land_twitches 106 = .ok (.iconst 0, 1) := dc_3 (by decide +kernel)
theorem d_Land_twitches_107 : decode b_Land_twitches 107 = .ok (.ireturn, 1) := dc_172 (by decide +kernel)
theorem d_Land_twitches_108 : decode b_Land_twitches 108 = .ok (.iload 6, 2) := dc_21 (a := 6) (by decide +kernel) rfl
theorem d_Land_twitches_110 : decode b_Land_twitches 110 = .ok (.ifCond .ne 8, 3) := dc_154 (a := 0) (b := 8) (by decide +kernel) rfl
theorem d_Land_twitches_113 : decode b_Land_twitches 113 = .ok (.iload 7, 2) := dc_21 (a := 7) (by decide +kernel) rfl
theorem d_Land_twitches_115 : decode b_Land_twitches 115 = .ok (.ifCond .eq 7, 3) := dc_153 (a := 0) (b := 7) (by decide +kernel) rfl
theorem d_Land_twitches_118 : decode b_Land_twitches 118 = .ok (.iconst 1, 1) := dc_4 (by decide +kernel)
theorem d_Land_twitches_119 : decode b_Land_twitches 119 = .ok (.goto 4, 3) := dc_167 (a := 0) (b := 4) (by decide +kernel) rfl
theorem d_Land_twitches_122 : decode b_Land_twitches 122 = .ok (.iconst 0, 1) := dc_3 (by decide +kernel)
theorem d_Land_twitches_123 : decode b_Land_twitches 123 = .ok (.ireturn, 1) := dc_172 (by decide +kernel)
theorem d_Land_twitchingRods_0 : decode b_Land_twitchingRods 0 = .ok (.iconst 0, 1) := dc_3 (by decide +kernel)
theorem d_Land_twitchingRods_1 : decode b_Land_twitchingRods 1 = .ok (.istore 4, 2) := dc_54 (a := 4) (by decide +kernel) rfl
theorem d_Land_twitchingRods_3 : decode b_Land_twitchingRods 3 = .ok (.iconst 0, 1) := dc_3 (by decide +kernel)
theorem d_Land_twitchingRods_4 : decode b_Land_twitchingRods 4 = .ok (.istore 5, 2) := dc_54 (a := 5) (by decide +kernel) rfl
theorem d_Land_twitchingRods_6 : decode b_Land_twitchingRods 6 = .ok (.iload 5, 2) := dc_21 (a := 5) (by decide +kernel) rfl
theorem d_Land_twitchingRods_8 : decode b_Land_twitchingRods 8 = .ok (.bipush 21, 2) := dc_16 (a := 21) (by decide +kernel) rfl
theorem d_Land_twitchingRods_10 : decode b_Land_twitchingRods 10 = .ok (.if_icmp .ge 38, 3) := dc_162 (a := 0) (b := 38) (by decide +kernel) rfl
theorem d_Land_twitchingRods_13 : decode b_Land_twitchingRods 13 = .ok (.aload_n 0, 1) := dc_42 (by decide +kernel)
theorem d_Land_twitchingRods_14 : decode b_Land_twitchingRods 14 = .ok (.iload 5, 2) := dc_21 (a := 5) (by decide +kernel) rfl
theorem d_Land_twitchingRods_16 : decode b_Land_twitchingRods 16 = .ok (.invokestatic 78, 3) := dc_184 (a := 0) (b := 78) (by decide +kernel) rfl
theorem d_Land_twitchingRods_19 : decode b_Land_twitchingRods 19 = .ok (.iload 5, 2) := dc_21 (a := 5) (by decide +kernel) rfl
theorem d_Land_twitchingRods_21 : decode b_Land_twitchingRods 21 = .ok (.invokestatic 81, 3) := dc_184 (a := 0) (b := 81) (by decide +kernel) rfl
theorem d_Land_twitchingRods_24 : decode b_Land_twitchingRods 24 = .ok (.iload_n 1, 1) := dc_27 (by decide +kernel)
theorem d_Land_twitchingRods_25 : decode b_Land_twitchingRods 25 = .ok (.iload_n 2, 1) := dc_28 (by decide +kernel)
theorem d_Land_twitchingRods_26 : decode b_Land_twitchingRods 26 = .ok (.iload_n 3, 1) := dc_29 (by decide +kernel)
theorem d_Land_twitchingRods_27 : decode b_Land_twitchingRods 27 = .ok (.invokevirtual 84, 3) := dc_182 (a := 0) (b := 84) (by decide +kernel) rfl
theorem d_Land_twitchingRods_30 : decode b_Land_twitchingRods 30 = .ok (.ifCond .eq 12, 3) := dc_153 (a := 0) (b := 12) (by decide +kernel) rfl
theorem d_Land_twitchingRods_33 : decode b_Land_twitchingRods 33 = .ok (.iload 4, 2) := dc_21 (a := 4) (by decide +kernel) rfl
theorem d_Land_twitchingRods_35 : decode b_Land_twitchingRods 35 = .ok (.iconst 1, 1) := dc_4 (by decide +kernel)
theorem d_Land_twitchingRods_36 : decode b_Land_twitchingRods 36 = .ok (.iload 5, 2) := dc_21 (a := 5) (by decide +kernel) rfl
theorem d_Land_twitchingRods_38 : decode b_Land_twitchingRods 38 = .ok (.ishl, 1) := dc_120 (by decide +kernel)
theorem d_Land_twitchingRods_39 : decode b_Land_twitchingRods 39 = .ok (.ior, 1) := dc_128 (by decide +kernel)
theorem d_Land_twitchingRods_40 : decode b_Land_twitchingRods 40 = .ok (.istore 4, 2) := dc_54 (a := 4) (by decide +kernel) rfl
theorem d_Land_twitchingRods_42 : decode b_Land_twitchingRods 42 = .ok (.iinc 5 1, 3) := dc_132 (a := 5) (b := 1) (by decide +kernel) rfl
theorem d_Land_twitchingRods_45 : decode b_Land_twitchingRods 45 = .ok (.goto (-39), 3) := dc_167 (a := 255) (b := 217) (by decide +kernel) rfl
theorem d_Land_twitchingRods_48 : decode b_Land_twitchingRods 48 = .ok (.iload 4, 2) := dc_21 (a := 4) (by decide +kernel) rfl
theorem d_Land_twitchingRods_50 : decode b_Land_twitchingRods 50 = .ok (.ireturn, 1) := dc_172 (by decide +kernel)
theorem d_Land_reset_0 : decode b_Land_reset 0 = .ok (.aload_n 0, 1) := dc_42 (by decide +kernel)
theorem d_Land_reset_1 : decode b_Land_reset 1 = .ok (.iconst 3, 1) := dc_6 (by decide +kernel)
theorem d_Land_reset_2 : decode b_Land_reset 2 = .ok (.putfield 27, 3) := dc_181 (a := 0) (b := 27) (by decide +kernel) rfl
theorem d_Land_reset_5 : decode b_Land_reset 5 = .ok (.aload_n 0, 1) := dc_42 (by decide +kernel)
theorem d_Land_reset_6 : decode b_Land_reset 6 = .ok (.iconst 3, 1) := dc_6 (by decide +kernel)
theorem d_Land_reset_7 : decode b_Land_reset 7 = .ok (.putfield 31, 3) := dc_181 (a := 0) (b := 31) (by decide +kernel) rfl
theorem d_Land_reset_10 : decode b_Land_reset 10 = .ok (.aload_n 0, 1) := dc_42 (by decide +kernel)
theorem d_Land_reset_11 : decode b_Land_reset 11 = .ok (.iconst 1, 1) := dc_4 (by decide +kernel)
theorem d_Land_reset_12 : decode b_Land_reset 12 = .ok (.putfield 34, 3) := dc_181 (a := 0) (b := 34) (by decide +kernel) rfl
theorem d_Land_reset_15 : decode b_Land_reset 15 = .ok (.aload_n 0, 1) := dc_42 (by decide +kernel)
theorem d_Land_reset_16 : decode b_Land_reset 16 = .ok (.bipush 10, 2) := dc_16 (a := 10) (by decide +kernel) rfl
theorem d_Land_reset_18 : decode b_Land_reset 18 = .ok (.putfield 37, 3) := dc_181 (a := 0) (b := 37) (by decide +kernel) rfl
theorem d_Land_reset_21 : decode b_Land_reset 21 = .ok (.aload_n 0, 1) := dc_42 (by decide +kernel)
theorem d_Land_reset_22 : decode b_Land_reset 22 = .ok (.getfield 9, 3) := dc_180 (a := 0) (b := 9) (by decide +kernel) rfl
theorem d_Land_reset_25 : decode b_Land_reset 25 = .ok (.iconst 0, 1) := dc_3 (by decide +kernel)
theorem d_Land_reset_26 : decode b_Land_reset 26 = .ok (.invokestatic 40, 3) := dc_184 (a := 0) (b := 40) (by decide +kernel) rfl
theorem d_Land_reset_29 : decode b_Land_reset 29 = .ok (.aload_n 0, 1) := dc_42 (by decide +kernel)
theorem d_Land_reset_30 : decode b_Land_reset 30 = .ok (.getfield 15, 3) := dc_180 (a := 0) (b := 15) (by decide +kernel) rfl
theorem d_Land_reset_33 : decode b_Land_reset 33 = .ok (.iconst 0, 1) := dc_3 (by decide +kernel)
theorem d_Land_reset_34 : decode b_Land_reset 34 = .ok (.invokestatic 40, 3) := dc_184 (a := 0) (b := 40) (by decide +kernel) rfl
theorem d_Land_reset_37 : decode b_Land_reset 37 = .ok (.aload_n 0, 1) := dc_42 (by decide +kernel)
theorem d_Land_reset_38 : decode b_Land_reset 38 = .ok (.getfield 18, 3) := dc_180 (a := 0) (b := 18) (by decide +kernel) rfl
theorem d_Land_reset_41 : decode b_Land_reset 41 = .ok (.iconst 5, 1) := dc_8 (by decide +kernel)
theorem d_Land_reset_42 : decode b_Land_reset 42 = .ok (.invokestatic 40, 3) := dc_184 (a := 0) (b := 40) (by decide +kernel) rfl
theorem d_Land_reset_45 : decode b_Land_reset 45 = .ok (.aload_n 0, 1) := dc_42 (by decide +kernel)
theorem d_Land_reset_46 : decode b_Land_reset 46 = .ok (.getfield 21, 3) := dc_180 (a := 0) (b := 21) (by decide +kernel) rfl
theorem d_Land_reset_49 : decode b_Land_reset 49 = .ok (.bipush (-4), 2) := dc_16 (a := 252) (by decide +kernel) rfl
theorem d_Land_reset_51 : decode b_Land_reset 51 = .ok (.invokestatic 40, 3) := dc_184 (a := 0) (b := 40) (by decide +kernel) rfl
theorem d_Land_reset_54 : decode b_Land_reset 54 = .ok (.aload_n 0, 1) := dc_42 (by decide +kernel)
theorem d_Land_reset_55 : decode b_Land_reset 55 = .ok (.getfield 24, 3) := dc_180 (a := 0) (b := 24) (by decide +kernel) rfl
theorem d_Land_reset_58 : decode b_Land_reset 58 = .ok (.iconst 0, 1) := dc_3 (by decide +kernel)
theorem d_Land_reset_59 : decode b_Land_reset 59 = .ok (.invokestatic 40, 3) := dc_184 (a := 0) (b := 40) (by decide +kernel) rfl
theorem d_Land_reset_62 : decode b_Land_reset 62 = .ok (.return_, 1) := dc_177 (by decide +kernel)
theorem d_Ledger_reset_0 : decode b_Ledger_reset 0 = .ok (.aload_n 0, 1) := dc_42 (by decide +kernel)
theorem d_Ledger_reset_1 : decode b_Ledger_reset 1 = .ok (.getfield 9, 3) := dc_180 (a := 0) (b := 9) (by decide +kernel) rfl
theorem d_Ledger_reset_4 : decode b_Ledger_reset 4 = .ok (.iconst 0, 1) := dc_3 (by decide +kernel)
theorem d_Ledger_reset_5 : decode b_Ledger_reset 5 = .ok (.invokestatic 24, 3) := dc_184 (a := 0) (b := 24) (by decide +kernel) rfl
theorem d_Ledger_reset_8 : decode b_Ledger_reset 8 = .ok (.aload_n 0, 1) := dc_42 (by decide +kernel)
theorem d_Ledger_reset_9 : decode b_Ledger_reset 9 = .ok (.iconst 0, 1) := dc_3 (by decide +kernel)
theorem d_Ledger_reset_10 : decode b_Ledger_reset 10 = .ok (.putfield 30, 3) := dc_181 (a := 0) (b := 30) (by decide +kernel) rfl
theorem d_Ledger_reset_13 : decode b_Ledger_reset 13 = .ok (.return_, 1) := dc_177 (by decide +kernel)
theorem d_County_reset_0 : decode b_County_reset 0 = .ok (.aload_n 0, 1) := dc_42 (by decide +kernel)
theorem d_County_reset_1 : decode b_County_reset 1 = .ok (.getfield 12, 3) := dc_180 (a := 0) (b := 12) (by decide +kernel) rfl
theorem d_County_reset_4 : decode b_County_reset 4 = .ok (.invokevirtual 35, 3) := dc_182 (a := 0) (b := 35) (by decide +kernel) rfl
theorem d_County_reset_7 : decode b_County_reset 7 = .ok (.aload_n 0, 1) := dc_42 (by decide +kernel)
theorem d_County_reset_8 : decode b_County_reset 8 = .ok (.getfield 21, 3) := dc_180 (a := 0) (b := 21) (by decide +kernel) rfl
theorem d_County_reset_11 : decode b_County_reset 11 = .ok (.invokevirtual 36, 3) := dc_182 (a := 0) (b := 36) (by decide +kernel) rfl
theorem d_County_reset_14 : decode b_County_reset 14 = .ok (.aload_n 0, 1) := dc_42 (by decide +kernel)
theorem d_County_reset_15 : decode b_County_reset 15 = .ok (.getfield 28, 3) := dc_180 (a := 0) (b := 28) (by decide +kernel) rfl
theorem d_County_reset_18 : decode b_County_reset 18 = .ok (.iconst 0, 1) := dc_3 (by decide +kernel)
theorem d_County_reset_19 : decode b_County_reset 19 = .ok (.putfield 37, 3) := dc_181 (a := 0) (b := 37) (by decide +kernel) rfl
theorem d_County_reset_22 : decode b_County_reset 22 = .ok (.aload_n 0, 1) := dc_42 (by decide +kernel)
theorem d_County_reset_23 : decode b_County_reset 23 = .ok (.iconst 0, 1) := dc_3 (by decide +kernel)
theorem d_County_reset_24 : decode b_County_reset 24 = .ok (.putfield 41, 3) := dc_181 (a := 0) (b := 41) (by decide +kernel) rfl
theorem d_County_reset_27 : decode b_County_reset 27 = .ok (.aload_n 0, 1) := dc_42 (by decide +kernel)
theorem d_County_reset_28 : decode b_County_reset 28 = .ok (.bipush 9, 2) := dc_16 (a := 9) (by decide +kernel) rfl
theorem d_County_reset_30 : decode b_County_reset 30 = .ok (.putfield 44, 3) := dc_181 (a := 0) (b := 44) (by decide +kernel) rfl
theorem d_County_reset_33 : decode b_County_reset 33 = .ok (.return_, 1) := dc_177 (by decide +kernel)
theorem d_Land_copyFrom_0 : decode b_Land_copyFrom 0 = .ok (.aload_n 0, 1) := dc_42 (by decide +kernel)
theorem d_Land_copyFrom_1 : decode b_Land_copyFrom 1 = .ok (.aload_n 1, 1) := dc_43 (by decide +kernel)
theorem d_Land_copyFrom_2 : decode b_Land_copyFrom 2 = .ok (.getfield 27, 3) := dc_180 (a := 0) (b := 27) (by decide +kernel) rfl
theorem d_Land_copyFrom_5 : decode b_Land_copyFrom 5 = .ok (.putfield 27, 3) := dc_181 (a := 0) (b := 27) (by decide +kernel) rfl
theorem d_Land_copyFrom_8 : decode b_Land_copyFrom 8 = .ok (.aload_n 0, 1) := dc_42 (by decide +kernel)
theorem d_Land_copyFrom_9 : decode b_Land_copyFrom 9 = .ok (.aload_n 1, 1) := dc_43 (by decide +kernel)
theorem d_Land_copyFrom_10 : decode b_Land_copyFrom 10 = .ok (.getfield 31, 3) := dc_180 (a := 0) (b := 31) (by decide +kernel) rfl
theorem d_Land_copyFrom_13 : decode b_Land_copyFrom 13 = .ok (.putfield 31, 3) := dc_181 (a := 0) (b := 31) (by decide +kernel) rfl
theorem d_Land_copyFrom_16 : decode b_Land_copyFrom 16 = .ok (.aload_n 0, 1) := dc_42 (by decide +kernel)
theorem d_Land_copyFrom_17 : decode b_Land_copyFrom 17 = .ok (.aload_n 1, 1) := dc_43 (by decide +kernel)
theorem d_Land_copyFrom_18 : decode b_Land_copyFrom 18 = .ok (.getfield 34, 3) := dc_180 (a := 0) (b := 34) (by decide +kernel) rfl
theorem d_Land_copyFrom_21 : decode b_Land_copyFrom 21 = .ok (.putfield 34, 3) := dc_181 (a := 0) (b := 34) (by decide +kernel) rfl
theorem d_Land_copyFrom_24 : decode b_Land_copyFrom 24 = .ok (.aload_n 0, 1) := dc_42 (by decide +kernel)
theorem d_Land_copyFrom_25 : decode b_Land_copyFrom 25 = .ok (.aload_n 1, 1) := dc_43 (by decide +kernel)
theorem d_Land_copyFrom_26 : decode b_Land_copyFrom 26 = .ok (.getfield 37, 3) := dc_180 (a := 0) (b := 37) (by decide +kernel) rfl
theorem d_Land_copyFrom_29 : decode b_Land_copyFrom 29 = .ok (.putfield 37, 3) := dc_181 (a := 0) (b := 37) (by decide +kernel) rfl
theorem d_Land_copyFrom_32 : decode b_Land_copyFrom 32 = .ok (.aload_n 1, 1) := dc_43 (by decide +kernel)
theorem d_Land_copyFrom_33 : decode b_Land_copyFrom 33 = .ok (.getfield 9, 3) := dc_180 (a := 0) (b := 9) (by decide +kernel) rfl
theorem d_Land_copyFrom_36 : decode b_Land_copyFrom 36 = .ok (.iconst 0, 1) := dc_3 (by decide +kernel)
theorem d_Land_copyFrom_37 : decode b_Land_copyFrom 37 = .ok (.aload_n 0, 1) := dc_42 (by decide +kernel)
theorem d_Land_copyFrom_38 : decode b_Land_copyFrom 38 = .ok (.getfield 9, 3) := dc_180 (a := 0) (b := 9) (by decide +kernel) rfl
theorem d_Land_copyFrom_41 : decode b_Land_copyFrom 41 = .ok (.iconst 0, 1) := dc_3 (by decide +kernel)
theorem d_Land_copyFrom_42 : decode b_Land_copyFrom 42 = .ok (.bipush 16, 2) := dc_16 (a := 16) (by decide +kernel) rfl
theorem d_Land_copyFrom_44 : decode b_Land_copyFrom 44 = .ok (.invokestatic 46, 3) := dc_184 (a := 0) (b := 46) (by decide +kernel) rfl
theorem d_Land_copyFrom_47 : decode b_Land_copyFrom 47 = .ok (.aload_n 1, 1) := dc_43 (by decide +kernel)
theorem d_Land_copyFrom_48 : decode b_Land_copyFrom 48 = .ok (.getfield 15, 3) := dc_180 (a := 0) (b := 15) (by decide +kernel) rfl
theorem d_Land_copyFrom_51 : decode b_Land_copyFrom 51 = .ok (.iconst 0, 1) := dc_3 (by decide +kernel)
theorem d_Land_copyFrom_52 : decode b_Land_copyFrom 52 = .ok (.aload_n 0, 1) := dc_42 (by decide +kernel)
theorem d_Land_copyFrom_53 : decode b_Land_copyFrom 53 = .ok (.getfield 15, 3) := dc_180 (a := 0) (b := 15) (by decide +kernel) rfl
theorem d_Land_copyFrom_56 : decode b_Land_copyFrom 56 = .ok (.iconst 0, 1) := dc_3 (by decide +kernel)
theorem d_Land_copyFrom_57 : decode b_Land_copyFrom 57 = .ok (.bipush 16, 2) := dc_16 (a := 16) (by decide +kernel) rfl
theorem d_Land_copyFrom_59 : decode b_Land_copyFrom 59 = .ok (.invokestatic 46, 3) := dc_184 (a := 0) (b := 46) (by decide +kernel) rfl
theorem d_Land_copyFrom_62 : decode b_Land_copyFrom 62 = .ok (.aload_n 1, 1) := dc_43 (by decide +kernel)
theorem d_Land_copyFrom_63 : decode b_Land_copyFrom 63 = .ok (.getfield 18, 3) := dc_180 (a := 0) (b := 18) (by decide +kernel) rfl
theorem d_Land_copyFrom_66 : decode b_Land_copyFrom 66 = .ok (.iconst 0, 1) := dc_3 (by decide +kernel)
theorem d_Land_copyFrom_67 : decode b_Land_copyFrom 67 = .ok (.aload_n 0, 1) := dc_42 (by decide +kernel)
theorem d_Land_copyFrom_68 : decode b_Land_copyFrom 68 = .ok (.getfield 18, 3) := dc_180 (a := 0) (b := 18) (by decide +kernel) rfl
theorem d_Land_copyFrom_71 : decode b_Land_copyFrom 71 = .ok (.iconst 0, 1) := dc_3 (by decide +kernel)
theorem d_Land_copyFrom_72 : decode b_Land_copyFrom 72 = .ok (.bipush 16, 2) := dc_16 (a := 16) (by decide +kernel) rfl
theorem d_Land_copyFrom_74 : decode b_Land_copyFrom 74 = .ok (.invokestatic 46, 3) := dc_184 (a := 0) (b := 46) (by decide +kernel) rfl
theorem d_Land_copyFrom_77 : decode b_Land_copyFrom 77 = .ok (.aload_n 1, 1) := dc_43 (by decide +kernel)
theorem d_Land_copyFrom_78 : decode b_Land_copyFrom 78 = .ok (.getfield 21, 3) := dc_180 (a := 0) (b := 21) (by decide +kernel) rfl
theorem d_Land_copyFrom_81 : decode b_Land_copyFrom 81 = .ok (.iconst 0, 1) := dc_3 (by decide +kernel)
theorem d_Land_copyFrom_82 : decode b_Land_copyFrom 82 = .ok (.aload_n 0, 1) := dc_42 (by decide +kernel)
theorem d_Land_copyFrom_83 : decode b_Land_copyFrom 83 = .ok (.getfield 21, 3) := dc_180 (a := 0) (b := 21) (by decide +kernel) rfl
theorem d_Land_copyFrom_86 : decode b_Land_copyFrom 86 = .ok (.iconst 0, 1) := dc_3 (by decide +kernel)
theorem d_Land_copyFrom_87 : decode b_Land_copyFrom 87 = .ok (.bipush 16, 2) := dc_16 (a := 16) (by decide +kernel) rfl
theorem d_Land_copyFrom_89 : decode b_Land_copyFrom 89 = .ok (.invokestatic 46, 3) := dc_184 (a := 0) (b := 46) (by decide +kernel) rfl
theorem d_Land_copyFrom_92 : decode b_Land_copyFrom 92 = .ok (.aload_n 1, 1) := dc_43 (by decide +kernel)
theorem d_Land_copyFrom_93 : decode b_Land_copyFrom 93 = .ok (.getfield 24, 3) := dc_180 (a := 0) (b := 24) (by decide +kernel) rfl
theorem d_Land_copyFrom_96 : decode b_Land_copyFrom 96 = .ok (.iconst 0, 1) := dc_3 (by decide +kernel)
theorem d_Land_copyFrom_97 : decode b_Land_copyFrom 97 = .ok (.aload_n 0, 1) := dc_42 (by decide +kernel)
theorem d_Land_copyFrom_98 : decode b_Land_copyFrom 98 = .ok (.getfield 24, 3) := dc_180 (a := 0) (b := 24) (by decide +kernel) rfl
theorem d_Land_copyFrom_101 : decode b_Land_copyFrom 101 = .ok (.iconst 0, 1) := dc_3 (by decide +kernel)
theorem d_Land_copyFrom_102 : decode b_Land_copyFrom 102 = .ok (.bipush 16, 2) := dc_16 (a := 16) (by decide +kernel) rfl
theorem d_Land_copyFrom_104 : decode b_Land_copyFrom 104 = .ok (.invokestatic 46, 3) := dc_184 (a := 0) (b := 46) (by decide +kernel) rfl
theorem d_Land_copyFrom_107 : decode b_Land_copyFrom 107 = .ok (.return_, 1) := dc_177 (by decide +kernel)
theorem d_Ledger_copyFrom_0 : decode b_Ledger_copyFrom 0 = .ok (.aload_n 1, 1) := dc_43 (by decide +kernel)
theorem d_Ledger_copyFrom_1 : decode b_Ledger_copyFrom 1 = .ok (.getfield 9, 3) := dc_180 (a := 0) (b := 9) (by decide +kernel) rfl
theorem d_Ledger_copyFrom_4 : decode b_Ledger_copyFrom 4 = .ok (.iconst 0, 1) := dc_3 (by decide +kernel)
theorem d_Ledger_copyFrom_5 : decode b_Ledger_copyFrom 5 = .ok (.aload_n 0, 1) := dc_42 (by decide +kernel)
theorem d_Ledger_copyFrom_6 : decode b_Ledger_copyFrom 6 = .ok (.getfield 9, 3) := dc_180 (a := 0) (b := 9) (by decide +kernel) rfl
theorem d_Ledger_copyFrom_9 : decode b_Ledger_copyFrom 9 = .ok (.iconst 0, 1) := dc_3 (by decide +kernel)
theorem d_Ledger_copyFrom_10 : decode b_Ledger_copyFrom 10 = .ok (.iconst 4, 1) := dc_7 (by decide +kernel)
theorem d_Ledger_copyFrom_11 : decode b_Ledger_copyFrom 11 = .ok (.invokestatic 34, 3) := dc_184 (a := 0) (b := 34) (by decide +kernel) rfl
theorem d_Ledger_copyFrom_14 : decode b_Ledger_copyFrom 14 = .ok (.aload_n 1, 1) := dc_43 (by decide +kernel)
theorem d_Ledger_copyFrom_15 : decode b_Ledger_copyFrom 15 = .ok (.getfield 15, 3) := dc_180 (a := 0) (b := 15) (by decide +kernel) rfl
theorem d_Ledger_copyFrom_18 : decode b_Ledger_copyFrom 18 = .ok (.iconst 0, 1) := dc_3 (by decide +kernel)
theorem d_Ledger_copyFrom_19 : decode b_Ledger_copyFrom 19 = .ok (.aload_n 0, 1) := dc_42 (by decide +kernel)
theorem d_Ledger_copyFrom_20 : decode b_Ledger_copyFrom 20 = .ok (.getfield 15, 3) := dc_180 (a := 0) (b := 15) (by decide +kernel) rfl
theorem d_Ledger_copyFrom_23 : decode b_Ledger_copyFrom 23 = .ok (.iconst 0, 1) := dc_3 (by decide +kernel)
theorem d_Ledger_copyFrom_24 : decode b_Ledger_copyFrom 24 = .ok (.bipush 8, 2) := dc_16 (a := 8) (by decide +kernel) rfl
theorem d_Ledger_copyFrom_26 : decode b_Ledger_copyFrom 26 = .ok (.invokestatic 34, 3) := dc_184 (a := 0) (b := 34) (by decide +kernel) rfl
theorem d_Ledger_copyFrom_29 : decode b_Ledger_copyFrom 29 = .ok (.aload_n 1, 1) := dc_43 (by decide +kernel)
theorem d_Ledger_copyFrom_30 : decode b_Ledger_copyFrom 30 = .ok (.getfield 18, 3) := dc_180 (a := 0) (b := 18) (by decide +kernel) rfl
theorem d_Ledger_copyFrom_33 : decode b_Ledger_copyFrom 33 = .ok (.iconst 0, 1) := dc_3 (by decide +kernel)
theorem d_Ledger_copyFrom_34 : decode b_Ledger_copyFrom 34 = .ok (.aload_n 0, 1) := dc_42 (by decide +kernel)
theorem d_Ledger_copyFrom_35 : decode b_Ledger_copyFrom 35 = .ok (.getfield 18, 3) := dc_180 (a := 0) (b := 18) (by decide +kernel) rfl
theorem d_Ledger_copyFrom_38 : decode b_Ledger_copyFrom 38 = .ok (.iconst 0, 1) := dc_3 (by decide +kernel)
theorem d_Ledger_copyFrom_39 : decode b_Ledger_copyFrom 39 = .ok (.bipush 8, 2) := dc_16 (a := 8) (by decide +kernel) rfl
theorem d_Ledger_copyFrom_41 : decode b_Ledger_copyFrom 41 = .ok (.invokestatic 34, 3) := dc_184 (a := 0) (b := 34) (by decide +kernel) rfl
theorem d_Ledger_copyFrom_44 : decode b_Ledger_copyFrom 44 = .ok (.aload_n 1, 1) := dc_43 (by decide +kernel)
theorem d_Ledger_copyFrom_45 : decode b_Ledger_copyFrom 45 = .ok (.getfield 21, 3) := dc_180 (a := 0) (b := 21) (by decide +kernel) rfl
theorem d_Ledger_copyFrom_48 : decode b_Ledger_copyFrom 48 = .ok (.iconst 0, 1) := dc_3 (by decide +kernel)
theorem d_Ledger_copyFrom_49 : decode b_Ledger_copyFrom 49 = .ok (.aload_n 0, 1) := dc_42 (by decide +kernel)
theorem d_Ledger_copyFrom_50 : decode b_Ledger_copyFrom 50 = .ok (.getfield 21, 3) := dc_180 (a := 0) (b := 21) (by decide +kernel) rfl
theorem d_Ledger_copyFrom_53 : decode b_Ledger_copyFrom 53 = .ok (.iconst 0, 1) := dc_3 (by decide +kernel)
theorem d_Ledger_copyFrom_54 : decode b_Ledger_copyFrom 54 = .ok (.bipush 8, 2) := dc_16 (a := 8) (by decide +kernel) rfl
theorem d_Ledger_copyFrom_56 : decode b_Ledger_copyFrom 56 = .ok (.invokestatic 34, 3) := dc_184 (a := 0) (b := 34) (by decide +kernel) rfl
theorem d_Ledger_copyFrom_59 : decode b_Ledger_copyFrom 59 = .ok (.aload_n 0, 1) := dc_42 (by decide +kernel)
theorem d_Ledger_copyFrom_60 : decode b_Ledger_copyFrom 60 = .ok (.aload_n 1, 1) := dc_43 (by decide +kernel)
theorem d_Ledger_copyFrom_61 : decode b_Ledger_copyFrom 61 = .ok (.getfield 30, 3) := dc_180 (a := 0) (b := 30) (by decide +kernel) rfl
theorem d_Ledger_copyFrom_64 : decode b_Ledger_copyFrom 64 = .ok (.putfield 30, 3) := dc_181 (a := 0) (b := 30) (by decide +kernel) rfl
theorem d_Ledger_copyFrom_67 : decode b_Ledger_copyFrom 67 = .ok (.return_, 1) := dc_177 (by decide +kernel)
theorem d_Sights_copyFrom_0 : decode b_Sights_copyFrom 0 = .ok (.aload_n 1, 1) := dc_43 (by decide +kernel)
theorem d_Sights_copyFrom_1 : decode b_Sights_copyFrom 1 = .ok (.getfield 9, 3) := dc_180 (a := 0) (b := 9) (by decide +kernel) rfl
theorem d_Sights_copyFrom_4 : decode b_Sights_copyFrom 4 = .ok (.iconst 0, 1) := dc_3 (by decide +kernel)
theorem d_Sights_copyFrom_5 : decode b_Sights_copyFrom 5 = .ok (.aload_n 0, 1) := dc_42 (by decide +kernel)
theorem d_Sights_copyFrom_6 : decode b_Sights_copyFrom 6 = .ok (.getfield 9, 3) := dc_180 (a := 0) (b := 9) (by decide +kernel) rfl
theorem d_Sights_copyFrom_9 : decode b_Sights_copyFrom 9 = .ok (.iconst 0, 1) := dc_3 (by decide +kernel)
theorem d_Sights_copyFrom_10 : decode b_Sights_copyFrom 10 = .ok (.bipush 8, 2) := dc_16 (a := 8) (by decide +kernel) rfl
theorem d_Sights_copyFrom_12 : decode b_Sights_copyFrom 12 = .ok (.invokestatic 24, 3) := dc_184 (a := 0) (b := 24) (by decide +kernel) rfl
theorem d_Sights_copyFrom_15 : decode b_Sights_copyFrom 15 = .ok (.aload_n 1, 1) := dc_43 (by decide +kernel)
theorem d_Sights_copyFrom_16 : decode b_Sights_copyFrom 16 = .ok (.getfield 15, 3) := dc_180 (a := 0) (b := 15) (by decide +kernel) rfl
theorem d_Sights_copyFrom_19 : decode b_Sights_copyFrom 19 = .ok (.iconst 0, 1) := dc_3 (by decide +kernel)
theorem d_Sights_copyFrom_20 : decode b_Sights_copyFrom 20 = .ok (.aload_n 0, 1) := dc_42 (by decide +kernel)
theorem d_Sights_copyFrom_21 : decode b_Sights_copyFrom 21 = .ok (.getfield 15, 3) := dc_180 (a := 0) (b := 15) (by decide +kernel) rfl
theorem d_Sights_copyFrom_24 : decode b_Sights_copyFrom 24 = .ok (.iconst 0, 1) := dc_3 (by decide +kernel)
theorem d_Sights_copyFrom_25 : decode b_Sights_copyFrom 25 = .ok (.bipush 8, 2) := dc_16 (a := 8) (by decide +kernel) rfl
theorem d_Sights_copyFrom_27 : decode b_Sights_copyFrom 27 = .ok (.invokestatic 24, 3) := dc_184 (a := 0) (b := 24) (by decide +kernel) rfl
theorem d_Sights_copyFrom_30 : decode b_Sights_copyFrom 30 = .ok (.aload_n 1, 1) := dc_43 (by decide +kernel)
theorem d_Sights_copyFrom_31 : decode b_Sights_copyFrom 31 = .ok (.getfield 18, 3) := dc_180 (a := 0) (b := 18) (by decide +kernel) rfl
theorem d_Sights_copyFrom_34 : decode b_Sights_copyFrom 34 = .ok (.iconst 0, 1) := dc_3 (by decide +kernel)
theorem d_Sights_copyFrom_35 : decode b_Sights_copyFrom 35 = .ok (.aload_n 0, 1) := dc_42 (by decide +kernel)
theorem d_Sights_copyFrom_36 : decode b_Sights_copyFrom 36 = .ok (.getfield 18, 3) := dc_180 (a := 0) (b := 18) (by decide +kernel) rfl
theorem d_Sights_copyFrom_39 : decode b_Sights_copyFrom 39 = .ok (.iconst 0, 1) := dc_3 (by decide +kernel)
theorem d_Sights_copyFrom_40 : decode b_Sights_copyFrom 40 = .ok (.bipush 8, 2) := dc_16 (a := 8) (by decide +kernel) rfl
theorem d_Sights_copyFrom_42 : decode b_Sights_copyFrom 42 = .ok (.invokestatic 24, 3) := dc_184 (a := 0) (b := 24) (by decide +kernel) rfl
theorem d_Sights_copyFrom_45 : decode b_Sights_copyFrom 45 = .ok (.aload_n 1, 1) := dc_43 (by decide +kernel)
theorem d_Sights_copyFrom_46 : decode b_Sights_copyFrom 46 = .ok (.getfield 21, 3) := dc_180 (a := 0) (b := 21) (by decide +kernel) rfl
theorem d_Sights_copyFrom_49 : decode b_Sights_copyFrom 49 = .ok (.iconst 0, 1) := dc_3 (by decide +kernel)
theorem d_Sights_copyFrom_50 : decode b_Sights_copyFrom 50 = .ok (.aload_n 0, 1) := dc_42 (by decide +kernel)
theorem d_Sights_copyFrom_51 : decode b_Sights_copyFrom 51 = .ok (.getfield 21, 3) := dc_180 (a := 0) (b := 21) (by decide +kernel) rfl
theorem d_Sights_copyFrom_54 : decode b_Sights_copyFrom 54 = .ok (.iconst 0, 1) := dc_3 (by decide +kernel)
theorem d_Sights_copyFrom_55 : decode b_Sights_copyFrom 55 = .ok (.bipush 8, 2) := dc_16 (a := 8) (by decide +kernel) rfl
theorem d_Sights_copyFrom_57 : decode b_Sights_copyFrom 57 = .ok (.invokestatic 24, 3) := dc_184 (a := 0) (b := 24) (by decide +kernel) rfl
theorem d_Sights_copyFrom_60 : decode b_Sights_copyFrom 60 = .ok (.aload_n 0, 1) := dc_42 (by decide +kernel)
theorem d_Sights_copyFrom_61 : decode b_Sights_copyFrom 61 = .ok (.aload_n 1, 1) := dc_43 (by decide +kernel)
theorem d_Sights_copyFrom_62 : decode b_Sights_copyFrom 62 = .ok (.getfield 30, 3) := dc_180 (a := 0) (b := 30) (by decide +kernel) rfl
theorem d_Sights_copyFrom_65 : decode b_Sights_copyFrom 65 = .ok (.putfield 30, 3) := dc_181 (a := 0) (b := 30) (by decide +kernel) rfl
theorem d_Sights_copyFrom_68 : decode b_Sights_copyFrom 68 = .ok (.return_, 1) := dc_177 (by decide +kernel)
theorem d_County_copyFrom_0 : decode b_County_copyFrom 0 = .ok (.aload_n 0, 1) := dc_42 (by decide +kernel)
theorem d_County_copyFrom_1 : decode b_County_copyFrom 1 = .ok (.getfield 12, 3) := dc_180 (a := 0) (b := 12) (by decide +kernel) rfl
theorem d_County_copyFrom_4 : decode b_County_copyFrom 4 = .ok (.aload_n 1, 1) := dc_43 (by decide +kernel)
theorem d_County_copyFrom_5 : decode b_County_copyFrom 5 = .ok (.getfield 12, 3) := dc_180 (a := 0) (b := 12) (by decide +kernel) rfl
theorem d_County_copyFrom_8 : decode b_County_copyFrom 8 = .ok (.invokevirtual 47, 3) := dc_182 (a := 0) (b := 47) (by decide +kernel) rfl
theorem d_County_copyFrom_11 : decode b_County_copyFrom 11 = .ok (.aload_n 0, 1) := dc_42 (by decide +kernel)
theorem d_County_copyFrom_12 : decode b_County_copyFrom 12 = .ok (.getfield 21, 3) := dc_180 (a := 0) (b := 21) (by decide +kernel) rfl
theorem d_County_copyFrom_15 : decode b_County_copyFrom 15 = .ok (.aload_n 1, 1) := dc_43 (by decide +kernel)
theorem d_County_copyFrom_16 : decode b_County_copyFrom 16 = .ok (.getfield 21, 3) := dc_180 (a := 0) (b := 21) (by decide +kernel) rfl
theorem d_County_copyFrom_19 : decode b_County_copyFrom 19 = .ok (.invokevirtual 51, 3) := dc_182 (a := 0) (b := 51) (by decide +kernel) rfl
theorem d_County_copyFrom_22 : decode b_County_copyFrom 22 = .ok (.aload_n 0, 1) := dc_42 (by decide +kernel)
theorem d_County_copyFrom_23 : decode b_County_copyFrom 23 = .ok (.getfield 28, 3) := dc_180 (a := 0) (b := 28) (by decide +kernel) rfl
theorem d_County_copyFrom_26 : decode b_County_copyFrom 26 = .ok (.aload_n 1, 1) := dc_43 (by decide +kernel)
theorem d_County_copyFrom_27 : decode b_County_copyFrom 27 = .ok (.getfield 28, 3) := dc_180 (a := 0) (b := 28) (by decide +kernel) rfl
theorem d_County_copyFrom_30 : decode b_County_copyFrom 30 = .ok (.invokevirtual 54, 3) := dc_182 (a := 0) (b := 54) (by decide +kernel) rfl
theorem d_County_copyFrom_33 : decode b_County_copyFrom 33 = .ok (.aload_n 0, 1) := dc_42 (by decide +kernel)
theorem d_County_copyFrom_34 : decode b_County_copyFrom 34 = .ok (.aload_n 1, 1) := dc_43 (by decide +kernel)
theorem d_County_copyFrom_35 : decode b_County_copyFrom 35 = .ok (.getfield 41, 3) := dc_180 (a := 0) (b := 41) (by decide +kernel) rfl
theorem d_County_copyFrom_38 : decode b_County_copyFrom 38 = .ok (.putfield 41, 3) := dc_181 (a := 0) (b := 41) (by decide +kernel) rfl
theorem d_County_copyFrom_41 : decode b_County_copyFrom 41 = .ok (.aload_n 0, 1) := dc_42 (by decide +kernel)
theorem d_County_copyFrom_42 : decode b_County_copyFrom 42 = .ok (.aload_n 1, 1) := dc_43 (by decide +kernel)
theorem d_County_copyFrom_43 : decode b_County_copyFrom 43 = .ok (.getfield 44, 3) := dc_180 (a := 0) (b := 44) (by decide +kernel) rfl
theorem d_County_copyFrom_46 : decode b_County_copyFrom 46 = .ok (.putfield 44, 3) := dc_181 (a := 0) (b := 44) (by decide +kernel) rfl
theorem d_County_copyFrom_49 : decode b_County_copyFrom 49 = .ok (.return_, 1) := dc_177 (by decide +kernel)
theorem d_Ledger_addDebt_0 : decode b_Ledger_addDebt 0 = .ok (.aload_n 0, 1) := dc_42 (by decide +kernel)
theorem d_Ledger_addDebt_1 : decode b_Ledger_addDebt 1 = .ok (.getfield 30, 3) := dc_180 (a := 0) (b := 30) (by decide +kernel) rfl
theorem d_Ledger_addDebt_4 : decode b_Ledger_addDebt 4 = .ok (.bipush 8, 2) := dc_16 (a := 8) (by decide +kernel) rfl
theorem d_Ledger_addDebt_6 : decode b_Ledger_addDebt 6 = .ok (.if_icmp .ge 43, 3) := dc_162 (a := 0) (b := 43) (by decide +kernel) rfl
theorem d_Ledger_addDebt_9 : decode b_Ledger_addDebt 9 = .ok (.aload_n 0, 1) := dc_42 (by decide +kernel)
theorem d_Ledger_addDebt_10 : decode b_Ledger_addDebt 10 = .ok (.getfield 15, 3) := dc_180 (a := 0) (b := 15) (by decide +kernel) rfl
theorem d_Ledger_addDebt_13 : decode b_Ledger_addDebt 13 = .ok (.aload_n 0, 1) := dc_42 (by decide +kernel)
theorem d_Ledger_addDebt_14 : decode b_Ledger_addDebt 14 = .ok (.getfield 30, 3) := dc_180 (a := 0) (b := 30) (by decide +kernel) rfl
theorem d_Ledger_addDebt_17 : decode b_Ledger_addDebt 17 = .ok (.iload_n 1, 1) := dc_27 (by decide +kernel)
theorem d_Ledger_addDebt_18 : decode b_Ledger_addDebt 18 = .ok (.iastore, 1) := dc_79 (by decide +kernel)
theorem d_Ledger_addDebt_19 : decode b_Ledger_addDebt 19 = .ok (.aload_n 0, 1) := dc_42 (by decide +kernel)
theorem d_Ledger_addDebt_20 : decode b_Ledger_addDebt 20 = .ok (.getfield 18, 3) := dc_180 (a := 0) (b := 18) (by decide +kernel) rfl
theorem d_Ledger_addDebt_23 : decode b_Ledger_addDebt 23 = .ok (.aload_n 0, 1) := dc_42 (by decide +kernel)
theorem d_Ledger_addDebt_24 : decode b_Ledger_addDebt 24 = .ok (.getfield 30, 3) := dc_180 (a := 0) (b := 30) (by decide +kernel) rfl
theorem d_Ledger_addDebt_27 : decode b_Ledger_addDebt 27 = .ok (.iload_n 2, 1) := dc_28 (by decide +kernel)
theorem d_Ledger_addDebt_28 : decode b_Ledger_addDebt 28 = .ok (.iastore, 1) := dc_79 (by decide +kernel)
theorem d_Ledger_addDebt_29 : decode b_Ledger_addDebt 29 = .ok (.aload_n 0, 1) := dc_42 (by decide +kernel)
theorem d_Ledger_addDebt_30 : decode b_Ledger_addDebt 30 = .ok (.getfield 21, 3) := dc_180 (a := 0) (b := 21) (by decide +kernel) rfl
theorem d_Ledger_addDebt_33 : decode b_Ledger_addDebt 33 = .ok (.aload_n 0, 1) := dc_42 (by decide +kernel)
theorem d_Ledger_addDebt_34 : decode b_Ledger_addDebt 34 = .ok (.getfield 30, 3) := dc_180 (a := 0) (b := 30) (by decide +kernel) rfl
theorem d_Ledger_addDebt_37 : decode b_Ledger_addDebt 37 = .ok (.iload_n 3, 1) := dc_29 (by decide +kernel)
theorem d_Ledger_addDebt_38 : decode b_Ledger_addDebt 38 = .ok (.iastore, 1) := dc_79 (by decide +kernel)
theorem d_Ledger_addDebt_39 : decode b_Ledger_addDebt 39 = .ok (.aload_n 0, 1) := dc_42 (by decide +kernel)
theorem d_Ledger_addDebt_40 : decode b_Ledger_addDebt 40 = .ok (.dup, 1) := dc_89 (by decide +kernel)
theorem d_Ledger_addDebt_41 : decode b_Ledger_addDebt 41 = .ok (.getfield 30, 3) := dc_180 (a := 0) (b := 30) (by decide +kernel) rfl
theorem d_Ledger_addDebt_44 : decode b_Ledger_addDebt 44 = .ok (.iconst 1, 1) := dc_4 (by decide +kernel)
theorem d_Ledger_addDebt_45 : decode b_Ledger_addDebt 45 = .ok (.iadd, 1) := dc_96 (by decide +kernel)
theorem d_Ledger_addDebt_46 : decode b_Ledger_addDebt 46 = .ok (.putfield 30, 3) := dc_181 (a := 0) (b := 30) (by decide +kernel) rfl
theorem d_Ledger_addDebt_49 : decode b_Ledger_addDebt 49 = .ok (.return_, 1) := dc_177 (by decide +kernel)
theorem d_Ledger_allPurses_0 : decode b_Ledger_allPurses 0 = .ok (.iconst 0, 1) := dc_3 (by decide +kernel)
theorem d_Ledger_allPurses_1 : decode b_Ledger_allPurses 1 = .ok (.istore_n 1, 1) := dc_60 (by decide +kernel)
theorem d_Ledger_allPurses_2 : decode b_Ledger_allPurses 2 = .ok (.iconst 0, 1) := dc_3 (by decide +kernel)
theorem d_Ledger_allPurses_3 : decode b_Ledger_allPurses 3 = .ok (.istore_n 2, 1) := dc_61 (by decide +kernel)
theorem d_Ledger_allPurses_4 : decode b_Ledger_allPurses 4 = .ok (.iload_n 2, 1) := dc_28 (by decide +kernel)
theorem d_Ledger_allPurses_5 : decode b_Ledger_allPurses 5 = .ok (.iconst 4, 1) := dc_7 (by decide +kernel)
theorem d_Ledger_allPurses_6 : decode b_Ledger_allPurses 6 = .ok (.if_icmp .ge 18, 3) := dc_162 (a := 0) (b := 18) (by decide +kernel) rfl
theorem d_Ledger_allPurses_9 : decode b_Ledger_allPurses 9 = .ok (.iload_n 1, 1) := dc_27 (by decide +kernel)
theorem d_Ledger_allPurses_10 : decode b_Ledger_allPurses 10 = .ok (.aload_n 0, 1) := dc_42 (by decide +kernel)
theorem d_Ledger_allPurses_11 : decode b_Ledger_allPurses 11 = .ok (.getfield 9, 3) := dc_180 (a := 0) (b := 9) (by decide +kernel) rfl
theorem d_Ledger_allPurses_14 : decode b_Ledger_allPurses 14 = .ok (.iload_n 2, 1) := dc_28 (by decide +kernel)
theorem d_Ledger_allPurses_15 : decode b_Ledger_allPurses 15 = .ok (.iaload, 1) := dc_46 (by decide +kernel)
theorem d_Ledger_allPurses_16 : decode b_Ledger_allPurses 16 = .ok (.iadd, 1) := dc_96 (by decide +kernel)
theorem d_Ledger_allPurses_17 : decode b_Ledger_allPurses 17 = .ok (.istore_n 1, 1) := dc_60 (by decide +kernel)
theorem d_Ledger_allPurses_18 : decode b_Ledger_allPurses 18 = .ok (.iinc 2 1, 3) := dc_132 (a := 2) (b := 1) (by decide +kernel) rfl
theorem d_Ledger_allPurses_21 : decode b_Ledger_allPurses 21 = .ok (.goto (-17), 3) := dc_167 (a := 255) (b := 239) (by decide +kernel) rfl
theorem d_Ledger_allPurses_24 : decode b_Ledger_allPurses 24 = .ok (.iload_n 1, 1) := dc_27 (by decide +kernel)
theorem d_Ledger_allPurses_25 : decode b_Ledger_allPurses 25 = .ok (.ireturn, 1) := dc_172 (by decide +kernel)
theorem d_Ledger_lacking_0 : decode b_Ledger_lacking 0 = .ok (.aload_n 0, 1) := dc_42 (by decide +kernel)
theorem d_Ledger_lacking_1 : decode b_Ledger_lacking 1 = .ok (.getfield 9, 3) := dc_180 (a := 0) (b := 9) (by decide +kernel) rfl
theorem d_Ledger_lacking_4 : decode b_Ledger_lacking 4 = .ok (.iload_n 1, 1) := dc_27 (by decide +kernel)
theorem d_Ledger_lacking_5 : decode b_Ledger_lacking 5 = .ok (.iaload, 1) := dc_46 (by decide +kernel)
theorem d_Ledger_lacking_6 : decode b_Ledger_lacking 6 = .ok (.ineg, 1) := dc_116 (by decide +kernel)
theorem d_Ledger_lacking_7 : decode b_Ledger_lacking 7 = .ok (.istore_n 3, 1) := dc_62 (by decide +kernel)
theorem d_Ledger_lacking_8 : decode b_Ledger_lacking 8 = .ok (.iconst 0, 1) := dc_3 (by decide +kernel)
theorem d_Ledger_lacking_9 : decode b_Ledger_lacking 9 = .ok (.istore 4, 2) := dc_54 (a := 4) (by decide +kernel) rfl
theorem d_Ledger_lacking_11 : decode b_Ledger_lacking 11 = .ok (.iload 4, 2) := dc_21 (a := 4) (by decide +kernel) rfl
theorem d_Ledger_lacking_13 : decode b_Ledger_lacking 13 = .ok (.aload_n 0, 1) := dc_42 (by decide +kernel)
theorem d_Ledger_lacking_14 : decode b_Ledger_lacking 14 = .ok (.getfield 30, 3) := dc_180 (a := 0) (b := 30) (by decide +kernel) rfl
theorem d_Ledger_lacking_17 : decode b_Ledger_lacking 17 = .ok (.if_icmp .ge 65, 3) := dc_162 (a := 0) (b := 65) (by decide +kernel) rfl
theorem d_Ledger_lacking_20 : decode b_Ledger_lacking 20 = .ok (.aload_n 0, 1) := dc_42 (by decide +kernel)
theorem d_Ledger_lacking_21 : decode b_Ledger_lacking 21 = .ok (.getfield 15, 3) := dc_180 (a := 0) (b := 15) (by decide +kernel) rfl
theorem d_Ledger_lacking_24 : decode b_Ledger_lacking 24 = .ok (.iload 4, 2) := dc_21 (a := 4) (by decide +kernel) rfl
theorem d_Ledger_lacking_26 : decode b_Ledger_lacking 26 = .ok (.iaload, 1) := dc_46 (by decide +kernel)
theorem d_Ledger_lacking_27 : decode b_Ledger_lacking 27 = .ok (.iload_n 1, 1) := dc_27 (by decide +kernel)
theorem d_Ledger_lacking_28 : decode b_Ledger_lacking 28 = .ok (.if_icmp .ne 13, 3) := dc_160 (a := 0) (b := 13) (by decide +kernel) rfl
theorem d_Ledger_lacking_31 : decode b_Ledger_lacking 31 = .ok (.iload_n 3, 1) := dc_29 (by decide +kernel)
theorem d_Ledger_lacking_32 : decode b_Ledger_lacking 32 = .ok (.aload_n 0, 1) := dc_42 (by decide +kernel)
theorem d_Ledger_lacking_33 : decode b_Ledger_lacking 33 = .ok (.getfield 21, 3) := dc_180 (a := 0) (b := 21) (by decide +kernel) rfl
theorem d_Ledger_lacking_36 : decode b_Ledger_lacking 36 = .ok (.iload 4, 2) := dc_21 (a := 4) (by decide +kernel) rfl
theorem d_Ledger_lacking_38 : decode b_Ledger_lacking 38 = .ok (.iaload, 1) := dc_46 (by decide +kernel)
theorem d_Ledger_lacking_39 : decode b_Ledger_lacking 39 = .ok (.iadd, 1) := dc_96 (by decide +kernel)
theorem d_Ledger_lacking_40 : decode b_Ledger_lacking 40 = .ok (.istore_n 3, 1) := dc_62 (by decide +kernel)
theorem d_Ledger_lacking_41 : decode b_Ledger_lacking 41 = .ok (.aload_n 0, 1) := dc_42 (by decide +kernel)
theorem d_Ledger_lacking_42 : decode b_Ledger_lacking 42 = .ok (.getfield 18, 3) := dc_180 (a := 0) (b := 18) (by decide +kernel) rfl
theorem d_Ledger_lacking_45 : decode b_Ledger_lacking 45 = .ok (.iload 4, 2) := dc_21 (a := 4) (by decide +kernel) rfl
theorem d_Ledger_lacking_47 : decode b_Ledger_lacking 47 = .ok (.iaload, 1) := dc_46 (by decide +kernel)
theorem d_Ledger_lacking_48 : decode b_Ledger_lacking 48 = .ok (.iload_n 1, 1) := dc_27 (by decide +kernel)
theorem d_Ledger_lacking_49 : decode b_Ledger_lacking 49 = .ok (.if_icmp .ne 27, 3) := dc_160 (a := 0) (b := 27) (by decide +kernel) rfl
theorem d_Ledger_lacking_52 : decode b_Ledger_lacking 52 = .ok (.iload_n 2, 1) := dc_28 (by decide +kernel)
theorem d_Ledger_lacking_53 : decode b_Ledger_lacking 53 = .ok (.aload_n 0, 1) := dc_42 (by decide +kernel)
theorem d_Ledger_lacking_54 : decode b_Ledger_lacking 54 = .ok (.getfield 15, 3) := dc_180 (a := 0) (b := 15) (by decide +kernel) rfl
theorem d_Ledger_lacking_57 : decode b_Ledger_lacking 57 = .ok (.iload 4, 2) := dc_21 (a := 4) (by decide +kernel) rfl
theorem d_Ledger_lacking_59 : decode b_Ledger_lacking 59 = .ok (.iaload, 1) := dc_46 (by decide +kernel)
theorem d_Ledger_lacking_60 : decode b_Ledger_lacking 60 = .ok (.ishr, 1) := dc_122 (by decide +kernel)
theorem d_Ledger_lacking_61 : decode b_Ledger_lacking 61 = .ok (.iconst 1, 1) := dc_4 (by decide +kernel)
theorem d_Ledger_lacking_62 : decode b_Ledger_lacking 62 = .ok (.iand, 1) := dc_126 (by decide +kernel)
theorem d_Ledger_lacking_63 : decode b_Ledger_lacking 63 = .ok (.ifCond .ne 13, 3) := dc_154 (a := 0) (b := 13) (by decide +kernel) rfl
theorem d_Ledger_lacking_66 : decode b_Ledger_lacking 66 = .ok (.iload_n 3, 1) := dc_29 (by decide +kernel)
theorem d_Ledger_lacking_67 : decode b_Ledger_lacking 67 = .ok (.aload_n 0, 1) := dc_42 (by decide +kernel)
theorem d_Ledger_lacking_68 : decode b_Ledger_lacking 68 = .ok (.getfield 21, 3) := dc_180 (a := 0) (b := 21) (by decide +kernel) rfl
theorem d_Ledger_lacking_71 : decode b_Ledger_lacking 71 = .ok (.iload 4, 2) := dc_21 (a := 4) (by decide +kernel) rfl
theorem d_Ledger_lacking_73 : decode b_Ledger_lacking 73 = .ok (.iaload, 1) := dc_46 (by decide +kernel)
theorem d_Ledger_lacking_74 : decode b_Ledger_lacking 74 = .ok (.isub, 1) := dc_100 (by decide +kernel)
theorem d_Ledger_lacking_75 : decode b_Ledger_lacking 75 = .ok (.istore_n 3, 1) := dc_62 (by decide +kernel)
theorem d_Ledger_lacking_76 : decode b_Ledger_lacking 76 = .ok (.iinc 4 1, 3) := dc_132 (a := 4) (b := 1) (by decide +kernel) rfl
theorem d_Ledger_lacking_79 : decode b_Ledger_lacking 79 = .ok (.goto (-68), 3) := dc_167 (a := 255) (b := 188) (by decide +kernel) rfl
theorem d_Ledger_lacking_82 : decode b_Ledger_lacking 82 = .ok (.iload_n 3, 1) := dc_29 (by decide +kernel)
theorem d_Ledger_lacking_83 : decode b_Ledger_lacking 83 = .ok (.ireturn, 1) := dc_172 (by decide +kernel)
theorem d_Ledger_failingAfter_0 : decode b_Ledger_failingAfter 0 = .ok (.iconst 0, 1) := dc_3 (by decide +kernel)
theorem d_Ledger_failingAfter_1 : decode b_Ledger_failingAfter 1 = .ok (.istore_n 2, 1) := dc_61 (by decide +kernel)
theorem d_Ledger_failingAfter_2 : decode b_Ledger_failingAfter 2 = .ok (.iconst 0, 1) := dc_3 (by decide +kernel)
theorem d_Ledger_failingAfter_3 : decode b_Ledger_failingAfter 3 = .ok (.istore_n 3, 1) := dc_62 (by decide +kernel)
theorem d_Ledger_failingAfter_4 : decode b_Ledger_failingAfter 4 = .ok (.iload_n 3, 1) := dc_29 (by decide +kernel)
theorem d_Ledger_failingAfter_5 : decode b_Ledger_failingAfter 5 = .ok (.iconst 4, 1) := dc_7 (by decide +kernel)
theorem d_Ledger_failingAfter_6 : decode b_Ledger_failingAfter 6 = .ok (.if_icmp .ge 24, 3) := dc_162 (a := 0) (b := 24) (by decide +kernel) rfl
theorem d_Ledger_failingAfter_9 : decode b_Ledger_failingAfter 9 = .ok (.aload_n 0, 1) := dc_42 (by decide +kernel)
theorem d_Ledger_failingAfter_10 : decode b_Ledger_failingAfter 10 = .ok (.iload_n 3, 1) := dc_29 (by decide +kernel)
theorem d_Ledger_failingAfter_11 : decode b_Ledger_failingAfter 11 = .ok (.iload_n 1, 1) := dc_27 (by decide +kernel)
theorem d_Ledger_failingAfter_12 : decode b_Ledger_failingAfter 12 = .ok (.invokevirtual 40, 3) := dc_182 (a := 0) (b := 40) (by decide +kernel) rfl
theorem d_Ledger_failingAfter_15 : decode b_Ledger_failingAfter 15 = .ok (.ifCond .le 9, 3) := dc_158 (a := 0) (b := 9) (by decide +kernel) rfl
theorem d_Ledger_failingAfter_18 : decode b_Ledger_failingAfter 18 = .ok (.iload_n 2, 1) := dc_28 (by decide +kernel)
theorem d_Ledger_failingAfter_19 : decode b_Ledger_failingAfter 19 = .ok (.iconst 1, 1) := dc_4 (by decide +kernel)
theorem d_Ledger_failingAfter_20 : decode b_Ledger_failingAfter 20 = .ok (.iload_n 3, 1) := dc_29 (by decide +kernel)
theorem d_Ledger_failingAfter_21 : decode b_Ledger_failingAfter 21 = .ok (.ishl, 1) := dc_120 (by decide +kernel)
theorem d_Ledger_failingAfter_22 : decode b_Ledger_failingAfter 22 = .ok (.ior, 1) := dc_128 (by decide +kernel)
theorem d_Ledger_failingAfter_23 : decode b_Ledger_failingAfter 23 = .ok (.istore_n 2, 1) := dc_61 (by decide +kernel)
theorem d_Ledger_failingAfter_24 : decode b_Ledger_failingAfter 24 = .ok (.iinc 3 1, 3) := dc_132 (a := 3) (b := 1) (by decide +kernel) rfl
theorem d_Ledger_failingAfter_27 : decode b_Ledger_failingAfter 27 = .ok (.goto (-23), 3) := dc_167 (a := 255) (b := 233) (by decide +kernel) rfl
theorem d_Ledger_failingAfter_30 : decode b_Ledger_failingAfter 30 = .ok (.iload_n 2, 1) := dc_28 (by decide +kernel)
theorem d_Ledger_failingAfter_31 : decode b_Ledger_failingAfter 31 = .ok (.ireturn, 1) := dc_172 (by decide +kernel)
theorem d_Sights_add_0 : decode b_Sights_add 0 = .ok (.aload_n 0, 1) := dc_42 (by decide +kernel)
theorem d_Sights_add_1 : decode b_Sights_add 1 = .ok (.getfield 30, 3) := dc_180 (a := 0) (b := 30) (by decide +kernel) rfl
theorem d_Sights_add_4 : decode b_Sights_add 4 = .ok (.bipush 8, 2) := dc_16 (a := 8) (by decide +kernel) rfl
theorem d_Sights_add_6 : decode b_Sights_add 6 = .ok (.if_icmp .ge 54, 3) := dc_162 (a := 0) (b := 54) (by decide +kernel) rfl
theorem d_Sights_add_9 : decode b_Sights_add 9 = .ok (.aload_n 0, 1) := dc_42 (by decide +kernel)
theorem d_Sights_add_10 : decode b_Sights_add 10 = .ok (.getfield 9, 3) := dc_180 (a := 0) (b := 9) (by decide +kernel) rfl
theorem d_Sights_add_13 : decode b_Sights_add 13 = .ok (.aload_n 0, 1) := dc_42 (by decide +kernel)
theorem d_Sights_add_14 : decode b_Sights_add 14 = .ok (.getfield 30, 3) := dc_180 (a := 0) (b := 30) (by decide +kernel) rfl
theorem d_Sights_add_17 : decode b_Sights_add 17 = .ok (.iload_n 1, 1) := dc_27 (by decide +kernel)
theorem d_Sights_add_18 : decode b_Sights_add 18 = .ok (.iastore, 1) := dc_79 (by decide +kernel)
theorem d_Sights_add_19 : decode b_Sights_add 19 = .ok (.aload_n 0, 1) := dc_42 (by decide +kernel)
theorem d_Sights_add_20 : decode b_Sights_add 20 = .ok (.getfield 15, 3) := dc_180 (a := 0) (b := 15) (by decide +kernel) rfl
theorem d_Sights_add_23 : decode b_Sights_add 23 = .ok (.aload_n 0, 1) := dc_42 (by decide +kernel)
theorem d_Sights_add_24 : decode b_Sights_add 24 = .ok (.getfield 30, 3) := dc_180 (a := 0) (b := 30) (by decide +kernel) rfl
theorem d_Sights_add_27 : decode b_Sights_add 27 = .ok (.iload_n 2, 1) := dc_28 (by decide +kernel)
theorem d_Sights_add_28 : decode b_Sights_add 28 = .ok (.iastore, 1) := dc_79 (by decide +kernel)
theorem d_Sights_add_29 : decode b_Sights_add 29 = .ok (.aload_n 0, 1) := dc_42 (by decide +kernel)
theorem d_Sights_add_30 : decode b_Sights_add 30 = .ok (.getfield 18, 3) := dc_180 (a := 0) (b := 18) (by decide +kernel) rfl
theorem d_Sights_add_33 : decode b_Sights_add 33 = .ok (.aload_n 0, 1) := dc_42 (by decide +kernel)
theorem d_Sights_add_34 : decode b_Sights_add 34 = .ok (.getfield 30, 3) := dc_180 (a := 0) (b := 30) (by decide +kernel) rfl
theorem d_Sights_add_37 : decode b_Sights_add 37 = .ok (.iload_n 3, 1) := dc_29 (by decide +kernel)
theorem d_Sights_add_38 : decode b_Sights_add 38 = .ok (.iastore, 1) := dc_79 (by decide +kernel)
theorem d_Sights_add_39 : decode b_Sights_add 39 = .ok (.aload_n 0, 1) := dc_42 (by decide +kernel)
theorem d_Sights_add_40 : decode b_Sights_add 40 = .ok (.getfield 21, 3) := dc_180 (a := 0) (b := 21) (by decide +kernel) rfl
theorem d_Sights_add_43 : decode b_Sights_add 43 = .ok (.aload_n 0, 1) := dc_42 (by decide +kernel)
theorem d_Sights_add_44 : decode b_Sights_add 44 = .ok (.getfield 30, 3) := dc_180 (a := 0) (b := 30) (by decide +kernel) rfl
theorem d_Sights_add_47 : decode b_Sights_add 47 = .ok (.iload 4, 2) := dc_21 (a := 4) (by decide +kernel) rfl
theorem d_Sights_add_49 : decode b_Sights_add 49 = .ok (.iastore, 1) := dc_79 (by decide +kernel)
theorem d_Sights_add_50 : decode b_Sights_add 50 = .ok (.aload_n 0, 1) := dc_42 (by decide +kernel)
theorem d_Sights_add_51 : decode b_Sights_add 51 = .ok (.dup, 1) := dc_89 (by decide +kernel)
theorem d_Sights_add_52 : decode b_Sights_add 52 = .ok (.getfield 30, 3) := dc_180 (a := 0) (b := 30) (by decide +kernel) rfl
theorem d_Sights_add_55 : decode b_Sights_add 55 = .ok (.iconst 1, 1) := dc_4 (by decide +kernel)
theorem d_Sights_add_56 : decode b_Sights_add 56 = .ok (.iadd, 1) := dc_96 (by decide +kernel)
theorem d_Sights_add_57 : decode b_Sights_add 57 = .ok (.putfield 30, 3) := dc_181 (a := 0) (b := 30) (by decide +kernel) rfl
theorem d_Sights_add_60 : decode b_Sights_add 60 = .ok (.return_, 1) := dc_177 (by decide +kernel)
theorem d_County_twitches_0 : decode b_County_twitches 0 = .ok (.aload_n 0, 1) := dc_42 (by decide +kernel)
theorem d_County_twitches_1 : decode b_County_twitches 1 = .ok (.getfield 12, 3) := dc_180 (a := 0) (b := 12) (by decide +kernel) rfl
theorem d_County_twitches_4 : decode b_County_twitches 4 = .ok (.aload_n 0, 1) := dc_42 (by decide +kernel)
theorem d_County_twitches_5 : decode b_County_twitches 5 = .ok (.getfield 41, 3) := dc_180 (a := 0) (b := 41) (by decide +kernel) rfl
theorem d_County_twitches_8 : decode b_County_twitches 8 = .ok (.aload_n 0, 1) := dc_42 (by decide +kernel)
theorem d_County_twitches_9 : decode b_County_twitches 9 = .ok (.getfield 44, 3) := dc_180 (a := 0) (b := 44) (by decide +kernel) rfl
theorem d_County_twitches_12 : decode b_County_twitches 12 = .ok (.iload_n 1, 1) := dc_27 (by decide +kernel)
theorem d_County_twitches_13 : decode b_County_twitches 13 = .ok (.iload_n 2, 1) := dc_28 (by decide +kernel)
theorem d_County_twitches_14 : decode b_County_twitches 14 = .ok (.iload_n 3, 1) := dc_29 (by decide +kernel)
theorem d_County_twitches_15 : decode b_County_twitches 15 = .ok (.invokevirtual 57, 3) := dc_182 (a := 0) (b := 57) (by decide +kernel) rfl
theorem d_County_twitches_18 : decode b_County_twitches 18 = .ok (.ireturn, 1) := dc_172 (by decide +kernel)
theorem d_County_fittingRods_0 : decode b_County_fittingRods 0 = .ok (.ldc 61, 2) := dc_18 (a := 61) (by decide +kernel) rfl
theorem d_County_fittingRods_2 : decode b_County_fittingRods 2 = .ok (.istore_n 1, 1) := dc_60 (by decide +kernel)
theorem d_County_fittingRods_3 : decode b_County_fittingRods 3 = .ok (.iconst 0, 1) := dc_3 (by decide +kernel)
theorem d_County_fittingRods_4 : decode b_County_fittingRods 4 = .ok (.istore_n 2, 1) := dc_61 (by decide +kernel)
theorem d_County_fittingRods_5 : decode b_County_fittingRods 5 = .ok (.iload_n 2, 1) := dc_28 (by decide +kernel)
theorem d_County_fittingRods_6 : decode b_County_fittingRods 6 = .ok (.aload_n 0, 1) := dc_42 (by decide +kernel)
theorem d_County_fittingRods_7 : decode b_County_fittingRods 7 = .ok (.getfield 28, 3) := dc_180 (a := 0) (b := 28) (by decide +kernel) rfl
theorem d_County_fittingRods_10 : decode b_County_fittingRods 10 = .ok (.getfield 37, 3) := dc_180 (a := 0) (b := 37) (by decide +kernel) rfl
theorem d_County_fittingRods_13 : decode b_County_fittingRods 13 = .ok (.if_icmp .ge 66, 3) := dc_162 (a := 0) (b := 66) (by decide +kernel) rfl
theorem d_County_fittingRods_16 : decode b_County_fittingRods 16 = .ok (.aload_n 0, 1) := dc_42 (by decide +kernel)
theorem d_County_fittingRods_17 : decode b_County_fittingRods 17 = .ok (.getfield 12, 3) := dc_180 (a := 0) (b := 12) (by decide +kernel) rfl
theorem d_County_fittingRods_20 : decode b_County_fittingRods 20 = .ok (.aload_n 0, 1) := dc_42 (by decide +kernel)
theorem d_County_fittingRods_21 : decode b_County_fittingRods 21 = .ok (.getfield 28, 3) := dc_180 (a := 0) (b := 28) (by decide +kernel) rfl
theorem d_County_fittingRods_24 : decode b_County_fittingRods 24 = .ok (.getfield 62, 3) := dc_180 (a := 0) (b := 62) (by decide +kernel) rfl
theorem d_County_fittingRods_27 : decode b_County_fittingRods 27 = .ok (.iload_n 2, 1) := dc_28 (by decide +kernel)
theorem d_County_fittingRods_28 : decode b_County_fittingRods 28 = .ok (.iaload, 1) := dc_46 (by decide +kernel)
theorem d_County_fittingRods_29 : decode b_County_fittingRods 29 = .ok (.aload_n 0, 1) := dc_42 (by decide +kernel)
theorem d_County_fittingRods_30 : decode b_County_fittingRods 30 = .ok (.getfield 28, 3) := dc_180 (a := 0) (b := 28) (by decide +kernel) rfl
theorem d_County_fittingRods_33 : decode b_County_fittingRods 33 = .ok (.getfield 66, 3) := dc_180 (a := 0) (b := 66) (by decide +kernel) rfl
theorem d_County_fittingRods_36 : decode b_County_fittingRods 36 = .ok (.iload_n 2, 1) := dc_28 (by decide +kernel)
theorem d_County_fittingRods_37 : decode b_County_fittingRods 37 = .ok (.iaload, 1) := dc_46 (by decide +kernel)
theorem d_County_fittingRods_38 : decode b_County_fittingRods 38 = .ok (.aload_n 0, 1) := dc_42 (by decide +kernel)
theorem d_County_fittingRods_39 : decode b_County_fittingRods 39 = .ok (.getfield 28, 3) := dc_180 (a := 0) (b := 28) (by decide +kernel) rfl
theorem d_County_fittingRods_42 : decode b_County_fittingRods 42 = .ok (.getfield 69, 3) := dc_180 (a := 0) (b := 69) (by decide +kernel) rfl
theorem d_County_fittingRods_45 : decode b_County_fittingRods 45 = .ok (.iload_n 2, 1) := dc_28 (by decide +kernel)
theorem d_County_fittingRods_46 : decode b_County_fittingRods 46 = .ok (.iaload, 1) := dc_46 (by decide +kernel)
theorem d_County_fittingRods_47 : decode b_County_fittingRods 47 = .ok (.invokevirtual 72, 3) := dc_182 (a := 0) (b := 72) (by decide +kernel) rfl
theorem d_County_fittingRods_50 : decode b_County_fittingRods 50 = .ok (.istore_n 3, 1) := dc_62 (by decide +kernel)
theorem d_County_fittingRods_51 : decode b_County_fittingRods 51 = .ok (.iload_n 1, 1) := dc_27 (by decide +kernel)
theorem d_County_fittingRods_52 : decode b_County_fittingRods 52 = .ok (.aload_n 0, 1) := dc_42 (by decide +kernel)
theorem d_County_fittingRods_53 : decode b_County_fittingRods 53 = .ok (.getfield 28, 3) := dc_180 (a := 0) (b := 28) (by decide +kernel) rfl
theorem d_County_fittingRods_56 : decode b_County_fittingRods 56 = .ok (.getfield 76, 3) := dc_180 (a := 0) (b := 76) (by decide +kernel) rfl
theorem d_County_fittingRods_59 : decode b_County_fittingRods 59 = .ok (.iload_n 2, 1) := dc_28 (by decide +kernel)
theorem d_County_fittingRods_60 : decode b_County_fittingRods 60 = .ok (.iaload, 1) := dc_46 (by decide +kernel)
theorem d_County_fittingRods_61 : decode b_County_fittingRods 61 = .ok (.ifCond .eq 7, 3) := dc_153 (a := 0) (b := 7) (by decide +kernel) rfl
theorem d_County_fittingRods_64 : decode b_County_fittingRods 64 = .ok (.iload_n 3, 1) := dc_29 (by decide +kernel)
theorem d_County_fittingRods_65 : decode b_County_fittingRods 65 = .ok (.goto 6, 3) := dc_167 (a := 0) (b := 6) (by decide +kernel) rfl
theorem d_County_fittingRods_68 : decode b_County_fittingRods 68 = .ok (.iload_n 3, 1) := dc_29 (by decide +kernel)
theorem d_County_fittingRods_69 : decode b_County_fittingRods 69 = .ok (.iconst (-1), 1) := dc_2 (by decide +kernel)
theorem d_County_fittingRods_70 : decode b_County_fittingRods 70 = .ok (.ixor, 1) := dc_130 (by decide +kernel)
theorem d_County_fittingRods_71 : decode b_County_fittingRods 71 = .ok (.iand, 1) := dc_126 (by decide +kernel)
theorem d_County_fittingRods_72 : decode b_County_fittingRods 72 = .ok (.istore_n 1, 1) := dc_60 (by decide +kernel)
theorem d_County_fittingRods_73 : decode b_County_fittingRods 73 = .ok (.iinc 2 1, 3) := dc_132 (a := 2) (b := 1) (by decide +kernel) rfl
theorem d_County_fittingRods_76 : decode b_County_fittingRods 76 = .ok (.goto (-71), 3) := dc_167 (a := 255) (b := 185) (by decide +kernel) rfl
theorem d_County_fittingRods_79 : decode b_County_fittingRods 79 = .ok (.iload_n 1, 1) := dc_27 (by decide +kernel)
theorem d_County_fittingRods_80 : decode b_County_fittingRods 80 = .ok (.ireturn, 1) := dc_172 (by decide +kernel)
theorem d_County_boreBy_0 : decode b_County_boreBy 0 = .ok (.iload_n 1, 1) := dc_27 (by decide +kernel)
theorem d_County_boreBy_1 : decode b_County_boreBy 1 = .ok (.invokestatic 79, 3) := dc_184 (a := 0) (b := 79) (by decide +kernel) rfl
theorem d_County_boreBy_4 : decode b_County_boreBy 4 = .ok (.ifCond .eq 21, 3) := dc_153 (a := 0) (b := 21) (by decide +kernel) rfl
theorem d_County_boreBy_7 : decode b_County_boreBy 7 = .ok (.aload_n 0, 1) := dc_42 (by decide +kernel)
theorem d_County_boreBy_8 : decode b_County_boreBy 8 = .ok (.getfield 12, 3) := dc_180 (a := 0) (b := 12) (by decide +kernel) rfl
theorem d_County_boreBy_11 : decode b_County_boreBy 11 = .ok (.iload_n 2, 1) := dc_28 (by decide +kernel)
theorem d_County_boreBy_12 : decode b_County_boreBy 12 = .ok (.invokevirtual 83, 3) := dc_182 (a := 0) (b := 83) (by decide +kernel) rfl
theorem d_County_boreBy_15 : decode b_County_boreBy 15 = .ok (.ifCond .eq 10, 3) := dc_153 (a := 0) (b := 10) (by decide +kernel) rfl
theorem d_County_boreBy_18 : decode b_County_boreBy 18 = .ok (.iload_n 3, 1) := dc_29 (by decide +kernel)
theorem d_County_boreBy_19 : decode b_County_boreBy 19 = .ok (.invokestatic 86, 3) := dc_184 (a := 0) (b := 86) (by decide +kernel) rfl
theorem d_County_boreBy_22 : decode b_County_boreBy 22 = .ok (.ifCond .ne 5, 3) := dc_154 (a := 0) (b := 5) (by decide +kernel) rfl
theorem d_County_boreBy_25 : decode b_County_boreBy 25 = .ok (.iconst (-1), 1) := dc_2 (by decide +kernel)
theorem d_County_boreBy_26 : decode b_County_boreBy 26 = .ok (.ireturn, 1) := dc_172 (by decide +kernel)
theorem d_County_boreBy_27 : decode b_County_boreBy 27 = .ok (.aload_n 0, 1) := dc_42 (by decide +kernel)
theorem d_County_boreBy_28 : decode b_County_boreBy 28 = .ok (.getfield 12, 3) := dc_180 (a := 0) (b := 12) (by decide +kernel) rfl
theorem d_County_boreBy_31 : decode b_County_boreBy 31 = .ok (.getfield 89, 3) := dc_180 (a := 0) (b := 89) (by decide +kernel) rfl
theorem d_County_boreBy_34 : decode b_County_boreBy 34 = .ok (.iload_n 2, 1) := dc_28 (by decide +kernel)
theorem d_County_boreBy_35 : decode b_County_boreBy 35 = .ok (.iaload, 1) := dc_46 (by decide +kernel)
theorem d_County_boreBy_36 : decode b_County_boreBy 36 = .ok (.iload_n 1, 1) := dc_27 (by decide +kernel)
theorem d_County_boreBy_37 : decode b_County_boreBy 37 = .ok (.if_icmp .eq 6, 3) := dc_159 (a := 0) (b := 6) (by decide +kernel) rfl
theorem d_County_boreBy_40 : decode b_County_boreBy 40 = .ok (.bipush (-2), 2) := dc_16 (a := 254) (by decide +kernel) rfl
theorem d_County_boreBy_42 : decode b_County_boreBy 42 = .ok (.ireturn, 1) := dc_172 (by decide +kernel)
theorem d_County_boreBy_43 : decode b_County_boreBy 43 = .ok (.aload_n 0, 1) := dc_42 (by decide +kernel)
theorem d_County_boreBy_44 : decode b_County_boreBy 44 = .ok (.getfield 12, 3) := dc_180 (a := 0) (b := 12) (by decide +kernel) rfl
theorem d_County_boreBy_47 : decode b_County_boreBy 47 = .ok (.iload_n 2, 1) := dc_28 (by decide +kernel)
theorem d_County_boreBy_48 : decode b_County_boreBy 48 = .ok (.invokevirtual 92, 3) := dc_182 (a := 0) (b := 92) (by decide +kernel) rfl
theorem d_County_boreBy_51 : decode b_County_boreBy 51 = .ok (.istore 4, 2) := dc_54 (a := 4) (by decide +kernel) rfl
theorem d_County_boreBy_53 : decode b_County_boreBy 53 = .ok (.aload_n 0, 1) := dc_42 (by decide +kernel)
theorem d_County_boreBy_54 : decode b_County_boreBy 54 = .ok (.getfield 12, 3) := dc_180 (a := 0) (b := 12) (by decide +kernel) rfl
theorem d_County_boreBy_57 : decode b_County_boreBy 57 = .ok (.getfield 95, 3) := dc_180 (a := 0) (b := 95) (by decide +kernel) rfl
theorem d_County_boreBy_60 : decode b_County_boreBy 60 = .ok (.iload_n 2, 1) := dc_28 (by decide +kernel)
theorem d_County_boreBy_61 : decode b_County_boreBy 61 = .ok (.iaload, 1) := dc_46 (by decide +kernel)
theorem d_County_boreBy_62 : decode b_County_boreBy 62 = .ok (.iload_n 3, 1) := dc_29 (by decide +kernel)
theorem d_County_boreBy_63 : decode b_County_boreBy 63 = .ok (.invokestatic 98, 3) := dc_184 (a := 0) (b := 98) (by decide +kernel) rfl
theorem d_County_boreBy_66 : decode b_County_boreBy 66 = .ok (.istore 5, 2) := dc_54 (a := 5) (by decide +kernel) rfl
theorem d_County_boreBy_68 : decode b_County_boreBy 68 = .ok (.iload 4, 2) := dc_21 (a := 4) (by decide +kernel) rfl
theorem d_County_boreBy_70 : decode b_County_boreBy 70 = .ok (.ifCond .ne 33, 3) := dc_154 (a := 0) (b := 33) (by decide +kernel) rfl
theorem d_County_boreBy_73 : decode b_County_boreBy 73 = .ok (.aload_n 0, 1) := dc_42 (by decide +kernel)
theorem d_County_boreBy_74 : decode b_County_boreBy 74 = .ok (.getfield 12, 3) := dc_180 (a := 0) (b := 12) (by decide +kernel) rfl
theorem d_County_boreBy_77 : decode b_County_boreBy 77 = .ok (.getfield 104, 3) := dc_180 (a := 0) (b := 104) (by decide +kernel) rfl
theorem d_County_boreBy_80 : decode b_County_boreBy 80 = .ok (.iload_n 2, 1) := dc_28 (by decide +kernel)
theorem d_County_boreBy_81 : decode b_County_boreBy 81 = .ok (.iaload, 1) := dc_46 (by decide +kernel)
theorem d_County_boreBy_82 : decode b_County_boreBy 82 = .ok (.ifCond .le 21, 3) := dc_158 (a := 0) (b := 21) (by decide +kernel) rfl
theorem d_County_boreBy_85 : decode b_County_boreBy 85 = .ok (.aload_n 0, 1) := dc_42 (by decide +kernel)
theorem d_County_boreBy_86 : decode b_County_boreBy 86 = .ok (.getfield 12, 3) := dc_180 (a := 0) (b := 12) (by decide +kernel) rfl
theorem d_County_boreBy_89 : decode b_County_boreBy 89 = .ok (.getfield 104, 3) := dc_180 (a := 0) (b := 104) (by decide +kernel) rfl
theorem d_County_boreBy_92 : decode b_County_boreBy 92 = .ok (.iload_n 2, 1) := dc_28 (by decide +kernel)
theorem d_County_boreBy_93 : decode b_County_boreBy 93 = .ok (.iaload, 1) := dc_46 (by decide +kernel)
theorem d_County_boreBy_94 : decode b_County_boreBy 94 = .ok (.iload 5, 2) := dc_21 (a := 5) (by decide +kernel) rfl
theorem d_County_boreBy_96 : decode b_County_boreBy 96 = .ok (.if_icmp .gt 7, 3) := dc_163 (a := 0) (b := 7) (by decide +kernel) rfl
theorem d_County_boreBy_99 : decode b_County_boreBy 99 = .ok (.iconst 1, 1) := dc_4 (by decide +kernel)
theorem d_County_boreBy_100 : decode b_County_boreBy 100 = .ok (.goto 4, 3) := dc_167 (a := 0) (b := 4) (by decide +kernel) rfl
theorem d_County_boreBy_103 : decode b_County_boreBy 103 = .ok (.iconst 0, 1) := dc_3 (by decide +kernel)
theorem d_County_boreBy_104 : decode b_County_boreBy 104 = .ok (.istore 6, 2) := dc_54 (a := 6) (by decide +kernel) rfl
theorem d_County_boreBy_106 : decode b_County_boreBy 106 = .ok (.aload_n 0, 1) := dc_42 (by decide +kernel)
theorem d_County_boreBy_107 : decode b_County_boreBy 107 = .ok (.getfield 21, 3) := dc_180 (a := 0) (b := 21) (by decide +kernel) rfl
theorem d_County_boreBy_110 : decode b_County_boreBy 110 = .ok (.getfield 107, 3) := dc_180 (a := 0) (b := 107) (by decide +kernel) rfl
theorem d_County_boreBy_113 : decode b_County_boreBy 113 = .ok (.iload_n 1, 1) := dc_27 (by decide +kernel)
theorem d_County_boreBy_114 : decode b_County_boreBy 114 = .ok (.iaload, 1) := dc_46 (by decide +kernel)
theorem d_County_boreBy_115 : decode b_County_boreBy 115 = .ok (.aload_n 0, 1) := dc_42 (by decide +kernel)
theorem d_County_boreBy_116 : decode b_County_boreBy 116 = .ok (.getfield 12, 3) := dc_180 (a := 0) (b := 12) (by decide +kernel) rfl
theorem d_County_boreBy_119 : decode b_County_boreBy 119 = .ok (.getfield 110, 3) := dc_180 (a := 0) (b := 110) (by decide +kernel) rfl
theorem d_County_boreBy_122 : decode b_County_boreBy 122 = .ok (.iload 5, 2) := dc_21 (a := 5) (by decide +kernel) rfl
theorem d_County_boreBy_124 : decode b_County_boreBy 124 = .ok (.aload_n 0, 1) := dc_42 (by decide +kernel)
theorem d_County_boreBy_125 : decode b_County_boreBy 125 = .ok (.getfield 12, 3) := dc_180 (a := 0) (b := 12) (by decide +kernel) rfl
theorem d_County_boreBy_128 : decode b_County_boreBy 128 = .ok (.getfield 95, 3) := dc_180 (a := 0) (b := 95) (by decide +kernel) rfl
theorem d_County_boreBy_131 : decode b_County_boreBy 131 = .ok (.iload_n 2, 1) := dc_28 (by decide +kernel)
theorem d_County_boreBy_132 : decode b_County_boreBy 132 = .ok (.iaload, 1) := dc_46 (by decide +kernel)
theorem d_County_boreBy_133 : decode b_County_boreBy 133 = .ok (.isub, 1) := dc_100 (by decide +kernel)
theorem d_County_boreBy_134 : decode b_County_boreBy 134 = .ok (.imul, 1) := dc_104 (by decide +kernel)
theorem d_County_boreBy_135 : decode b_County_boreBy 135 = .ok (.isub, 1) := dc_100 (by decide +kernel)
theorem d_County_boreBy_136 : decode b_County_boreBy 136 = .ok (.istore 7, 2) := dc_54 (a := 7) (by decide +kernel) rfl
theorem d_County_boreBy_138 : decode b_County_boreBy 138 = .ok (.iload 6, 2) := dc_21 (a := 6) (by decide +kernel) rfl
theorem d_County_boreBy_140 : decode b_County_boreBy 140 = .ok (.ifCond .eq 16, 3) := dc_153 (a := 0) (b := 16) (by decide +kernel) rfl
theorem d_County_boreBy_143 : decode b_County_boreBy 143 = .ok (.iload 7, 2) := dc_21 (a := 7) (by decide +kernel) rfl
theorem d_County_boreBy_145 : decode b_County_boreBy 145 = .ok (.aload_n 0, 1) := dc_42 (by decide +kernel)
theorem d_County_boreBy_146 : decode b_County_boreBy 146 = .ok (.getfield 12, 3) := dc_180 (a := 0) (b := 12) (by decide +kernel) rfl
theorem d_County_boreBy_149 : decode b_County_boreBy 149 = .ok (.getfield 113, 3) := dc_180 (a := 0) (b := 113) (by decide +kernel) rfl
theorem d_County_boreBy_152 : decode b_County_boreBy 152 = .ok (.iadd, 1) := dc_96 (by decide +kernel)
theorem d_County_boreBy_153 : decode b_County_boreBy 153 = .ok (.goto 5, 3) := dc_167 (a := 0) (b := 5) (by decide +kernel) rfl
theorem d_County_boreBy_156 : decode b_County_boreBy 156 = .ok (.iload 7, 2) := dc_21 (a := 7) (by decide +kernel) rfl
theorem d_County_boreBy_158 : decode b_County_boreBy 158 = .ok (.istore 8, 2) := dc_54 (a := 8) (by decide +kernel) rfl
theorem d_County_boreBy_160 : decode b_County_boreBy 160 = .ok (.iload 7, 2) := dc_21 (a := 7) (by decide +kernel) rfl
theorem d_County_boreBy_162 : decode b_County_boreBy 162 = .ok (.ifCond .lt 11, 3) := dc_155 (a := 0) (b := 11) (by decide +kernel) rfl
theorem d_County_boreBy_165 : decode b_County_boreBy 165 = .ok (.iload 8, 2) := dc_21 (a := 8) (by decide +kernel) rfl
theorem d_County_boreBy_167 : decode b_County_boreBy 167 = .ok (.sipush 999, 3) := dc_17 (a := 3) (b := 231) (by decide +kernel) rfl
theorem d_County_boreBy_170 : decode b_County_boreBy 170 = .ok (.if_icmp .le 6, 3) := dc_164 (a := 0) (b := 6) (by decide +kernel) rfl
theorem d_County_boreBy_173 : decode b_County_boreBy 173 = .ok (.bipush (-2), 2) := dc_16 (a := 254) (by decide +kernel) rfl
theorem d_County_boreBy_175 : decode b_County_boreBy 175 = .ok (.ireturn, 1) := dc_172 (by decide +kernel)
theorem d_County_boreBy_176 : decode b_County_boreBy 176 = .ok (.aload_n 0, 1) := dc_42 (by decide +kernel)
theorem d_County_boreBy_177 : decode b_County_boreBy 177 = .ok (.getfield 21, 3) := dc_180 (a := 0) (b := 21) (by decide +kernel) rfl
theorem d_County_boreBy_180 : decode b_County_boreBy 180 = .ok (.getfield 107, 3) := dc_180 (a := 0) (b := 107) (by decide +kernel) rfl
theorem d_County_boreBy_183 : decode b_County_boreBy 183 = .ok (.iload_n 1, 1) := dc_27 (by decide +kernel)
theorem d_County_boreBy_184 : decode b_County_boreBy 184 = .ok (.iload 8, 2) := dc_21 (a := 8) (by decide +kernel) rfl
theorem d_County_boreBy_186 : decode b_County_boreBy 186 = .ok (.iastore, 1) := dc_79 (by decide +kernel)
theorem d_County_boreBy_187 : decode b_County_boreBy 187 = .ok (.aload_n 0, 1) := dc_42 (by decide +kernel)
theorem d_County_boreBy_188 : decode b_County_boreBy 188 = .ok (.getfield 12, 3) := dc_180 (a := 0) (b := 12) (by decide +kernel) rfl
theorem d_County_boreBy_191 : decode b_County_boreBy 191 = .ok (.getfield 95, 3) := dc_180 (a := 0) (b := 95) (by decide +kernel) rfl
theorem d_County_boreBy_194 : decode b_County_boreBy 194 = .ok (.iload_n 2, 1) := dc_28 (by decide +kernel)
theorem d_County_boreBy_195 : decode b_County_boreBy 195 = .ok (.iload 5, 2) := dc_21 (a := 5) (by decide +kernel) rfl
theorem d_County_boreBy_197 : decode b_County_boreBy 197 = .ok (.iastore, 1) := dc_79 (by decide +kernel)
theorem d_County_boreBy_198 : decode b_County_boreBy 198 = .ok (.iload 4, 2) := dc_21 (a := 4) (by decide +kernel) rfl
theorem d_County_boreBy_200 : decode b_County_boreBy 200 = .ok (.ifCond .ne 8, 3) := dc_154 (a := 0) (b := 8) (by decide +kernel) rfl
theorem d_County_boreBy_203 : decode b_County_boreBy 203 = .ok (.iload 6, 2) := dc_21 (a := 6) (by decide +kernel) rfl
theorem d_County_boreBy_205 : decode b_County_boreBy 205 = .ok (.ifCond .eq 7, 3) := dc_153 (a := 0) (b := 7) (by decide +kernel) rfl
theorem d_County_boreBy_208 : decode b_County_boreBy 208 = .ok (.iconst 1, 1) := dc_4 (by decide +kernel)
theorem d_County_boreBy_209 : decode b_County_boreBy 209 = .ok (.goto 4, 3) := dc_167 (a := 0) (b := 4) (by decide +kernel) rfl
theorem d_County_boreBy_212 : decode b_County_boreBy 212 = .ok (.iconst 0, 1) := dc_3 (by decide +kernel)
theorem d_County_boreBy_213 : decode b_County_boreBy 213 = .ok (.invokestatic 116, 3) := dc_184 (a := 0) (b := 116) (by decide +kernel) rfl
theorem d_County_boreBy_216 : decode b_County_boreBy 216 = .ok (.ireturn, 1) := dc_172 (by decide +kernel)
theorem d_Sheet_makeNew_0 : decode b_Sheet_makeNew 0 = .ok (.aload_n 0, 1) := dc_42 (by decide +kernel)
theorem d_Sheet_makeNew_1 : decode b_Sheet_makeNew 1 = .ok (.getfield 9, 3) := dc_180 (a := 0) (b := 9) (by decide +kernel) rfl
theorem d_Sheet_makeNew_4 : decode b_Sheet_makeNew 4 = .ok (.iconst 0, 1) := dc_3 (by decide +kernel)
theorem d_Sheet_makeNew_5 : decode b_Sheet_makeNew 5 = .ok (.invokestatic 19, 3) := dc_184 (a := 0) (b := 19) (by decide +kernel) rfl
theorem d_Sheet_makeNew_8 : decode b_Sheet_makeNew 8 = .ok (.aload_n 0, 1) := dc_42 (by decide +kernel)
theorem d_Sheet_makeNew_9 : decode b_Sheet_makeNew 9 = .ok (.iload_n 1, 1) := dc_27 (by decide +kernel)
theorem d_Sheet_makeNew_10 : decode b_Sheet_makeNew 10 = .ok (.putfield 15, 3) := dc_181 (a := 0) (b := 15) (by decide +kernel) rfl
theorem d_Sheet_makeNew_13 : decode b_Sheet_makeNew 13 = .ok (.aload_n 0, 1) := dc_42 (by decide +kernel)
theorem d_Sheet_makeNew_14 : decode b_Sheet_makeNew 14 = .ok (.iload_n 2, 1) := dc_28 (by decide +kernel)
theorem d_Sheet_makeNew_15 : decode b_Sheet_makeNew 15 = .ok (.putfield 25, 3) := dc_181 (a := 0) (b := 25) (by decide +kernel) rfl
theorem d_Sheet_makeNew_18 : decode b_Sheet_makeNew 18 = .ok (.return_, 1) := dc_177 (by decide +kernel)
theorem d_Sheet_put_0 : decode b_Sheet_put 0 = .ok (.aload_n 0, 1) := dc_42 (by decide +kernel)
theorem d_Sheet_put_1 : decode b_Sheet_put 1 = .ok (.getfield 15, 3) := dc_180 (a := 0) (b := 15) (by decide +kernel) rfl
theorem d_Sheet_put_4 : decode b_Sheet_put 4 = .ok (.ifCond .ne 14, 3) := dc_154 (a := 0) (b := 14) (by decide +kernel) rfl
theorem d_Sheet_put_7 : decode b_Sheet_put 7 = .ok (.aload_n 0, 1) := dc_42 (by decide +kernel)
theorem d_Sheet_put_8 : decode b_Sheet_put 8 = .ok (.getfield 9, 3) := dc_180 (a := 0) (b := 9) (by decide +kernel) rfl
theorem d_Sheet_put_11 : decode b_Sheet_put 11 = .ok (.iload_n 1, 1) := dc_27 (by decide +kernel)
theorem d_Sheet_put_12 : decode b_Sheet_put 12 = .ok (.iload_n 2, 1) := dc_28 (by decide +kernel)
theorem d_Sheet_put_13 : decode b_Sheet_put 13 = .ok (.i2b, 1) := dc_145 (by decide +kernel)
theorem d_Sheet_put_14 : decode b_Sheet_put 14 = .ok (.iastore, 1) := dc_79 (by decide +kernel)
theorem d_Sheet_put_15 : decode b_Sheet_put 15 = .ok (.goto 29, 3) := dc_167 (a := 0) (b := 29) (by decide +kernel) rfl
theorem d_Sheet_put_18 : decode b_Sheet_put 18 = .ok (.aload_n 0, 1) := dc_42 (by decide +kernel)
theorem d_Sheet_put_19 : decode b_Sheet_put 19 = .ok (.getfield 15, 3) := dc_180 (a := 0) (b := 15) (by decide +kernel) rfl
theorem d_Sheet_put_22 : decode b_Sheet_put 22 = .ok (.iconst 1, 1) := dc_4 (by decide +kernel)
theorem d_Sheet_put_23 : decode b_Sheet_put 23 = .ok (.if_icmp .ne 14, 3) := dc_160 (a := 0) (b := 14) (by decide +kernel) rfl
theorem d_Sheet_put_26 : decode b_Sheet_put 26 = .ok (.aload_n 0, 1) := dc_42 (by decide +kernel)
theorem d_Sheet_put_27 : decode b_Sheet_put 27 = .ok (.getfield 9, 3) := dc_180 (a := 0) (b := 9) (by decide +kernel) rfl
theorem d_Sheet_put_30 : decode b_Sheet_put 30 = .ok (.iload_n 1, 1) := dc_27 (by decide +kernel)
theorem d_Sheet_put_31 : decode b_Sheet_put 31 = .ok (.iload_n 2, 1) := dc_28 (by decide +kernel)
theorem d_Sheet_put_32 : decode b_Sheet_put 32 = .ok (.i2s, 1) := dc_147 (by decide +kernel)
theorem d_Sheet_put_33 : decode b_Sheet_put 33 = .ok (.iastore, 1) := dc_79 (by decide +kernel)
theorem d_Sheet_put_34 : decode b_Sheet_put 34 = .ok (.goto 10, 3) := dc_167 (a := 0) (b := 10) (by decide +kernel) rfl
theorem d_Sheet_put_37 : decode b_Sheet_put 37 = .ok (.aload_n 0, 1) := dc_42 (by decide +kernel)
theorem d_Sheet_put_38 : decode b_Sheet_put 38 = .ok (.getfield 9, 3) := dc_180 (a := 0) (b := 9) (by decide +kernel) rfl
theorem d_Sheet_put_41 : decode b_Sheet_put 41 = .ok (.iload_n 1, 1) := dc_27 (by decide +kernel)
theorem d_Sheet_put_42 : decode b_Sheet_put 42 = .ok (.iload_n 2, 1) := dc_28 (by decide +kernel)
theorem d_Sheet_put_43 : decode b_Sheet_put 43 = .ok (.iastore, 1) := dc_79 (by decide +kernel)
theorem d_Sheet_put_44 : decode b_Sheet_put 44 = .ok (.return_, 1) := dc_177 (by decide +kernel)
theorem d_Sheet_wholeBores_0 : decode b_Sheet_wholeBores 0 = .ok (.aload_n 0, 1) := dc_42 (by decide +kernel)
theorem d_Sheet_wholeBores_1 : decode b_Sheet_wholeBores 1 = .ok (.getfield 15, 3) := dc_180 (a := 0) (b := 15) (by decide +kernel) rfl
theorem d_Sheet_wholeBores_4 : decode b_Sheet_wholeBores 4 = .ok (.iload_n 1, 1) := dc_27 (by decide +kernel)
theorem d_Sheet_wholeBores_5 : decode b_Sheet_wholeBores 5 = .ok (.if_icmp .ne 15, 3) := dc_160 (a := 0) (b := 15) (by decide +kernel) rfl
theorem d_Sheet_wholeBores_8 : decode b_Sheet_wholeBores 8 = .ok (.iload_n 2, 1) := dc_28 (by decide +kernel)
theorem d_Sheet_wholeBores_9 : decode b_Sheet_wholeBores 9 = .ok (.ifCond .lt 11, 3) := dc_155 (a := 0) (b := 11) (by decide +kernel) rfl
theorem d_Sheet_wholeBores_12 : decode b_Sheet_wholeBores 12 = .ok (.iload_n 2, 1) := dc_28 (by decide +kernel)
theorem d_Sheet_wholeBores_13 : decode b_Sheet_wholeBores 13 = .ok (.aload_n 0, 1) := dc_42 (by decide +kernel)
theorem d_Sheet_wholeBores_14 : decode b_Sheet_wholeBores 14 = .ok (.getfield 25, 3) := dc_180 (a := 0) (b := 25) (by decide +kernel) rfl
theorem d_Sheet_wholeBores_17 : decode b_Sheet_wholeBores 17 = .ok (.if_icmp .lt 5, 3) := dc_161 (a := 0) (b := 5) (by decide +kernel) rfl
theorem d_Sheet_wholeBores_20 : decode b_Sheet_wholeBores 20 = .ok (.iconst 0, 1) := dc_3 (by decide +kernel)
theorem d_Sheet_wholeBores_21 : decode b_Sheet_wholeBores 21 = .ok (.ireturn, 1) := dc_172 (by decide +kernel)
theorem d_Sheet_wholeBores_22 : decode b_Sheet_wholeBores 22 = .ok (.iload_n 3, 1) := dc_29 (by decide +kernel)
theorem d_Sheet_wholeBores_23 : decode b_Sheet_wholeBores 23 = .ok (.aload_n 0, 1) := dc_42 (by decide +kernel)
theorem d_Sheet_wholeBores_24 : decode b_Sheet_wholeBores 24 = .ok (.getfield 25, 3) := dc_180 (a := 0) (b := 25) (by decide +kernel) rfl
theorem d_Sheet_wholeBores_27 : decode b_Sheet_wholeBores 27 = .ok (.iload_n 2, 1) := dc_28 (by decide +kernel)
theorem d_Sheet_wholeBores_28 : decode b_Sheet_wholeBores 28 = .ok (.isub, 1) := dc_100 (by decide +kernel)
theorem d_Sheet_wholeBores_29 : decode b_Sheet_wholeBores 29 = .ok (.iconst 3, 1) := dc_6 (by decide +kernel)
theorem d_Sheet_wholeBores_30 : decode b_Sheet_wholeBores 30 = .ok (.idiv, 1) := dc_108 (by decide +kernel)
theorem d_Sheet_wholeBores_31 : decode b_Sheet_wholeBores 31 = .ok (.invokestatic 28, 3) := dc_184 (a := 0) (b := 28) (by decide +kernel) rfl
theorem d_Sheet_wholeBores_34 : decode b_Sheet_wholeBores 34 = .ok (.ireturn, 1) := dc_172 (by decide +kernel)
theorem d_Sheet_readFault_0 : decode b_Sheet_readFault 0 = .ok (.aload_n 0, 1) := dc_42 (by decide +kernel)
theorem d_Sheet_readFault_1 : decode b_Sheet_readFault 1 = .ok (.getfield 15, 3) := dc_180 (a := 0) (b := 15) (by decide +kernel) rfl
theorem d_Sheet_readFault_4 : decode b_Sheet_readFault 4 = .ok (.iconst (-1), 1) := dc_2 (by decide +kernel)
theorem d_Sheet_readFault_5 : decode b_Sheet_readFault 5 = .ok (.if_icmp .ne 13, 3) := dc_160 (a := 0) (b := 13) (by decide +kernel) rfl
theorem d_Sheet_readFault_8 : decode b_Sheet_readFault 8 = .ok (.iload_n 2, 1) := dc_28 (by decide +kernel)
theorem d_Sheet_readFault_9 : decode b_Sheet_readFault 9 = .ok (.ifCond .le 7, 3) := dc_158 (a := 0) (b := 7) (by decide +kernel) rfl
theorem d_Sheet_readFault_12 : decode b_Sheet_readFault 12 = .ok (.iconst 1, 1) := dc_4 (by decide +kernel)
theorem d_Sheet_readFault_13 : decode b_Sheet_readFault 13 = .ok (.goto 4, 3) := dc_167 (a := 0) (b := 4) (by decide +kernel) rfl
theorem d_Sheet_readFault_16 : decode b_Sheet_readFault 16 = .ok (.iconst 0, 1) := dc_3 (by decide +kernel)
theorem d_Sheet_readFault_17 : decode b_Sheet_readFault 17 = .ok (.ireturn, 1) := dc_172 (by decide +kernel)
theorem d_Sheet_readFault_18 : decode b_Sheet_readFault 18 = .ok (.aload_n 0, 1) := dc_42 (by decide +kernel)
theorem d_Sheet_readFault_19 : decode b_Sheet_readFault 19 = .ok (.getfield 15, 3) := dc_180 (a := 0) (b := 15) (by decide +kernel) rfl
theorem d_Sheet_readFault_22 : decode b_Sheet_readFault 22 = .ok (.iload_n 1, 1) := dc_27 (by decide +kernel)
theorem d_Sheet_readFault_23 : decode b_Sheet_readFault 23 = .ok (.if_icmp .eq 5, 3) := dc_159 (a := 0) (b := 5) (by decide +kernel) rfl
theorem d_Sheet_readFault_26 : decode b_Sheet_readFault 26 = .ok (.iconst 3, 1) := dc_6 (by decide +kernel)
theorem d_Sheet_readFault_27 : decode b_Sheet_readFault 27 = .ok (.ireturn, 1) := dc_172 (by decide +kernel)
theorem d_Sheet_readFault_28 : decode b_Sheet_readFault 28 = .ok (.iload_n 3, 1) := dc_29 (by decide +kernel)
theorem d_Sheet_readFault_29 : decode b_Sheet_readFault 29 = .ok (.iload_n 2, 1) := dc_28 (by decide +kernel)
theorem d_Sheet_readFault_30 : decode b_Sheet_readFault 30 = .ok (.if_icmp .ge 7, 3) := dc_162 (a := 0) (b := 7) (by decide +kernel) rfl
theorem d_Sheet_readFault_33 : decode b_Sheet_readFault 33 = .ok (.iconst 2, 1) := dc_5 (by decide +kernel)
theorem d_Sheet_readFault_34 : decode b_Sheet_readFault 34 = .ok (.goto 4, 3) := dc_167 (a := 0) (b := 4) (by decide +kernel) rfl
theorem d_Sheet_readFault_37 : decode b_Sheet_readFault 37 = .ok (.iconst 0, 1) := dc_3 (by decide +kernel)
theorem d_Sheet_readFault_38 : decode b_Sheet_readFault 38 = .ok (.ireturn, 1) := dc_172 (by decide +kernel)
abbrev q_Sheet_readFault_0 (h : Hp) (l : Int32) (lZ : Int) (n : Int32) (nZ : Int) (w : Int32) (wZ : Int) : Option Value → Hp → Prop := pInt (fun r h' => h = h')
set_option maxRecDepth 100000 in
theorem c_Sheet_readFault_0 (h : Hp) (hI : Inv h) (l : Int32) (lZ : Int) (lE : l.toInt = lZ) (n : Int32) (nZ : Int) (nE : n.toInt = nZ) (w : Int32) (wZ : Int) (wE : w.toInt = wZ) : Ct y_Sheet_readFault b_Sheet_readFault 4 (some .int) 0 0 [.ref 108, .int l, .int n, .int w] h (q_Sheet_readFault_0 h l lZ n nZ w wZ) := by
  refine ct_ow R_Sheet [some (.ref 108), some (.int l), some (.int n), some (.int w)] rfl (by decide) rfl (Nat.le_of_ble_eq_true rfl) ?_
  have f0 : fr [] h h := fr_rf
  refine V_aload_n 0 d_Sheet_readFault_0 rfl rfl ?_
  refine N_getI fa_Sheet_15 sk_108 rfl d_Sheet_readFault_1 (fun z1 z1Z z1E z1e => ?_)
  refine V_iconst (-1) d_Sheet_readFault_4 (by decide) ?_
  refine V_icmp_ne 18 z1E tc_m1 d_Sheet_readFault_5 (by decide) (fun c2 => ?_) (fun c2 => ?_)
  ·
    refine V_aload_n 0 d_Sheet_readFault_18 rfl rfl ?_
    refine N_getK fa_Sheet_15 sk_108 rfl d_Sheet_readFault_19 z1e.symm ?_
    refine V_iload_n 1 d_Sheet_readFault_22 rfl rfl ?_
    refine V_icmp_eq 28 z1E lE d_Sheet_readFault_23 (by decide) (fun c3 => ?_) (fun c3 => ?_)
    ·
      refine V_iload_n 3 d_Sheet_readFault_28 rfl rfl ?_
      refine V_iload_n 2 d_Sheet_readFault_29 rfl rfl ?_
      refine V_icmp_ge 37 wE nE d_Sheet_readFault_30 (by decide) (fun c4 => ?_) (fun c4 => ?_)
      ·
        refine V_iconst 0 d_Sheet_readFault_37 (by decide) ?_
        exact V_iret rfl d_Sheet_readFault_38 ⟨0, rfl, rfl⟩
      ·
        refine V_iconst 2 d_Sheet_readFault_33 (by decide) ?_
        refine V_goto 38 d_Sheet_readFault_34 (by decide) ?_
        exact V_iret rfl d_Sheet_readFault_38 ⟨2, rfl, rfl⟩
    ·
      refine V_iconst 3 d_Sheet_readFault_26 (by decide) ?_
      exact V_iret rfl d_Sheet_readFault_27 ⟨3, rfl, rfl⟩
  ·
    refine V_iload_n 2 d_Sheet_readFault_8 rfl rfl ?_
    refine V_if_le 16 nE d_Sheet_readFault_9 (by decide) (fun c5 => ?_) (fun c5 => ?_)
    ·
      refine V_iconst 0 d_Sheet_readFault_16 (by decide) ?_
      exact V_iret rfl d_Sheet_readFault_17 ⟨0, rfl, rfl⟩
    ·
      refine V_iconst 1 d_Sheet_readFault_12 (by decide) ?_
      refine V_goto 17 d_Sheet_readFault_13 (by decide) ?_
      exact V_iret rfl d_Sheet_readFault_17 ⟨1, rfl, rfl⟩
abbrev q_Sheet_readFault_1 (h : Hp) (l : Int32) (lZ : Int) (n : Int32) (nZ : Int) (w : Int32) (wZ : Int) : Option Value → Hp → Prop := pInt (fun r h' => h = h')
set_option maxRecDepth 100000 in
theorem c_Sheet_readFault_1 (h : Hp) (hI : Inv h) (l : Int32) (lZ : Int) (lE : l.toInt = lZ) (n : Int32) (nZ : Int) (nE : n.toInt = nZ) (w : Int32) (wZ : Int) (wE : w.toInt = wZ) : Ct y_Sheet_readFault b_Sheet_readFault 4 (some .int) 0 0 [.ref 110, .int l, .int n, .int w] h (q_Sheet_readFault_1 h l lZ n nZ w wZ) := by
  refine ct_ow R_Sheet [some (.ref 110), some (.int l), some (.int n), some (.int w)] rfl (by decide) rfl (Nat.le_of_ble_eq_true rfl) ?_
  have f0 : fr [] h h := fr_rf
  refine V_aload_n 0 d_Sheet_readFault_0 rfl rfl ?_
  refine N_getI fa_Sheet_15 sk_110 rfl d_Sheet_readFault_1 (fun z1 z1Z z1E z1e => ?_)
  refine V_iconst (-1) d_Sheet_readFault_4 (by decide) ?_
  refine V_icmp_ne 18 z1E tc_m1 d_Sheet_readFault_5 (by decide) (fun c2 => ?_) (fun c2 => ?_)
  ·
    refine V_aload_n 0 d_Sheet_readFault_18 rfl rfl ?_
    refine N_getK fa_Sheet_15 sk_110 rfl d_Sheet_readFault_19 z1e.symm ?_
    refine V_iload_n 1 d_Sheet_readFault_22 rfl rfl ?_
    refine V_icmp_eq 28 z1E lE d_Sheet_readFault_23 (by decide) (fun c3 => ?_) (fun c3 => ?_)
    ·
      refine V_iload_n 3 d_Sheet_readFault_28 rfl rfl ?_
      refine V_iload_n 2 d_Sheet_readFault_29 rfl rfl ?_
      refine V_icmp_ge 37 wE nE d_Sheet_readFault_30 (by decide) (fun c4 => ?_) (fun c4 => ?_)
      ·
        refine V_iconst 0 d_Sheet_readFault_37 (by decide) ?_
        exact V_iret rfl d_Sheet_readFault_38 ⟨0, rfl, rfl⟩
      ·
        refine V_iconst 2 d_Sheet_readFault_33 (by decide) ?_
        refine V_goto 38 d_Sheet_readFault_34 (by decide) ?_
        exact V_iret rfl d_Sheet_readFault_38 ⟨2, rfl, rfl⟩
    ·
      refine V_iconst 3 d_Sheet_readFault_26 (by decide) ?_
      exact V_iret rfl d_Sheet_readFault_27 ⟨3, rfl, rfl⟩
  ·
    refine V_iload_n 2 d_Sheet_readFault_8 rfl rfl ?_
    refine V_if_le 16 nE d_Sheet_readFault_9 (by decide) (fun c5 => ?_) (fun c5 => ?_)
    ·
      refine V_iconst 0 d_Sheet_readFault_16 (by decide) ?_
      exact V_iret rfl d_Sheet_readFault_17 ⟨0, rfl, rfl⟩
    ·
      refine V_iconst 1 d_Sheet_readFault_12 (by decide) ?_
      refine V_goto 17 d_Sheet_readFault_13 (by decide) ?_
      exact V_iret rfl d_Sheet_readFault_17 ⟨1, rfl, rfl⟩
abbrev q_Sheet_readFault_2 (h : Hp) (l : Int32) (lZ : Int) (n : Int32) (nZ : Int) (w : Int32) (wZ : Int) : Option Value → Hp → Prop := pInt (fun r h' => h = h')
set_option maxRecDepth 100000 in
theorem c_Sheet_readFault_2 (h : Hp) (hI : Inv h) (l : Int32) (lZ : Int) (lE : l.toInt = lZ) (n : Int32) (nZ : Int) (nE : n.toInt = nZ) (w : Int32) (wZ : Int) (wE : w.toInt = wZ) : Ct y_Sheet_readFault b_Sheet_readFault 4 (some .int) 0 0 [.ref 112, .int l, .int n, .int w] h (q_Sheet_readFault_2 h l lZ n nZ w wZ) := by
  refine ct_ow R_Sheet [some (.ref 112), some (.int l), some (.int n), some (.int w)] rfl (by decide) rfl (Nat.le_of_ble_eq_true rfl) ?_
  have f0 : fr [] h h := fr_rf
  refine V_aload_n 0 d_Sheet_readFault_0 rfl rfl ?_
  refine N_getI fa_Sheet_15 sk_112 rfl d_Sheet_readFault_1 (fun z1 z1Z z1E z1e => ?_)
  refine V_iconst (-1) d_Sheet_readFault_4 (by decide) ?_
  refine V_icmp_ne 18 z1E tc_m1 d_Sheet_readFault_5 (by decide) (fun c2 => ?_) (fun c2 => ?_)
  ·
    refine V_aload_n 0 d_Sheet_readFault_18 rfl rfl ?_
    refine N_getK fa_Sheet_15 sk_112 rfl d_Sheet_readFault_19 z1e.symm ?_
    refine V_iload_n 1 d_Sheet_readFault_22 rfl rfl ?_
    refine V_icmp_eq 28 z1E lE d_Sheet_readFault_23 (by decide) (fun c3 => ?_) (fun c3 => ?_)
    ·
      refine V_iload_n 3 d_Sheet_readFault_28 rfl rfl ?_
      refine V_iload_n 2 d_Sheet_readFault_29 rfl rfl ?_
      refine V_icmp_ge 37 wE nE d_Sheet_readFault_30 (by decide) (fun c4 => ?_) (fun c4 => ?_)
      ·
        refine V_iconst 0 d_Sheet_readFault_37 (by decide) ?_
        exact V_iret rfl d_Sheet_readFault_38 ⟨0, rfl, rfl⟩
      ·
        refine V_iconst 2 d_Sheet_readFault_33 (by decide) ?_
        refine V_goto 38 d_Sheet_readFault_34 (by decide) ?_
        exact V_iret rfl d_Sheet_readFault_38 ⟨2, rfl, rfl⟩
    ·
      refine V_iconst 3 d_Sheet_readFault_26 (by decide) ?_
      exact V_iret rfl d_Sheet_readFault_27 ⟨3, rfl, rfl⟩
  ·
    refine V_iload_n 2 d_Sheet_readFault_8 rfl rfl ?_
    refine V_if_le 16 nE d_Sheet_readFault_9 (by decide) (fun c5 => ?_) (fun c5 => ?_)
    ·
      refine V_iconst 0 d_Sheet_readFault_16 (by decide) ?_
      exact V_iret rfl d_Sheet_readFault_17 ⟨0, rfl, rfl⟩
    ·
      refine V_iconst 1 d_Sheet_readFault_12 (by decide) ?_
      refine V_goto 17 d_Sheet_readFault_13 (by decide) ?_
      exact V_iret rfl d_Sheet_readFault_17 ⟨1, rfl, rfl⟩
abbrev q_Sheet_readFault_3 (h : Hp) (l : Int32) (lZ : Int) (n : Int32) (nZ : Int) (w : Int32) (wZ : Int) : Option Value → Hp → Prop := pInt (fun r h' => h = h')
set_option maxRecDepth 100000 in
theorem c_Sheet_readFault_3 (h : Hp) (hI : Inv h) (l : Int32) (lZ : Int) (lE : l.toInt = lZ) (n : Int32) (nZ : Int) (nE : n.toInt = nZ) (w : Int32) (wZ : Int) (wE : w.toInt = wZ) : Ct y_Sheet_readFault b_Sheet_readFault 4 (some .int) 0 0 [.ref 114, .int l, .int n, .int w] h (q_Sheet_readFault_3 h l lZ n nZ w wZ) := by
  refine ct_ow R_Sheet [some (.ref 114), some (.int l), some (.int n), some (.int w)] rfl (by decide) rfl (Nat.le_of_ble_eq_true rfl) ?_
  have f0 : fr [] h h := fr_rf
  refine V_aload_n 0 d_Sheet_readFault_0 rfl rfl ?_
  refine N_getI fa_Sheet_15 sk_114 rfl d_Sheet_readFault_1 (fun z1 z1Z z1E z1e => ?_)
  refine V_iconst (-1) d_Sheet_readFault_4 (by decide) ?_
  refine V_icmp_ne 18 z1E tc_m1 d_Sheet_readFault_5 (by decide) (fun c2 => ?_) (fun c2 => ?_)
  ·
    refine V_aload_n 0 d_Sheet_readFault_18 rfl rfl ?_
    refine N_getK fa_Sheet_15 sk_114 rfl d_Sheet_readFault_19 z1e.symm ?_
    refine V_iload_n 1 d_Sheet_readFault_22 rfl rfl ?_
    refine V_icmp_eq 28 z1E lE d_Sheet_readFault_23 (by decide) (fun c3 => ?_) (fun c3 => ?_)
    ·
      refine V_iload_n 3 d_Sheet_readFault_28 rfl rfl ?_
      refine V_iload_n 2 d_Sheet_readFault_29 rfl rfl ?_
      refine V_icmp_ge 37 wE nE d_Sheet_readFault_30 (by decide) (fun c4 => ?_) (fun c4 => ?_)
      ·
        refine V_iconst 0 d_Sheet_readFault_37 (by decide) ?_
        exact V_iret rfl d_Sheet_readFault_38 ⟨0, rfl, rfl⟩
      ·
        refine V_iconst 2 d_Sheet_readFault_33 (by decide) ?_
        refine V_goto 38 d_Sheet_readFault_34 (by decide) ?_
        exact V_iret rfl d_Sheet_readFault_38 ⟨2, rfl, rfl⟩
    ·
      refine V_iconst 3 d_Sheet_readFault_26 (by decide) ?_
      exact V_iret rfl d_Sheet_readFault_27 ⟨3, rfl, rfl⟩
  ·
    refine V_iload_n 2 d_Sheet_readFault_8 rfl rfl ?_
    refine V_if_le 16 nE d_Sheet_readFault_9 (by decide) (fun c5 => ?_) (fun c5 => ?_)
    ·
      refine V_iconst 0 d_Sheet_readFault_16 (by decide) ?_
      exact V_iret rfl d_Sheet_readFault_17 ⟨0, rfl, rfl⟩
    ·
      refine V_iconst 1 d_Sheet_readFault_12 (by decide) ?_
      refine V_goto 17 d_Sheet_readFault_13 (by decide) ?_
      exact V_iret rfl d_Sheet_readFault_17 ⟨1, rfl, rfl⟩
end
