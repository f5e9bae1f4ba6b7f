theorem cb_Mod_isWell : CB y_Mod_isWell b_Mod_isWell 2 (some .boolean) 1 := ⟨vv_Gin (List.mem_append_right _ (List.mem_append_right _ (List.mem_append_right _ (List.mem_append_right _ (List.mem_append_right _ (List.mem_append_left _ (List.mem_of_getElem? (i := 203) rfl))))))) rfl, by decide +kernel, vv_Gin (List.mem_append_right _ (List.mem_append_left _ (List.mem_of_getElem? (i := 13) rfl))) rfl⟩
theorem im_Mod_isWell : Cond.instanceMethod y_Mod_isWell ∈ vv_G := vv_Gin (List.mem_append_right _ (List.mem_append_right _ (List.mem_append_right _ (List.mem_append_right _ (List.mem_append_right _ (List.mem_append_left _ (List.mem_of_getElem? (i := 202) rfl))))))) rfl
theorem se_Mod_isWell : Cond.selects y_Mod_isWell.cls y_Mod_isWell y_Mod_isWell ∈ vv_G := vv_Gin (List.mem_append_left _ (List.mem_of_getElem? (i := 37) rfl)) rfl
theorem cv_Mod_192 : CV R_Mod 192 y_Mod_isWell b_Mod_isWell 2 (some .boolean) 1 := ⟨cb_Mod_isWell, im_Mod_isWell, se_Mod_isWell, vv_Gin (List.mem_append_right _ (List.mem_append_right _ (List.mem_append_right _ (List.mem_append_right _ (List.mem_append_right _ (List.mem_append_left _ (List.mem_of_getElem? (i := 200) rfl))))))) rfl⟩
theorem cb_Mod_flag : CB y_Mod_flag b_Mod_flag 1 (some .int) 1 := ⟨vv_Gin (List.mem_append_right _ (List.mem_append_right _ (List.mem_append_right _ (List.mem_append_right _ (List.mem_append_right _ (List.mem_append_left _ (List.mem_of_getElem? (i := 209) rfl))))))) rfl, by decide +kernel, vv_Gin (List.mem_append_right _ (List.mem_append_left _ (List.mem_of_getElem? (i := 13) rfl))) rfl⟩
theorem st_Mod_flag : Cond.static y_Mod_flag ∈ vv_G := vv_Gin (List.mem_append_right _ (List.mem_append_right _ (List.mem_append_right _ (List.mem_append_right _ (List.mem_append_right _ (List.mem_append_left _ (List.mem_of_getElem? (i := 208) rfl))))))) rfl
theorem cs_Mod_196 : CS R_Mod 196 y_Mod_flag b_Mod_flag 1 (some .int) 1 := ⟨cb_Mod_flag, st_Mod_flag, Or.inl (vv_Gin (List.mem_append_right _ (List.mem_append_right _ (List.mem_append_right _ (List.mem_append_right _ (List.mem_append_right _ (List.mem_append_left _ (List.mem_of_getElem? (i := 207) rfl))))))) rfl)⟩
theorem cb_Mod_isCell : CB y_Mod_isCell b_Mod_isCell 2 (some .boolean) 1 := ⟨vv_Gin (List.mem_append_right _ (List.mem_append_right _ (List.mem_append_right _ (List.mem_append_right _ (List.mem_append_right _ (List.mem_append_left _ (List.mem_of_getElem? (i := 194) rfl))))))) rfl, by decide +kernel, vv_Gin (List.mem_append_right _ (List.mem_append_left _ (List.mem_of_getElem? (i := 13) rfl))) rfl⟩
theorem im_Mod_isCell : Cond.instanceMethod y_Mod_isCell ∈ vv_G := vv_Gin (List.mem_append_right _ (List.mem_append_right _ (List.mem_append_right _ (List.mem_append_right _ (List.mem_append_right _ (List.mem_append_left _ (List.mem_of_getElem? (i := 193) rfl))))))) rfl
theorem se_Mod_isCell : Cond.selects y_Mod_isCell.cls y_Mod_isCell y_Mod_isCell ∈ vv_G := vv_Gin (List.mem_append_left _ (List.mem_of_getElem? (i := 35) rfl)) rfl
theorem cv_Mod_200 : CV R_Mod 200 y_Mod_isCell b_Mod_isCell 2 (some .boolean) 1 := ⟨cb_Mod_isCell, im_Mod_isCell, se_Mod_isCell, vv_Gin (List.mem_append_right _ (List.mem_append_right _ (List.mem_append_right _ (List.mem_append_right _ (List.mem_append_right _ (List.mem_append_left _ (List.mem_of_getElem? (i := 191) rfl))))))) rfl⟩
theorem wl_Mod_203 : Cond.constantLong R_Mod 203 5 ∈ vv_G := vv_Gin (List.mem_append_right _ (List.mem_append_right _ (List.mem_append_right _ (List.mem_append_right _ (List.mem_append_right _ (List.mem_append_left _ (List.mem_of_getElem? (i := 199) (by decide +kernel)))))))) (by decide +kernel)
theorem tl_5 : (5 : Int64).toInt = 5 := rfl
theorem tc_5 : (5 : Int32).toInt = 5 := rfl
theorem tc_16 : (16 : Int32).toInt = 16 := rfl
theorem wl_Mod_208 : Cond.constantLong R_Mod 208 9 ∈ vv_G := vv_Gin (List.mem_append_right _ (List.mem_append_right _ (List.mem_append_right _ (List.mem_append_right _ (List.mem_append_right _ (List.mem_append_left _ (List.mem_of_getElem? (i := 222) (by decide +kernel)))))))) (by decide +kernel)
theorem tl_9 : (9 : Int64).toInt = 9 := rfl
theorem cb_Mod_becomes : CB y_Mod_becomes b_Mod_becomes 4 (some .int) 2 := ⟨vv_Gin (List.mem_append_right _ (List.mem_append_right _ (List.mem_append_right _ (List.mem_append_right _ (List.mem_append_right _ (List.mem_append_left _ (List.mem_of_getElem? (i := 226) rfl))))))) rfl, by decide +kernel, vv_Gin (List.mem_append_right _ (List.mem_append_left _ (List.mem_of_getElem? (i := 13) rfl))) rfl⟩
theorem im_Mod_becomes : Cond.instanceMethod y_Mod_becomes ∈ vv_G := vv_Gin (List.mem_append_right _ (List.mem_append_right _ (List.mem_append_right _ (List.mem_append_right _ (List.mem_append_right _ (List.mem_append_left _ (List.mem_of_getElem? (i := 225) rfl))))))) rfl
theorem se_Mod_becomes : Cond.selects y_Mod_becomes.cls y_Mod_becomes y_Mod_becomes ∈ vv_G := vv_Gin (List.mem_append_left _ (List.mem_of_getElem? (i := 38) rfl)) rfl
theorem cv_Mod_210 : CV R_Mod 210 y_Mod_becomes b_Mod_becomes 4 (some .int) 2 := ⟨cb_Mod_becomes, im_Mod_becomes, se_Mod_becomes, vv_Gin (List.mem_append_right _ (List.mem_append_right _ (List.mem_append_right _ (List.mem_append_right _ (List.mem_append_right _ (List.mem_append_left _ (List.mem_of_getElem? (i := 223) rfl))))))) rfl⟩
theorem tc_m2 : ((-2) : Int32).toInt = (-2) := rfl
theorem wl_Mod_213 : Cond.constantLong R_Mod 213 10 ∈ vv_G := vv_Gin (List.mem_append_right _ (List.mem_append_right _ (List.mem_append_right _ (List.mem_append_right _ (List.mem_append_right _ (List.mem_append_left _ (List.mem_of_getElem? (i := 235) (by decide +kernel)))))))) (by decide +kernel)
theorem tl_10 : (10 : Int64).toInt = 10 := rfl
theorem tc_32 : (32 : Int32).toInt = 32 := rfl
theorem tc_m4 : ((-4) : Int32).toInt = (-4) := rfl
theorem tc_48 : (48 : Int32).toInt = 48 := rfl
theorem wl_Mod_215 : Cond.constantLong R_Mod 215 999 ∈ vv_G := vv_Gin (List.mem_append_right _ (List.mem_append_right _ (List.mem_append_right _ (List.mem_append_right _ (List.mem_append_right _ (List.mem_append_right _ (List.mem_of_getElem? (i := 4) (by decide +kernel)))))))) (by decide +kernel)
theorem tl_999 : (999 : Int64).toInt = 999 := rfl
theorem wl_Mod_217 : Cond.constantLong R_Mod 217 4 ∈ vv_G := vv_Gin (List.mem_append_right _ (List.mem_append_right _ (List.mem_append_right _ (List.mem_append_right _ (List.mem_append_right _ (List.mem_append_right _ (List.mem_of_getElem? (i := 9) (by decide +kernel)))))))) (by decide +kernel)
theorem tl_4 : (4 : Int64).toInt = 4 := rfl
theorem tl_1 : (1 : Int64).toInt = 1 := rfl
theorem wl_Mod_219 : Cond.constantLong R_Mod 219 99 ∈ vv_G := vv_Gin (List.mem_append_right _ (List.mem_append_right _ (List.mem_append_right _ (List.mem_append_right _ (List.mem_append_right _ (List.mem_append_right _ (List.mem_of_getElem? (i := 14) (by decide +kernel)))))))) (by decide +kernel)
theorem tl_99 : (99 : Int64).toInt = 99 := rfl
theorem tc_8 : (8 : Int32).toInt = 8 := rfl
theorem tc_87 : (87 : Int32).toInt = 87 := rfl
theorem tc_3 : (3 : Int32).toInt = 3 := rfl
theorem tc_2 : (2 : Int32).toInt = 2 := rfl
theorem wl_Mod_221 : Cond.constantLong R_Mod 221 8 ∈ vv_G := vv_Gin (List.mem_append_right _ (List.mem_append_right _ (List.mem_append_right _ (List.mem_append_right _ (List.mem_append_right _ (List.mem_append_right _ (List.mem_of_getElem? (i := 23) (by decide +kernel)))))))) (by decide +kernel)
theorem tl_8 : (8 : Int64).toInt = 8 := rfl
theorem cb_Mod_wells : CB y_Mod_wells b_Mod_wells 3 (some .int) 0 := ⟨vv_Gin (List.mem_append_right _ (List.mem_append_right _ (List.mem_append_right _ (List.mem_append_right _ (List.mem_append_right _ (List.mem_append_right _ (List.mem_of_getElem? (i := 27) rfl))))))) rfl, by decide +kernel, vv_Gin (List.mem_append_right _ (List.mem_append_left _ (List.mem_of_getElem? (i := 13) rfl))) rfl⟩
theorem im_Mod_wells : Cond.instanceMethod y_Mod_wells ∈ vv_G := vv_Gin (List.mem_append_right _ (List.mem_append_right _ (List.mem_append_right _ (List.mem_append_right _ (List.mem_append_right _ (List.mem_append_right _ (List.mem_of_getElem? (i := 26) rfl))))))) rfl
theorem se_Mod_wells : Cond.selects y_Mod_wells.cls y_Mod_wells y_Mod_wells ∈ vv_G := vv_Gin (List.mem_append_left _ (List.mem_of_getElem? (i := 39) rfl)) rfl
theorem cv_Mod_223 : CV R_Mod 223 y_Mod_wells b_Mod_wells 3 (some .int) 0 := ⟨cb_Mod_wells, im_Mod_wells, se_Mod_wells, vv_Gin (List.mem_append_right _ (List.mem_append_right _ (List.mem_append_right _ (List.mem_append_right _ (List.mem_append_right _ (List.mem_append_right _ (List.mem_of_getElem? (i := 24) rfl))))))) rfl⟩
theorem cb_Mod_isSeen : CB y_Mod_isSeen b_Mod_isSeen 4 (some .boolean) 3 := ⟨vv_Gin (List.mem_append_right _ (List.mem_append_right _ (List.mem_append_right _ (List.mem_append_right _ (List.mem_append_right _ (List.mem_append_right _ (List.mem_of_getElem? (i := 35) rfl))))))) rfl, by decide +kernel, vv_Gin (List.mem_append_right _ (List.mem_append_left _ (List.mem_of_getElem? (i := 13) rfl))) rfl⟩
theorem im_Mod_isSeen : Cond.instanceMethod y_Mod_isSeen ∈ vv_G := vv_Gin (List.mem_append_right _ (List.mem_append_right _ (List.mem_append_right _ (List.mem_append_right _ (List.mem_append_right _ (List.mem_append_right _ (List.mem_of_getElem? (i := 34) rfl))))))) rfl
theorem se_Mod_isSeen : Cond.selects y_Mod_isSeen.cls y_Mod_isSeen y_Mod_isSeen ∈ vv_G := vv_Gin (List.mem_append_left _ (List.mem_of_getElem? (i := 40) rfl)) rfl
theorem cv_Mod_226 : CV R_Mod 226 y_Mod_isSeen b_Mod_isSeen 4 (some .boolean) 3 := ⟨cb_Mod_isSeen, im_Mod_isSeen, se_Mod_isSeen, vv_Gin (List.mem_append_right _ (List.mem_append_right _ (List.mem_append_right _ (List.mem_append_right _ (List.mem_append_right _ (List.mem_append_right _ (List.mem_of_getElem? (i := 32) rfl))))))) rfl⟩
theorem cb_Mod_doesTwitch : CB y_Mod_doesTwitch b_Mod_doesTwitch 8 (some .boolean) 5 := ⟨vv_Gin (List.mem_append_right _ (List.mem_append_right _ (List.mem_append_right _ (List.mem_append_right _ (List.mem_append_right _ (List.mem_append_right _ (List.mem_of_getElem? (i := 39) rfl))))))) rfl, by decide +kernel, vv_Gin (List.mem_append_right _ (List.mem_append_left _ (List.mem_of_getElem? (i := 13) rfl))) rfl⟩
theorem im_Mod_doesTwitch : Cond.instanceMethod y_Mod_doesTwitch ∈ vv_G := vv_Gin (List.mem_append_right _ (List.mem_append_right _ (List.mem_append_right _ (List.mem_append_right _ (List.mem_append_right _ (List.mem_append_right _ (List.mem_of_getElem? (i := 38) rfl))))))) rfl
theorem se_Mod_doesTwitch : Cond.selects y_Mod_doesTwitch.cls y_Mod_doesTwitch y_Mod_doesTwitch ∈ vv_G := vv_Gin (List.mem_append_left _ (List.mem_of_getElem? (i := 41) rfl)) rfl
theorem cv_Mod_229 : CV R_Mod 229 y_Mod_doesTwitch b_Mod_doesTwitch 8 (some .boolean) 5 := ⟨cb_Mod_doesTwitch, im_Mod_doesTwitch, se_Mod_doesTwitch, vv_Gin (List.mem_append_right _ (List.mem_append_right _ (List.mem_append_right _ (List.mem_append_right _ (List.mem_append_right _ (List.mem_append_right _ (List.mem_of_getElem? (i := 36) rfl))))))) rfl⟩
theorem tc_111 : (111 : Int32).toInt = 111 := rfl
theorem tc_112 : (112 : Int32).toInt = 112 := rfl
theorem tc_4 : (4 : Int32).toInt = 4 := rfl
theorem tc_9 : (9 : Int32).toInt = 9 := rfl
theorem cb_Mod_reachesOf : CB y_Mod_reachesOf b_Mod_reachesOf 1 (some .int) 1 := ⟨vv_Gin (List.mem_append_right _ (List.mem_append_right _ (List.mem_append_right _ (List.mem_append_right _ (List.mem_append_right _ (List.mem_append_right _ (List.mem_of_getElem? (i := 54) rfl))))))) rfl, by decide +kernel, vv_Gin (List.mem_append_right _ (List.mem_append_left _ (List.mem_of_getElem? (i := 13) rfl))) rfl⟩
theorem st_Mod_reachesOf : Cond.static y_Mod_reachesOf ∈ vv_G := vv_Gin (List.mem_append_right _ (List.mem_append_right _ (List.mem_append_right _ (List.mem_append_right _ (List.mem_append_right _ (List.mem_append_right _ (List.mem_of_getElem? (i := 53) rfl))))))) rfl
theorem cs_Mod_233 : CS R_Mod 233 y_Mod_reachesOf b_Mod_reachesOf 1 (some .int) 1 := ⟨cb_Mod_reachesOf, st_Mod_reachesOf, Or.inl (vv_Gin (List.mem_append_right _ (List.mem_append_right _ (List.mem_append_right _ (List.mem_append_right _ (List.mem_append_right _ (List.mem_append_right _ (List.mem_of_getElem? (i := 52) rfl))))))) rfl)⟩
theorem cb_Mod_doesFit : CB y_Mod_doesFit b_Mod_doesFit 6 (some .boolean) 2 := ⟨vv_Gin (List.mem_append_right _ (List.mem_append_right _ (List.mem_append_right _ (List.mem_append_right _ (List.mem_append_right _ (List.mem_append_right _ (List.mem_of_getElem? (i := 58) rfl))))))) rfl, by decide +kernel, vv_Gin (List.mem_append_right _ (List.mem_append_left _ (List.mem_of_getElem? (i := 13) rfl))) rfl⟩
theorem im_Mod_doesFit : Cond.instanceMethod y_Mod_doesFit ∈ vv_G := vv_Gin (List.mem_append_right _ (List.mem_append_right _ (List.mem_append_right _ (List.mem_append_right _ (List.mem_append_right _ (List.mem_append_right _ (List.mem_of_getElem? (i := 57) rfl))))))) rfl
theorem se_Mod_doesFit : Cond.selects y_Mod_doesFit.cls y_Mod_doesFit y_Mod_doesFit ∈ vv_G := vv_Gin (List.mem_append_left _ (List.mem_of_getElem? (i := 42) rfl)) rfl
theorem cv_Mod_236 : CV R_Mod 236 y_Mod_doesFit b_Mod_doesFit 6 (some .boolean) 2 := ⟨cb_Mod_doesFit, im_Mod_doesFit, se_Mod_doesFit, vv_Gin (List.mem_append_right _ (List.mem_append_right _ (List.mem_append_right _ (List.mem_append_right _ (List.mem_append_right _ (List.mem_append_right _ (List.mem_of_getElem? (i := 55) rfl))))))) rfl⟩
theorem cb_Mod_rodsBy : CB y_Mod_rodsBy b_Mod_rodsBy 8 (some .int) 4 := ⟨vv_Gin (List.mem_append_right _ (List.mem_append_right _ (List.mem_append_right _ (List.mem_append_right _ (List.mem_append_right _ (List.mem_append_right _ (List.mem_of_getElem? (i := 70) rfl))))))) rfl, by decide +kernel, vv_Gin (List.mem_append_right _ (List.mem_append_left _ (List.mem_of_getElem? (i := 13) rfl))) rfl⟩
theorem im_Mod_rodsBy : Cond.instanceMethod y_Mod_rodsBy ∈ vv_G := vv_Gin (List.mem_append_right _ (List.mem_append_right _ (List.mem_append_right _ (List.mem_append_right _ (List.mem_append_right _ (List.mem_append_right _ (List.mem_of_getElem? (i := 69) rfl))))))) rfl
theorem se_Mod_rodsBy : Cond.selects y_Mod_rodsBy.cls y_Mod_rodsBy y_Mod_rodsBy ∈ vv_G := vv_Gin (List.mem_append_left _ (List.mem_of_getElem? (i := 43) rfl)) rfl
theorem cv_Mod_239 : CV R_Mod 239 y_Mod_rodsBy b_Mod_rodsBy 8 (some .int) 4 := ⟨cb_Mod_rodsBy, im_Mod_rodsBy, se_Mod_rodsBy, vv_Gin (List.mem_append_right _ (List.mem_append_right _ (List.mem_append_right _ (List.mem_append_right _ (List.mem_append_right _ (List.mem_append_right _ (List.mem_of_getElem? (i := 67) rfl))))))) rfl⟩
theorem tc_10 : (10 : Int32).toInt = 10 := rfl
theorem d_Mod_wells_0 : decode b_Mod_wells 0 = .ok (.iconst 0, 1) := dc_3 (by decide +kernel)
theorem d_Mod_wells_1 : decode b_Mod_wells 1 = .ok (.istore_n 1, 1) := dc_60 (by decide +kernel)
theorem d_Mod_wells_2 : decode b_Mod_wells 2 = .ok (.iconst 0, 1) := dc_3 (by decide +kernel)
theorem d_Mod_wells_3 : decode b_Mod_wells 3 = .ok (.istore_n 2, 1) := dc_61 (by decide +kernel)
theorem d_Mod_wells_4 : decode b_Mod_wells 4 = .ok (.iload_n 2, 1) := dc_28 (by decide +kernel)
theorem d_Mod_wells_5 : decode b_Mod_wells 5 = .ok (.aload_n 0, 1) := dc_42 (by decide +kernel)
theorem d_Mod_wells_6 : decode b_Mod_wells 6 = .ok (.invokevirtual 183, 3) := dc_182 (a := 0) (b := 183) (by decide +kernel) rfl
theorem d_Mod_wells_9 : decode b_Mod_wells 9 = .ok (.if_icmp .ge 20, 3) := dc_162 (a := 0) (b := 20) (by decide +kernel) rfl
theorem d_Mod_wells_12 : decode b_Mod_wells 12 = .ok (.iload_n 1, 1) := dc_27 (by decide +kernel)
theorem d_Mod_wells_13 : decode b_Mod_wells 13 = .ok (.aload_n 0, 1) := dc_42 (by decide +kernel)
theorem d_Mod_wells_14 : decode b_Mod_wells 14 = .ok (.iload_n 2, 1) := dc_28 (by decide +kernel)
theorem d_Mod_wells_15 : decode b_Mod_wells 15 = .ok (.invokevirtual 192, 3) := dc_182 (a := 0) (b := 192) (by decide +kernel) rfl
theorem d_Mod_wells_18 : decode b_Mod_wells 18 = .ok (.invokestatic 196, 3) := dc_184 (a := 0) (b := 196) (by decide +kernel) rfl
theorem d_Mod_wells_21 : decode b_Mod_wells 21 = .ok (.iadd, 1) := dc_96 (by decide +kernel)
theorem d_Mod_wells_22 : decode b_Mod_wells 22 = .ok (.istore_n 1, 1) := dc_60 (by decide +kernel)
theorem d_Mod_wells_23 : decode b_Mod_wells 23 = .ok (.iinc 2 1, 3) := dc_132 (a := 2) (b := 1) (by decide +kernel) rfl
theorem d_Mod_wells_26 : decode b_Mod_wells 26 = .ok (.goto (-22), 3) := dc_167 (a := 255) (b := 234) (by decide +kernel) rfl
theorem d_Mod_wells_29 : decode b_Mod_wells 29 = .ok (.iload_n 1, 1) := dc_27 (by decide +kernel)
theorem d_Mod_wells_30 : decode b_Mod_wells 30 = .ok (.ireturn, 1) := dc_172 (by decide +kernel)
theorem d_Mod_cell_0 : decode b_Mod_cell 0 = .ok (.aload_n 0, 1) := dc_42 (by decide +kernel)
theorem d_Mod_cell_1 : decode b_Mod_cell 1 = .ok (.iload_n 1, 1) := dc_27 (by decide +kernel)
theorem d_Mod_cell_2 : decode b_Mod_cell 2 = .ok (.invokevirtual 200, 3) := dc_182 (a := 0) (b := 200) (by decide +kernel) rfl
theorem d_Mod_cell_5 : decode b_Mod_cell 5 = .ok (.ifCond .eq 15, 3) := dc_153 (a := 0) (b := 15) (by decide +kernel) rfl
theorem d_Mod_cell_8 : decode b_Mod_cell 8 = .ok (.iload_n 2, 1) := dc_28 (by decide +kernel)
theorem d_Mod_cell_9 : decode b_Mod_cell 9 = .ok (.i2l, 1) := dc_133 (by decide +kernel)
theorem d_Mod_cell_10 : decode b_Mod_cell 10 = .ok (.lconst 0, 1) := dc_9 (by decide +kernel)
theorem d_Mod_cell_11 : decode b_Mod_cell 11 = .ok (.ldc2_w 203, 3) := dc_20 (a := 0) (b := 203) (by decide +kernel) rfl
theorem d_Mod_cell_14 : decode b_Mod_cell 14 = .ok (.invokestatic 95, 3) := dc_184 (a := 0) (b := 95) (by decide +kernel) rfl
theorem d_Mod_cell_17 : decode b_Mod_cell 17 = .ok (.ifCond .ne 5, 3) := dc_154 (a := 0) (b := 5) (by decide +kernel) rfl
theorem d_Mod_cell_20 : decode b_Mod_cell 20 = .ok (.iconst (-1), 1) := dc_2 (by decide +kernel)
theorem d_Mod_cell_21 : decode b_Mod_cell 21 = .ok (.ireturn, 1) := dc_172 (by decide +kernel)
theorem d_Mod_cell_22 : decode b_Mod_cell 22 = .ok (.iload_n 2, 1) := dc_28 (by decide +kernel)
theorem d_Mod_cell_23 : decode b_Mod_cell 23 = .ok (.iconst 5, 1) := dc_8 (by decide +kernel)
theorem d_Mod_cell_24 : decode b_Mod_cell 24 = .ok (.if_icmp .ne 14, 3) := dc_160 (a := 0) (b := 14) (by decide +kernel) rfl
theorem d_Mod_cell_27 : decode b_Mod_cell 27 = .ok (.aload_n 0, 1) := dc_42 (by decide +kernel)
theorem d_Mod_cell_28 : decode b_Mod_cell 28 = .ok (.iload_n 1, 1) := dc_27 (by decide +kernel)
theorem d_Mod_cell_29 : decode b_Mod_cell 29 = .ok (.invokevirtual 192, 3) := dc_182 (a := 0) (b := 192) (by decide +kernel) rfl
theorem d_Mod_cell_32 : decode b_Mod_cell 32 = .ok (.invokestatic 196, 3) := dc_184 (a := 0) (b := 196) (by decide +kernel) rfl
theorem d_Mod_cell_35 : decode b_Mod_cell 35 = .ok (.goto 14, 3) := dc_167 (a := 0) (b := 14) (by decide +kernel) rfl
theorem d_Mod_cell_38 : decode b_Mod_cell 38 = .ok (.aload_n 0, 1) := dc_42 (by decide +kernel)
theorem d_Mod_cell_39 : decode b_Mod_cell 39 = .ok (.getfield 7, 3) := dc_180 (a := 0) (b := 7) (by decide +kernel) rfl
theorem d_Mod_cell_42 : decode b_Mod_cell 42 = .ok (.bipush 16, 2) := dc_16 (a := 16) (by decide +kernel) rfl
theorem d_Mod_cell_44 : decode b_Mod_cell 44 = .ok (.iload_n 2, 1) := dc_28 (by decide +kernel)
theorem d_Mod_cell_45 : decode b_Mod_cell 45 = .ok (.imul, 1) := dc_104 (by decide +kernel)
theorem d_Mod_cell_46 : decode b_Mod_cell 46 = .ok (.iload_n 1, 1) := dc_27 (by decide +kernel)
theorem d_Mod_cell_47 : decode b_Mod_cell 47 = .ok (.iadd, 1) := dc_96 (by decide +kernel)
theorem d_Mod_cell_48 : decode b_Mod_cell 48 = .ok (.iaload, 1) := dc_46 (by decide +kernel)
theorem d_Mod_cell_49 : decode b_Mod_cell 49 = .ok (.ireturn, 1) := dc_172 (by decide +kernel)
theorem d_Mod_becomes_0 : decode b_Mod_becomes 0 = .ok (.aload_n 0, 1) := dc_42 (by decide +kernel)
theorem d_Mod_becomes_1 : decode b_Mod_becomes 1 = .ok (.getfield 7, 3) := dc_180 (a := 0) (b := 7) (by decide +kernel) rfl
theorem d_Mod_becomes_4 : decode b_Mod_becomes 4 = .ok (.iload_n 1, 1) := dc_27 (by decide +kernel)
theorem d_Mod_becomes_5 : decode b_Mod_becomes 5 = .ok (.iaload, 1) := dc_46 (by decide +kernel)
theorem d_Mod_becomes_6 : decode b_Mod_becomes 6 = .ok (.istore_n 3, 1) := dc_62 (by decide +kernel)
theorem d_Mod_becomes_7 : decode b_Mod_becomes 7 = .ok (.aload_n 0, 1) := dc_42 (by decide +kernel)
theorem d_Mod_becomes_8 : decode b_Mod_becomes 8 = .ok (.getfield 7, 3) := dc_180 (a := 0) (b := 7) (by decide +kernel) rfl
theorem d_Mod_becomes_11 : decode b_Mod_becomes 11 = .ok (.iload_n 1, 1) := dc_27 (by decide +kernel)
theorem d_Mod_becomes_12 : decode b_Mod_becomes 12 = .ok (.iload_n 2, 1) := dc_28 (by decide +kernel)
theorem d_Mod_becomes_13 : decode b_Mod_becomes 13 = .ok (.iastore, 1) := dc_79 (by decide +kernel)
theorem d_Mod_becomes_14 : decode b_Mod_becomes 14 = .ok (.iload_n 3, 1) := dc_29 (by decide +kernel)
theorem d_Mod_becomes_15 : decode b_Mod_becomes 15 = .ok (.ireturn, 1) := dc_172 (by decide +kernel)
theorem d_Mod_wet_0 : decode b_Mod_wet 0 = .ok (.aload_n 0, 1) := dc_42 (by decide +kernel)
theorem d_Mod_wet_1 : decode b_Mod_wet 1 = .ok (.iload_n 1, 1) := dc_27 (by decide +kernel)
theorem d_Mod_wet_2 : decode b_Mod_wet 2 = .ok (.invokevirtual 200, 3) := dc_182 (a := 0) (b := 200) (by decide +kernel) rfl
theorem d_Mod_wet_5 : decode b_Mod_wet 5 = .ok (.ifCond .eq 15, 3) := dc_153 (a := 0) (b := 15) (by decide +kernel) rfl
theorem d_Mod_wet_8 : decode b_Mod_wet 8 = .ok (.iload_n 2, 1) := dc_28 (by decide +kernel)
theorem d_Mod_wet_9 : decode b_Mod_wet 9 = .ok (.i2l, 1) := dc_133 (by decide +kernel)
theorem d_Mod_wet_10 : decode b_Mod_wet 10 = .ok (.lconst 0, 1) := dc_9 (by decide +kernel)
theorem d_Mod_wet_11 : decode b_Mod_wet 11 = .ok (.ldc2_w 208, 3) := dc_20 (a := 0) (b := 208) (by decide +kernel) rfl
theorem d_Mod_wet_14 : decode b_Mod_wet 14 = .ok (.invokestatic 95, 3) := dc_184 (a := 0) (b := 95) (by decide +kernel) rfl
theorem d_Mod_wet_17 : decode b_Mod_wet 17 = .ok (.ifCond .ne 5, 3) := dc_154 (a := 0) (b := 5) (by decide +kernel) rfl
theorem d_Mod_wet_20 : decode b_Mod_wet 20 = .ok (.iconst (-1), 1) := dc_2 (by decide +kernel)
theorem d_Mod_wet_21 : decode b_Mod_wet 21 = .ok (.ireturn, 1) := dc_172 (by decide +kernel)
theorem d_Mod_wet_22 : decode b_Mod_wet 22 = .ok (.aload_n 0, 1) := dc_42 (by decide +kernel)
theorem d_Mod_wet_23 : decode b_Mod_wet 23 = .ok (.getfield 7, 3) := dc_180 (a := 0) (b := 7) (by decide +kernel) rfl
theorem d_Mod_wet_26 : decode b_Mod_wet 26 = .ok (.bipush 64, 2) := dc_16 (a := 64) (by decide +kernel) rfl
theorem d_Mod_wet_28 : decode b_Mod_wet 28 = .ok (.iload_n 1, 1) := dc_27 (by decide +kernel)
theorem d_Mod_wet_29 : decode b_Mod_wet 29 = .ok (.iadd, 1) := dc_96 (by decide +kernel)
theorem d_Mod_wet_30 : decode b_Mod_wet 30 = .ok (.iaload, 1) := dc_46 (by decide +kernel)
theorem d_Mod_wet_31 : decode b_Mod_wet 31 = .ok (.ifCond .le 8, 3) := dc_158 (a := 0) (b := 8) (by decide +kernel) rfl
theorem d_Mod_wet_34 : decode b_Mod_wet 34 = .ok (.bipush (-2), 2) := dc_16 (a := 254) (by decide +kernel) rfl
theorem d_Mod_wet_36 : decode b_Mod_wet 36 = .ok (.goto 11, 3) := dc_167 (a := 0) (b := 11) (by decide +kernel) rfl
theorem d_Mod_wet_39 : decode b_Mod_wet 39 = .ok (.aload_n 0, 1) := dc_42 (by decide +kernel)
theorem d_Mod_wet_40 : decode b_Mod_wet 40 = .ok (.iconst 0, 1) := dc_3 (by decide +kernel)
theorem d_Mod_wet_41 : decode b_Mod_wet 41 = .ok (.iload_n 1, 1) := dc_27 (by decide +kernel)
theorem d_Mod_wet_42 : decode b_Mod_wet 42 = .ok (.iadd, 1) := dc_96 (by decide +kernel)
theorem d_Mod_wet_43 : decode b_Mod_wet 43 = .ok (.iload_n 2, 1) := dc_28 (by decide +kernel)
theorem d_Mod_wet_44 : decode b_Mod_wet 44 = .ok (.invokevirtual 210, 3) := dc_182 (a := 0) (b := 210) (by decide +kernel) rfl
theorem d_Mod_wet_47 : decode b_Mod_wet 47 = .ok (.ireturn, 1) := dc_172 (by decide +kernel)
theorem d_Mod_iron_0 : decode b_Mod_iron 0 = .ok (.aload_n 0, 1) := dc_42 (by decide +kernel)
theorem d_Mod_iron_1 : decode b_Mod_iron 1 = .ok (.iload_n 1, 1) := dc_27 (by decide +kernel)
theorem d_Mod_iron_2 : decode b_Mod_iron 2 = .ok (.invokevirtual 200, 3) := dc_182 (a := 0) (b := 200) (by decide +kernel) rfl
theorem d_Mod_iron_5 : decode b_Mod_iron 5 = .ok (.ifCond .eq 18, 3) := dc_153 (a := 0) (b := 18) (by decide +kernel) rfl
theorem d_Mod_iron_8 : decode b_Mod_iron 8 = .ok (.aload_n 0, 1) := dc_42 (by decide +kernel)
theorem d_Mod_iron_9 : decode b_Mod_iron 9 = .ok (.bipush 16, 2) := dc_16 (a := 16) (by decide +kernel) rfl
theorem d_Mod_iron_11 : decode b_Mod_iron 11 = .ok (.iload_n 1, 1) := dc_27 (by decide +kernel)
theorem d_Mod_iron_12 : decode b_Mod_iron 12 = .ok (.iadd, 1) := dc_96 (by decide +kernel)
theorem d_Mod_iron_13 : decode b_Mod_iron 13 = .ok (.iload_n 2, 1) := dc_28 (by decide +kernel)
theorem d_Mod_iron_14 : decode b_Mod_iron 14 = .ok (.invokestatic 196, 3) := dc_184 (a := 0) (b := 196) (by decide +kernel) rfl
theorem d_Mod_iron_17 : decode b_Mod_iron 17 = .ok (.invokevirtual 210, 3) := dc_182 (a := 0) (b := 210) (by decide +kernel) rfl
theorem d_Mod_iron_20 : decode b_Mod_iron 20 = .ok (.goto 4, 3) := dc_167 (a := 0) (b := 4) (by decide +kernel) rfl
theorem d_Mod_iron_23 : decode b_Mod_iron 23 = .ok (.iconst (-1), 1) := dc_2 (by decide +kernel)
theorem d_Mod_iron_24 : decode b_Mod_iron 24 = .ok (.ireturn, 1) := dc_172 (by decide +kernel)
theorem d_Mod_odd_0 : decode b_Mod_odd 0 = .ok (.aload_n 0, 1) := dc_42 (by decide +kernel)
theorem d_Mod_odd_1 : decode b_Mod_odd 1 = .ok (.iload_n 1, 1) := dc_27 (by decide +kernel)
theorem d_Mod_odd_2 : decode b_Mod_odd 2 = .ok (.invokevirtual 200, 3) := dc_182 (a := 0) (b := 200) (by decide +kernel) rfl
theorem d_Mod_odd_5 : decode b_Mod_odd 5 = .ok (.ifCond .eq 27, 3) := dc_153 (a := 0) (b := 27) (by decide +kernel) rfl
theorem d_Mod_odd_8 : decode b_Mod_odd 8 = .ok (.iload_n 2, 1) := dc_28 (by decide +kernel)
theorem d_Mod_odd_9 : decode b_Mod_odd 9 = .ok (.i2l, 1) := dc_133 (by decide +kernel)
theorem d_Mod_odd_10 : decode b_Mod_odd 10 = .ok (.lconst 0, 1) := dc_9 (by decide +kernel)
theorem d_Mod_odd_11 : decode b_Mod_odd 11 = .ok (.ldc2_w 213, 3) := dc_20 (a := 0) (b := 213) (by decide +kernel) rfl
theorem d_Mod_odd_14 : decode b_Mod_odd 14 = .ok (.invokestatic 95, 3) := dc_184 (a := 0) (b := 95) (by decide +kernel) rfl
theorem d_Mod_odd_17 : decode b_Mod_odd 17 = .ok (.ifCond .eq 15, 3) := dc_153 (a := 0) (b := 15) (by decide +kernel) rfl
theorem d_Mod_odd_20 : decode b_Mod_odd 20 = .ok (.aload_n 0, 1) := dc_42 (by decide +kernel)
theorem d_Mod_odd_21 : decode b_Mod_odd 21 = .ok (.bipush 32, 2) := dc_16 (a := 32) (by decide +kernel) rfl
theorem d_Mod_odd_23 : decode b_Mod_odd 23 = .ok (.iload_n 1, 1) := dc_27 (by decide +kernel)
theorem d_Mod_odd_24 : decode b_Mod_odd 24 = .ok (.iadd, 1) := dc_96 (by decide +kernel)
theorem d_Mod_odd_25 : decode b_Mod_odd 25 = .ok (.iload_n 2, 1) := dc_28 (by decide +kernel)
theorem d_Mod_odd_26 : decode b_Mod_odd 26 = .ok (.invokevirtual 210, 3) := dc_182 (a := 0) (b := 210) (by decide +kernel) rfl
theorem d_Mod_odd_29 : decode b_Mod_odd 29 = .ok (.goto 4, 3) := dc_167 (a := 0) (b := 4) (by decide +kernel) rfl
theorem d_Mod_odd_32 : decode b_Mod_odd 32 = .ok (.iconst (-1), 1) := dc_2 (by decide +kernel)
theorem d_Mod_odd_33 : decode b_Mod_odd 33 = .ok (.ireturn, 1) := dc_172 (by decide +kernel)
theorem d_Mod_claim_0 : decode b_Mod_claim 0 = .ok (.aload_n 0, 1) := dc_42 (by decide +kernel)
theorem d_Mod_claim_1 : decode b_Mod_claim 1 = .ok (.iload_n 1, 1) := dc_27 (by decide +kernel)
theorem d_Mod_claim_2 : decode b_Mod_claim 2 = .ok (.invokevirtual 200, 3) := dc_182 (a := 0) (b := 200) (by decide +kernel) rfl
theorem d_Mod_claim_5 : decode b_Mod_claim 5 = .ok (.ifCond .eq 28, 3) := dc_153 (a := 0) (b := 28) (by decide +kernel) rfl
theorem d_Mod_claim_8 : decode b_Mod_claim 8 = .ok (.iload_n 2, 1) := dc_28 (by decide +kernel)
theorem d_Mod_claim_9 : decode b_Mod_claim 9 = .ok (.bipush (-4), 2) := dc_16 (a := 252) (by decide +kernel) rfl
theorem d_Mod_claim_11 : decode b_Mod_claim 11 = .ok (.if_icmp .eq 10, 3) := dc_159 (a := 0) (b := 10) (by decide +kernel) rfl
theorem d_Mod_claim_14 : decode b_Mod_claim 14 = .ok (.iload_n 2, 1) := dc_28 (by decide +kernel)
theorem d_Mod_claim_15 : decode b_Mod_claim 15 = .ok (.invokestatic 205, 3) := dc_184 (a := 0) (b := 205) (by decide +kernel) rfl
theorem d_Mod_claim_18 : decode b_Mod_claim 18 = .ok (.ifCond .eq 15, 3) := dc_153 (a := 0) (b := 15) (by decide +kernel) rfl
theorem d_Mod_claim_21 : decode b_Mod_claim 21 = .ok (.aload_n 0, 1) := dc_42 (by decide +kernel)
theorem d_Mod_claim_22 : decode b_Mod_claim 22 = .ok (.bipush 48, 2) := dc_16 (a := 48) (by decide +kernel) rfl
theorem d_Mod_claim_24 : decode b_Mod_claim 24 = .ok (.iload_n 1, 1) := dc_27 (by decide +kernel)
theorem d_Mod_claim_25 : decode b_Mod_claim 25 = .ok (.iadd, 1) := dc_96 (by decide +kernel)
theorem d_Mod_claim_26 : decode b_Mod_claim 26 = .ok (.iload_n 2, 1) := dc_28 (by decide +kernel)
theorem d_Mod_claim_27 : decode b_Mod_claim 27 = .ok (.invokevirtual 210, 3) := dc_182 (a := 0) (b := 210) (by decide +kernel) rfl
theorem d_Mod_claim_30 : decode b_Mod_claim 30 = .ok (.goto 4, 3) := dc_167 (a := 0) (b := 4) (by decide +kernel) rfl
theorem d_Mod_claim_33 : decode b_Mod_claim 33 = .ok (.iconst (-1), 1) := dc_2 (by decide +kernel)
theorem d_Mod_claim_34 : decode b_Mod_claim 34 = .ok (.ireturn, 1) := dc_172 (by decide +kernel)
theorem d_Mod_fund_0 : decode b_Mod_fund 0 = .ok (.iload_n 1, 1) := dc_27 (by decide +kernel)
theorem d_Mod_fund_1 : decode b_Mod_fund 1 = .ok (.invokestatic 205, 3) := dc_184 (a := 0) (b := 205) (by decide +kernel) rfl
theorem d_Mod_fund_4 : decode b_Mod_fund 4 = .ok (.ifCond .eq 27, 3) := dc_153 (a := 0) (b := 27) (by decide +kernel) rfl
theorem d_Mod_fund_7 : decode b_Mod_fund 7 = .ok (.iload_n 2, 1) := dc_28 (by decide +kernel)
theorem d_Mod_fund_8 : decode b_Mod_fund 8 = .ok (.i2l, 1) := dc_133 (by decide +kernel)
theorem d_Mod_fund_9 : decode b_Mod_fund 9 = .ok (.lconst 0, 1) := dc_9 (by decide +kernel)
theorem d_Mod_fund_10 : decode b_Mod_fund 10 = .ok (.ldc2_w 215, 3) := dc_20 (a := 0) (b := 215) (by decide +kernel) rfl
theorem d_Mod_fund_13 : decode b_Mod_fund 13 = .ok (.invokestatic 95, 3) := dc_184 (a := 0) (b := 95) (by decide +kernel) rfl
theorem d_Mod_fund_16 : decode b_Mod_fund 16 = .ok (.ifCond .eq 15, 3) := dc_153 (a := 0) (b := 15) (by decide +kernel) rfl
theorem d_Mod_fund_19 : decode b_Mod_fund 19 = .ok (.aload_n 0, 1) := dc_42 (by decide +kernel)
theorem d_Mod_fund_20 : decode b_Mod_fund 20 = .ok (.bipush 80, 2) := dc_16 (a := 80) (by decide +kernel) rfl
theorem d_Mod_fund_22 : decode b_Mod_fund 22 = .ok (.iload_n 1, 1) := dc_27 (by decide +kernel)
theorem d_Mod_fund_23 : decode b_Mod_fund 23 = .ok (.iadd, 1) := dc_96 (by decide +kernel)
theorem d_Mod_fund_24 : decode b_Mod_fund 24 = .ok (.iload_n 2, 1) := dc_28 (by decide +kernel)
theorem d_Mod_fund_25 : decode b_Mod_fund 25 = .ok (.invokevirtual 210, 3) := dc_182 (a := 0) (b := 210) (by decide +kernel) rfl
theorem d_Mod_fund_28 : decode b_Mod_fund 28 = .ok (.goto 4, 3) := dc_167 (a := 0) (b := 4) (by decide +kernel) rfl
theorem d_Mod_fund_31 : decode b_Mod_fund 31 = .ok (.iconst (-1), 1) := dc_2 (by decide +kernel)
theorem d_Mod_fund_32 : decode b_Mod_fund 32 = .ok (.ireturn, 1) := dc_172 (by decide +kernel)
theorem d_Mod_cut_0 : decode b_Mod_cut 0 = .ok (.iload_n 1, 1) := dc_27 (by decide +kernel)
theorem d_Mod_cut_1 : decode b_Mod_cut 1 = .ok (.i2l, 1) := dc_133 (by decide +kernel)
theorem d_Mod_cut_2 : decode b_Mod_cut 2 = .ok (.lconst 0, 1) := dc_9 (by decide +kernel)
theorem d_Mod_cut_3 : decode b_Mod_cut 3 = .ok (.ldc2_w 217, 3) := dc_20 (a := 0) (b := 217) (by decide +kernel) rfl
theorem d_Mod_cut_6 : decode b_Mod_cut 6 = .ok (.invokestatic 95, 3) := dc_184 (a := 0) (b := 95) (by decide +kernel) rfl
theorem d_Mod_cut_9 : decode b_Mod_cut 9 = .ok (.ifCond .eq 15, 3) := dc_153 (a := 0) (b := 15) (by decide +kernel) rfl
theorem d_Mod_cut_12 : decode b_Mod_cut 12 = .ok (.iload_n 2, 1) := dc_28 (by decide +kernel)
theorem d_Mod_cut_13 : decode b_Mod_cut 13 = .ok (.i2l, 1) := dc_133 (by decide +kernel)
theorem d_Mod_cut_14 : decode b_Mod_cut 14 = .ok (.lconst 1, 1) := dc_10 (by decide +kernel)
theorem d_Mod_cut_15 : decode b_Mod_cut 15 = .ok (.ldc2_w 208, 3) := dc_20 (a := 0) (b := 208) (by decide +kernel) rfl
theorem d_Mod_cut_18 : decode b_Mod_cut 18 = .ok (.invokestatic 95, 3) := dc_184 (a := 0) (b := 95) (by decide +kernel) rfl
theorem d_Mod_cut_21 : decode b_Mod_cut 21 = .ok (.ifCond .ne 5, 3) := dc_154 (a := 0) (b := 5) (by decide +kernel) rfl
theorem d_Mod_cut_24 : decode b_Mod_cut 24 = .ok (.iconst (-1), 1) := dc_2 (by decide +kernel)
theorem d_Mod_cut_25 : decode b_Mod_cut 25 = .ok (.ireturn, 1) := dc_172 (by decide +kernel)
theorem d_Mod_cut_26 : decode b_Mod_cut 26 = .ok (.aload_n 0, 1) := dc_42 (by decide +kernel)
theorem d_Mod_cut_27 : decode b_Mod_cut 27 = .ok (.getfield 7, 3) := dc_180 (a := 0) (b := 7) (by decide +kernel) rfl
theorem d_Mod_cut_30 : decode b_Mod_cut 30 = .ok (.bipush 85, 2) := dc_16 (a := 85) (by decide +kernel) rfl
theorem d_Mod_cut_32 : decode b_Mod_cut 32 = .ok (.iload_n 2, 1) := dc_28 (by decide +kernel)
theorem d_Mod_cut_33 : decode b_Mod_cut 33 = .ok (.iastore, 1) := dc_79 (by decide +kernel)
theorem d_Mod_cut_34 : decode b_Mod_cut 34 = .ok (.aload_n 0, 1) := dc_42 (by decide +kernel)
theorem d_Mod_cut_35 : decode b_Mod_cut 35 = .ok (.bipush 84, 2) := dc_16 (a := 84) (by decide +kernel) rfl
theorem d_Mod_cut_37 : decode b_Mod_cut 37 = .ok (.iload_n 1, 1) := dc_27 (by decide +kernel)
theorem d_Mod_cut_38 : decode b_Mod_cut 38 = .ok (.invokevirtual 210, 3) := dc_182 (a := 0) (b := 210) (by decide +kernel) rfl
theorem d_Mod_cut_41 : decode b_Mod_cut 41 = .ok (.ireturn, 1) := dc_172 (by decide +kernel)
theorem d_Mod_owe_0 : decode b_Mod_owe 0 = .ok (.iload_n 1, 1) := dc_27 (by decide +kernel)
theorem d_Mod_owe_1 : decode b_Mod_owe 1 = .ok (.invokestatic 205, 3) := dc_184 (a := 0) (b := 205) (by decide +kernel) rfl
theorem d_Mod_owe_4 : decode b_Mod_owe 4 = .ok (.ifCond .eq 27, 3) := dc_153 (a := 0) (b := 27) (by decide +kernel) rfl
theorem d_Mod_owe_7 : decode b_Mod_owe 7 = .ok (.iload_n 2, 1) := dc_28 (by decide +kernel)
theorem d_Mod_owe_8 : decode b_Mod_owe 8 = .ok (.invokestatic 205, 3) := dc_184 (a := 0) (b := 205) (by decide +kernel) rfl
theorem d_Mod_owe_11 : decode b_Mod_owe 11 = .ok (.ifCond .eq 20, 3) := dc_153 (a := 0) (b := 20) (by decide +kernel) rfl
theorem d_Mod_owe_14 : decode b_Mod_owe 14 = .ok (.iload_n 1, 1) := dc_27 (by decide +kernel)
theorem d_Mod_owe_15 : decode b_Mod_owe 15 = .ok (.iload_n 2, 1) := dc_28 (by decide +kernel)
theorem d_Mod_owe_16 : decode b_Mod_owe 16 = .ok (.if_icmp .eq 15, 3) := dc_159 (a := 0) (b := 15) (by decide +kernel) rfl
theorem d_Mod_owe_19 : decode b_Mod_owe 19 = .ok (.iload_n 3, 1) := dc_29 (by decide +kernel)
theorem d_Mod_owe_20 : decode b_Mod_owe 20 = .ok (.i2l, 1) := dc_133 (by decide +kernel)
theorem d_Mod_owe_21 : decode b_Mod_owe 21 = .ok (.lconst 1, 1) := dc_10 (by decide +kernel)
theorem d_Mod_owe_22 : decode b_Mod_owe 22 = .ok (.ldc2_w 219, 3) := dc_20 (a := 0) (b := 219) (by decide +kernel) rfl
theorem d_Mod_owe_25 : decode b_Mod_owe 25 = .ok (.invokestatic 95, 3) := dc_184 (a := 0) (b := 95) (by decide +kernel) rfl
theorem d_Mod_owe_28 : decode b_Mod_owe 28 = .ok (.ifCond .ne 5, 3) := dc_154 (a := 0) (b := 5) (by decide +kernel) rfl
theorem d_Mod_owe_31 : decode b_Mod_owe 31 = .ok (.iconst (-1), 1) := dc_2 (by decide +kernel)
theorem d_Mod_owe_32 : decode b_Mod_owe 32 = .ok (.ireturn, 1) := dc_172 (by decide +kernel)
theorem d_Mod_owe_33 : decode b_Mod_owe 33 = .ok (.aload_n 0, 1) := dc_42 (by decide +kernel)
theorem d_Mod_owe_34 : decode b_Mod_owe 34 = .ok (.getfield 7, 3) := dc_180 (a := 0) (b := 7) (by decide +kernel) rfl
theorem d_Mod_owe_37 : decode b_Mod_owe 37 = .ok (.bipush 86, 2) := dc_16 (a := 86) (by decide +kernel) rfl
theorem d_Mod_owe_39 : decode b_Mod_owe 39 = .ok (.iaload, 1) := dc_46 (by decide +kernel)
theorem d_Mod_owe_40 : decode b_Mod_owe 40 = .ok (.bipush 8, 2) := dc_16 (a := 8) (by decide +kernel) rfl
theorem d_Mod_owe_42 : decode b_Mod_owe 42 = .ok (.if_icmp .ne 6, 3) := dc_160 (a := 0) (b := 6) (by decide +kernel) rfl
theorem d_Mod_owe_45 : decode b_Mod_owe 45 = .ok (.bipush (-3), 2) := dc_16 (a := 253) (by decide +kernel) rfl
theorem d_Mod_owe_47 : decode b_Mod_owe 47 = .ok (.ireturn, 1) := dc_172 (by decide +kernel)
theorem d_Mod_owe_48 : decode b_Mod_owe 48 = .ok (.bipush 87, 2) := dc_16 (a := 87) (by decide +kernel) rfl
theorem d_Mod_owe_50 : decode b_Mod_owe 50 = .ok (.iconst 3, 1) := dc_6 (by decide +kernel)
theorem d_Mod_owe_51 : decode b_Mod_owe 51 = .ok (.aload_n 0, 1) := dc_42 (by decide +kernel)
theorem d_Mod_owe_52 : decode b_Mod_owe 52 = .ok (.getfield 7, 3) := dc_180 (a := 0) (b := 7) (by decide +kernel) rfl
theorem d_Mod_owe_55 : decode b_Mod_owe 55 = .ok (.bipush 86, 2) := dc_16 (a := 86) (by decide +kernel) rfl
theorem d_Mod_owe_57 : decode b_Mod_owe 57 = .ok (.iaload, 1) := dc_46 (by decide +kernel)
theorem d_Mod_owe_58 : decode b_Mod_owe 58 = .ok (.imul, 1) := dc_104 (by decide +kernel)
theorem d_Mod_owe_59 : decode b_Mod_owe 59 = .ok (.iadd, 1) := dc_96 (by decide +kernel)
theorem d_Mod_owe_60 : decode b_Mod_owe 60 = .ok (.istore 4, 2) := dc_54 (a := 4) (by decide +kernel) rfl
theorem d_Mod_owe_62 : decode b_Mod_owe 62 = .ok (.aload_n 0, 1) := dc_42 (by decide +kernel)
theorem d_Mod_owe_63 : decode b_Mod_owe 63 = .ok (.getfield 7, 3) := dc_180 (a := 0) (b := 7) (by decide +kernel) rfl
theorem d_Mod_owe_66 : decode b_Mod_owe 66 = .ok (.iload 4, 2) := dc_21 (a := 4) (by decide +kernel) rfl
theorem d_Mod_owe_68 : decode b_Mod_owe 68 = .ok (.iload_n 1, 1) := dc_27 (by decide +kernel)
theorem d_Mod_owe_69 : decode b_Mod_owe 69 = .ok (.iastore, 1) := dc_79 (by decide +kernel)
theorem d_Mod_owe_70 : decode b_Mod_owe 70 = .ok (.aload_n 0, 1) := dc_42 (by decide +kernel)
theorem d_Mod_owe_71 : decode b_Mod_owe 71 = .ok (.getfield 7, 3) := dc_180 (a := 0) (b := 7) (by decide +kernel) rfl
theorem d_Mod_owe_74 : decode b_Mod_owe 74 = .ok (.iload 4, 2) := dc_21 (a := 4) (by decide +kernel) rfl
theorem d_Mod_owe_76 : decode b_Mod_owe 76 = .ok (.iconst 1, 1) := dc_4 (by decide +kernel)
theorem d_Mod_owe_77 : decode b_Mod_owe 77 = .ok (.iadd, 1) := dc_96 (by decide +kernel)
theorem d_Mod_owe_78 : decode b_Mod_owe 78 = .ok (.iload_n 2, 1) := dc_28 (by decide +kernel)
theorem d_Mod_owe_79 : decode b_Mod_owe 79 = .ok (.iastore, 1) := dc_79 (by decide +kernel)
theorem d_Mod_owe_80 : decode b_Mod_owe 80 = .ok (.aload_n 0, 1) := dc_42 (by decide +kernel)
theorem d_Mod_owe_81 : decode b_Mod_owe 81 = .ok (.getfield 7, 3) := dc_180 (a := 0) (b := 7) (by decide +kernel) rfl
theorem d_Mod_owe_84 : decode b_Mod_owe 84 = .ok (.iload 4, 2) := dc_21 (a := 4) (by decide +kernel) rfl
theorem d_Mod_owe_86 : decode b_Mod_owe 86 = .ok (.iconst 2, 1) := dc_5 (by decide +kernel)
theorem d_Mod_owe_87 : decode b_Mod_owe 87 = .ok (.iadd, 1) := dc_96 (by decide +kernel)
theorem d_Mod_owe_88 : decode b_Mod_owe 88 = .ok (.iload_n 3, 1) := dc_29 (by decide +kernel)
theorem d_Mod_owe_89 : decode b_Mod_owe 89 = .ok (.iastore, 1) := dc_79 (by decide +kernel)
theorem d_Mod_owe_90 : decode b_Mod_owe 90 = .ok (.aload_n 0, 1) := dc_42 (by decide +kernel)
theorem d_Mod_owe_91 : decode b_Mod_owe 91 = .ok (.getfield 7, 3) := dc_180 (a := 0) (b := 7) (by decide +kernel) rfl
theorem d_Mod_owe_94 : decode b_Mod_owe 94 = .ok (.bipush 86, 2) := dc_16 (a := 86) (by decide +kernel) rfl
theorem d_Mod_owe_96 : decode b_Mod_owe 96 = .ok (.dup2, 1) := dc_92 (by decide +kernel)
theorem d_Mod_owe_97 : decode b_Mod_owe 97 = .ok (.iaload, 1) := dc_46 (by decide +kernel)
theorem d_Mod_owe_98 : decode b_Mod_owe 98 = .ok (.iconst 1, 1) := dc_4 (by decide +kernel)
theorem d_Mod_owe_99 : decode b_Mod_owe 99 = .ok (.iadd, 1) := dc_96 (by decide +kernel)
theorem d_Mod_owe_100 : decode b_Mod_owe 100 = .ok (.iastore, 1) := dc_79 (by decide +kernel)
theorem d_Mod_owe_101 : decode b_Mod_owe 101 = .ok (.aload_n 0, 1) := dc_42 (by decide +kernel)
theorem d_Mod_owe_102 : decode b_Mod_owe 102 = .ok (.getfield 7, 3) := dc_180 (a := 0) (b := 7) (by decide +kernel) rfl
theorem d_Mod_owe_105 : decode b_Mod_owe 105 = .ok (.bipush 86, 2) := dc_16 (a := 86) (by decide +kernel) rfl
theorem d_Mod_owe_107 : decode b_Mod_owe 107 = .ok (.iaload, 1) := dc_46 (by decide +kernel)
theorem d_Mod_owe_108 : decode b_Mod_owe 108 = .ok (.ireturn, 1) := dc_172 (by decide +kernel)
theorem d_Mod_pay_0 : decode b_Mod_pay 0 = .ok (.iload_n 1, 1) := dc_27 (by decide +kernel)
theorem d_Mod_pay_1 : decode b_Mod_pay 1 = .ok (.i2l, 1) := dc_133 (by decide +kernel)
theorem d_Mod_pay_2 : decode b_Mod_pay 2 = .ok (.lconst 0, 1) := dc_9 (by decide +kernel)
theorem d_Mod_pay_3 : decode b_Mod_pay 3 = .ok (.aload_n 0, 1) := dc_42 (by decide +kernel)
theorem d_Mod_pay_4 : decode b_Mod_pay 4 = .ok (.getfield 7, 3) := dc_180 (a := 0) (b := 7) (by decide +kernel) rfl
theorem d_Mod_pay_7 : decode b_Mod_pay 7 = .ok (.bipush 86, 2) := dc_16 (a := 86) (by decide +kernel) rfl
theorem d_Mod_pay_9 : decode b_Mod_pay 9 = .ok (.iaload, 1) := dc_46 (by decide +kernel)
theorem d_Mod_pay_10 : decode b_Mod_pay 10 = .ok (.i2l, 1) := dc_133 (by decide +kernel)
theorem d_Mod_pay_11 : decode b_Mod_pay 11 = .ok (.invokestatic 95, 3) := dc_184 (a := 0) (b := 95) (by decide +kernel) rfl
theorem d_Mod_pay_14 : decode b_Mod_pay 14 = .ok (.ifCond .eq 13, 3) := dc_153 (a := 0) (b := 13) (by decide +kernel) rfl
theorem d_Mod_pay_17 : decode b_Mod_pay 17 = .ok (.aload_n 0, 1) := dc_42 (by decide +kernel)
theorem d_Mod_pay_18 : decode b_Mod_pay 18 = .ok (.bipush 86, 2) := dc_16 (a := 86) (by decide +kernel) rfl
theorem d_Mod_pay_20 : decode b_Mod_pay 20 = .ok (.iload_n 1, 1) := dc_27 (by decide +kernel)
theorem d_Mod_pay_21 : decode b_Mod_pay 21 = .ok (.invokevirtual 210, 3) := dc_182 (a := 0) (b := 210) (by decide +kernel) rfl
theorem d_Mod_pay_24 : decode b_Mod_pay 24 = .ok (.goto 4, 3) := dc_167 (a := 0) (b := 4) (by decide +kernel) rfl
theorem d_Mod_pay_27 : decode b_Mod_pay 27 = .ok (.iconst (-1), 1) := dc_2 (by decide +kernel)
theorem d_Mod_pay_28 : decode b_Mod_pay 28 = .ok (.ireturn, 1) := dc_172 (by decide +kernel)
theorem d_Mod_rain_0 : decode b_Mod_rain 0 = .ok (.iload_n 1, 1) := dc_27 (by decide +kernel)
theorem d_Mod_rain_1 : decode b_Mod_rain 1 = .ok (.i2l, 1) := dc_133 (by decide +kernel)
theorem d_Mod_rain_2 : decode b_Mod_rain 2 = .ok (.lconst 0, 1) := dc_9 (by decide +kernel)
theorem d_Mod_rain_3 : decode b_Mod_rain 3 = .ok (.ldc2_w 221, 3) := dc_20 (a := 0) (b := 221) (by decide +kernel) rfl
theorem d_Mod_rain_6 : decode b_Mod_rain 6 = .ok (.invokestatic 95, 3) := dc_184 (a := 0) (b := 95) (by decide +kernel) rfl
theorem d_Mod_rain_9 : decode b_Mod_rain 9 = .ok (.ifCond .ne 5, 3) := dc_154 (a := 0) (b := 5) (by decide +kernel) rfl
theorem d_Mod_rain_12 : decode b_Mod_rain 12 = .ok (.iconst (-1), 1) := dc_2 (by decide +kernel)
theorem d_Mod_rain_13 : decode b_Mod_rain 13 = .ok (.ireturn, 1) := dc_172 (by decide +kernel)
theorem d_Mod_rain_14 : decode b_Mod_rain 14 = .ok (.iconst 0, 1) := dc_3 (by decide +kernel)
theorem d_Mod_rain_15 : decode b_Mod_rain 15 = .ok (.istore_n 2, 1) := dc_61 (by decide +kernel)
theorem d_Mod_rain_16 : decode b_Mod_rain 16 = .ok (.iload_n 2, 1) := dc_28 (by decide +kernel)
theorem d_Mod_rain_17 : decode b_Mod_rain 17 = .ok (.aload_n 0, 1) := dc_42 (by decide +kernel)
theorem d_Mod_rain_18 : decode b_Mod_rain 18 = .ok (.invokevirtual 183, 3) := dc_182 (a := 0) (b := 183) (by decide +kernel) rfl
theorem d_Mod_rain_21 : decode b_Mod_rain 21 = .ok (.if_icmp .ge 48, 3) := dc_162 (a := 0) (b := 48) (by decide +kernel) rfl
theorem d_Mod_rain_24 : decode b_Mod_rain 24 = .ok (.aload_n 0, 1) := dc_42 (by decide +kernel)
theorem d_Mod_rain_25 : decode b_Mod_rain 25 = .ok (.getfield 7, 3) := dc_180 (a := 0) (b := 7) (by decide +kernel) rfl
theorem d_Mod_rain_28 : decode b_Mod_rain 28 = .ok (.iconst 0, 1) := dc_3 (by decide +kernel)
theorem d_Mod_rain_29 : decode b_Mod_rain 29 = .ok (.iload_n 2, 1) := dc_28 (by decide +kernel)
theorem d_Mod_rain_30 : decode b_Mod_rain 30 = .ok (.iadd, 1) := dc_96 (by decide +kernel)
theorem d_Mod_rain_31 : decode b_Mod_rain 31 = .ok (.iaload, 1) := dc_46 (by decide +kernel)
theorem d_Mod_rain_32 : decode b_Mod_rain 32 = .ok (.istore_n 3, 1) := dc_62 (by decide +kernel)
theorem d_Mod_rain_33 : decode b_Mod_rain 33 = .ok (.aload_n 0, 1) := dc_42 (by decide +kernel)
theorem d_Mod_rain_34 : decode b_Mod_rain 34 = .ok (.getfield 7, 3) := dc_180 (a := 0) (b := 7) (by decide +kernel) rfl
theorem d_Mod_rain_37 : decode b_Mod_rain 37 = .ok (.iconst 0, 1) := dc_3 (by decide +kernel)
theorem d_Mod_rain_38 : decode b_Mod_rain 38 = .ok (.iload_n 2, 1) := dc_28 (by decide +kernel)
theorem d_Mod_rain_39 : decode b_Mod_rain 39 = .ok (.iadd, 1) := dc_96 (by decide +kernel)
theorem d_Mod_rain_40 : decode b_Mod_rain 40 = .ok (.iload_n 3, 1) := dc_29 (by decide +kernel)
theorem d_Mod_rain_41 : decode b_Mod_rain 41 = .ok (.ifCond .ne 7, 3) := dc_154 (a := 0) (b := 7) (by decide +kernel) rfl
theorem d_Mod_rain_44 : decode b_Mod_rain 44 = .ok (.iconst 0, 1) := dc_3 (by decide +kernel)
theorem d_Mod_rain_45 : decode b_Mod_rain 45 = .ok (.goto 17, 3) := dc_167 (a := 0) (b := 17) (by decide +kernel) rfl
theorem d_Mod_rain_48 : decode b_Mod_rain 48 = .ok (.iload_n 3, 1) := dc_29 (by decide +kernel)
theorem d_Mod_rain_49 : decode b_Mod_rain 49 = .ok (.iload_n 1, 1) := dc_27 (by decide +kernel)
theorem d_Mod_rain_50 : decode b_Mod_rain 50 = .ok (.isub, 1) := dc_100 (by decide +kernel)
theorem d_Mod_rain_51 : decode b_Mod_rain 51 = .ok (.iconst 1, 1) := dc_4 (by decide +kernel)
theorem d_Mod_rain_52 : decode b_Mod_rain 52 = .ok (.if_icmp .ge 7, 3) := dc_162 (a := 0) (b := 7) (by decide +kernel) rfl
theorem d_Mod_rain_55 : decode b_Mod_rain 55 = .ok (.iconst 1, 1) := dc_4 (by decide +kernel)
theorem d_Mod_rain_56 : decode b_Mod_rain 56 = .ok (.goto 6, 3) := dc_167 (a := 0) (b := 6) (by decide +kernel) rfl
theorem d_Mod_rain_59 : decode b_Mod_rain 59 = .ok (.iload_n 3, 1) := dc_29 (by decide +kernel)
theorem d_Mod_rain_60 : decode b_Mod_rain 60 = .ok (.iload_n 1, 1) := dc_27 (by decide +kernel)
theorem d_Mod_rain_61 : decode b_Mod_rain 61 = .ok (.isub, 1) := dc_100 (by decide +kernel)
theorem d_Mod_rain_62 : decode b_Mod_rain 62 = .ok (.iastore, 1) := dc_79 (by decide +kernel)
theorem d_Mod_rain_63 : decode b_Mod_rain 63 = .ok (.iinc 2 1, 3) := dc_132 (a := 2) (b := 1) (by decide +kernel) rfl
theorem d_Mod_rain_66 : decode b_Mod_rain 66 = .ok (.goto (-50), 3) := dc_167 (a := 255) (b := 206) (by decide +kernel) rfl
theorem d_Mod_rain_69 : decode b_Mod_rain 69 = .ok (.aload_n 0, 1) := dc_42 (by decide +kernel)
theorem d_Mod_rain_70 : decode b_Mod_rain 70 = .ok (.invokevirtual 223, 3) := dc_182 (a := 0) (b := 223) (by decide +kernel) rfl
theorem d_Mod_rain_73 : decode b_Mod_rain 73 = .ok (.ireturn, 1) := dc_172 (by decide +kernel)
theorem d_Mod_doesTwitch_0 : decode b_Mod_doesTwitch 0 = .ok (.aload_n 0, 1) := dc_42 (by decide +kernel)
theorem d_Mod_doesTwitch_1 : decode b_Mod_doesTwitch 1 = .ok (.getfield 7, 3) := dc_180 (a := 0) (b := 7) (by decide +kernel) rfl
theorem d_Mod_doesTwitch_4 : decode b_Mod_doesTwitch 4 = .ok (.iconst 0, 1) := dc_3 (by decide +kernel)
theorem d_Mod_doesTwitch_5 : decode b_Mod_doesTwitch 5 = .ok (.iload_n 3, 1) := dc_29 (by decide +kernel)
theorem d_Mod_doesTwitch_6 : decode b_Mod_doesTwitch 6 = .ok (.iadd, 1) := dc_96 (by decide +kernel)
theorem d_Mod_doesTwitch_7 : decode b_Mod_doesTwitch 7 = .ok (.iaload, 1) := dc_46 (by decide +kernel)
theorem d_Mod_doesTwitch_8 : decode b_Mod_doesTwitch 8 = .ok (.ifCond .le 19, 3) := dc_158 (a := 0) (b := 19) (by decide +kernel) rfl
theorem d_Mod_doesTwitch_11 : decode b_Mod_doesTwitch 11 = .ok (.aload_n 0, 1) := dc_42 (by decide +kernel)
theorem d_Mod_doesTwitch_12 : decode b_Mod_doesTwitch 12 = .ok (.getfield 7, 3) := dc_180 (a := 0) (b := 7) (by decide +kernel) rfl
theorem d_Mod_doesTwitch_15 : decode b_Mod_doesTwitch 15 = .ok (.iconst 0, 1) := dc_3 (by decide +kernel)
theorem d_Mod_doesTwitch_16 : decode b_Mod_doesTwitch 16 = .ok (.iload_n 3, 1) := dc_29 (by decide +kernel)
theorem d_Mod_doesTwitch_17 : decode b_Mod_doesTwitch 17 = .ok (.iadd, 1) := dc_96 (by decide +kernel)
theorem d_Mod_doesTwitch_18 : decode b_Mod_doesTwitch 18 = .ok (.iaload, 1) := dc_46 (by decide +kernel)
theorem d_Mod_doesTwitch_19 : decode b_Mod_doesTwitch 19 = .ok (.iload_n 2, 1) := dc_28 (by decide +kernel)
theorem d_Mod_doesTwitch_20 : decode b_Mod_doesTwitch 20 = .ok (.if_icmp .gt 7, 3) := dc_163 (a := 0) (b := 7) (by decide +kernel) rfl
theorem d_Mod_doesTwitch_23 : decode b_Mod_doesTwitch 23 = .ok (.iconst 1, 1) := dc_4 (by decide +kernel)
theorem d_Mod_doesTwitch_24 : decode b_Mod_doesTwitch 24 = .ok (.goto 4, 3) := dc_167 (a := 0) (b := 4) (by decide +kernel) rfl
theorem d_Mod_doesTwitch_27 : decode b_Mod_doesTwitch 27 = .ok (.iconst 0, 1) := dc_3 (by decide +kernel)
theorem d_Mod_doesTwitch_28 : decode b_Mod_doesTwitch 28 = .ok (.istore 6, 2) := dc_54 (a := 6) (by decide +kernel) rfl
theorem d_Mod_doesTwitch_30 : decode b_Mod_doesTwitch 30 = .ok (.aload_n 0, 1) := dc_42 (by decide +kernel)
theorem d_Mod_doesTwitch_31 : decode b_Mod_doesTwitch 31 = .ok (.getfield 7, 3) := dc_180 (a := 0) (b := 7) (by decide +kernel) rfl
theorem d_Mod_doesTwitch_34 : decode b_Mod_doesTwitch 34 = .ok (.bipush 16, 2) := dc_16 (a := 16) (by decide +kernel) rfl
theorem d_Mod_doesTwitch_36 : decode b_Mod_doesTwitch 36 = .ok (.iload_n 3, 1) := dc_29 (by decide +kernel)
theorem d_Mod_doesTwitch_37 : decode b_Mod_doesTwitch 37 = .ok (.iadd, 1) := dc_96 (by decide +kernel)
theorem d_Mod_doesTwitch_38 : decode b_Mod_doesTwitch 38 = .ok (.iaload, 1) := dc_46 (by decide +kernel)
theorem d_Mod_doesTwitch_39 : decode b_Mod_doesTwitch 39 = .ok (.iconst 1, 1) := dc_4 (by decide +kernel)
theorem d_Mod_doesTwitch_40 : decode b_Mod_doesTwitch 40 = .ok (.if_icmp .ne 7, 3) := dc_160 (a := 0) (b := 7) (by decide +kernel) rfl
theorem d_Mod_doesTwitch_43 : decode b_Mod_doesTwitch 43 = .ok (.iconst 1, 1) := dc_4 (by decide +kernel)
theorem d_Mod_doesTwitch_44 : decode b_Mod_doesTwitch 44 = .ok (.goto 4, 3) := dc_167 (a := 0) (b := 4) (by decide +kernel) rfl
theorem d_Mod_doesTwitch_47 : decode b_Mod_doesTwitch 47 = .ok (.iconst 0, 1) := dc_3 (by decide +kernel)
theorem d_Mod_doesTwitch_48 : decode b_Mod_doesTwitch 48 = .ok (.istore 7, 2) := dc_54 (a := 7) (by decide +kernel) rfl
theorem d_Mod_doesTwitch_50 : decode b_Mod_doesTwitch 50 = .ok (.iload_n 1, 1) := dc_27 (by decide +kernel)
theorem d_Mod_doesTwitch_51 : decode b_Mod_doesTwitch 51 = .ok (.tableswitch 69 0 3 #[29, 32, 35, 49], 29) := by decide +kernel
theorem d_Mod_doesTwitch_80 : decode b_Mod_doesTwitch 80 = .ok (.iload 6, 2) := dc_21 (a := 6) (by decide +kernel) rfl
theorem d_Mod_doesTwitch_82 : decode b_Mod_doesTwitch 82 = .ok (.ireturn, 1) := dc_172 (by decide +kernel)
theorem d_Mod_doesTwitch_83 : decode b_Mod_doesTwitch 83 = .ok (.iload 7, 2) := dc_21 (a := 7) (by decide +kernel) rfl
theorem d_Mod_doesTwitch_85 : decode b_Mod_doesTwitch 85 = .ok (.ireturn, 1) := dc_172 (by decide +kernel)
theorem d_Mod_doesTwitch_86 : decode b_Mod_doesTwitch 86 = .ok (.iload 5, 2) := dc_21 (a := 5) (by decide +kernel) rfl
theorem d_Mod_doesTwitch_88 : decode b_Mod_doesTwitch 88 = .ok (.iconst 2, 1) := dc_5 (by decide +kernel)
theorem d_Mod_doesTwitch_89 : decode b_Mod_doesTwitch 89 = .ok (.irem, 1) := dc_112 (by decide +kernel)
theorem d_Mod_doesTwitch_90 : decode b_Mod_doesTwitch 90 = .ok (.iconst 1, 1) := dc_4 (by decide +kernel)
theorem d_Mod_doesTwitch_91 : decode b_Mod_doesTwitch 91 = .ok (.if_icmp .ne 7, 3) := dc_160 (a := 0) (b := 7) (by decide +kernel) rfl
theorem d_Mod_doesTwitch_94 : decode b_Mod_doesTwitch 94 = .ok (.iconst 1, 1) := dc_4 (by decide +kernel)
theorem d_Mod_doesTwitch_95 : decode b_Mod_doesTwitch 95 = .ok (.goto 4, 3) := dc_167 (a := 0) (b := 4) (by decide +kernel) rfl
theorem d_Mod_doesTwitch_98 : decode b_Mod_doesTwitch 98 = .ok (.iconst 0, 1) := dc_3 (by decide +kernel)
theorem d_Mod_doesTwitch_99 : decode b_Mod_doesTwitch 99 = .ok (.ireturn, 1) := dc_172 (by decide +kernel)
theorem d_Mod_doesTwitch_100 : decode b_Mod_doesTwitch 100 = .ok (.aload_n 0, 1) := dc_42 (by decide +kernel)
theorem d_Mod_doesTwitch_101 : decode b_Mod_doesTwitch 101 = .ok (.getfield 7, 3) := dc_180 (a := 0) (b := 7) (by decide +kernel) rfl
theorem d_Mod_doesTwitch_104 : decode b_Mod_doesTwitch 104 = .ok (.bipush 48, 2) := dc_16 (a := 48) (by decide +kernel) rfl
theorem d_Mod_doesTwitch_106 : decode b_Mod_doesTwitch 106 = .ok (.iload_n 3, 1) := dc_29 (by decide +kernel)
theorem d_Mod_doesTwitch_107 : decode b_Mod_doesTwitch 107 = .ok (.iadd, 1) := dc_96 (by decide +kernel)
theorem d_Mod_doesTwitch_108 : decode b_Mod_doesTwitch 108 = .ok (.iaload, 1) := dc_46 (by decide +kernel)
theorem d_Mod_doesTwitch_109 : decode b_Mod_doesTwitch 109 = .ok (.iload 4, 2) := dc_21 (a := 4) (by decide +kernel) rfl
theorem d_Mod_doesTwitch_111 : decode b_Mod_doesTwitch 111 = .ok (.if_icmp .ne 7, 3) := dc_160 (a := 0) (b := 7) (by decide +kernel) rfl
theorem d_Mod_doesTwitch_114 : decode b_Mod_doesTwitch 114 = .ok (.iconst 1, 1) := dc_4 (by decide +kernel)
theorem d_Mod_doesTwitch_115 : decode b_Mod_doesTwitch 115 = .ok (.goto 4, 3) := dc_167 (a := 0) (b := 4) (by decide +kernel) rfl
theorem d_Mod_doesTwitch_118 : decode b_Mod_doesTwitch 118 = .ok (.iconst 0, 1) := dc_3 (by decide +kernel)
theorem d_Mod_doesTwitch_119 : decode b_Mod_doesTwitch 119 = .ok (.ireturn, 1) := dc_172 (by decide +kernel)
theorem d_Mod_doesTwitch_120 : decode b_Mod_doesTwitch 120 = .ok (.iload 6, 2) := dc_21 (a := 6) (by decide +kernel) rfl
theorem d_Mod_doesTwitch_122 : decode b_Mod_doesTwitch 122 = .ok (.ifCond .ne 8, 3) := dc_154 (a := 0) (b := 8) (by decide +kernel) rfl
theorem d_Mod_doesTwitch_125 : decode b_Mod_doesTwitch 125 = .ok (.iload 7, 2) := dc_21 (a := 7) (by decide +kernel) rfl
theorem d_Mod_doesTwitch_127 : decode b_Mod_doesTwitch 127 = .ok (.ifCond .eq 7, 3) := dc_153 (a := 0) (b := 7) (by decide +kernel) rfl
theorem d_Mod_doesTwitch_130 : decode b_Mod_doesTwitch 130 = .ok (.iconst 1, 1) := dc_4 (by decide +kernel)
theorem d_Mod_doesTwitch_131 : decode b_Mod_doesTwitch 131 = .ok (.goto 4, 3) := dc_167 (a := 0) (b := 4) (by decide +kernel) rfl
theorem d_Mod_doesTwitch_134 : decode b_Mod_doesTwitch 134 = .ok (.iconst 0, 1) := dc_3 (by decide +kernel)
theorem d_Mod_doesTwitch_135 : decode b_Mod_doesTwitch 135 = .ok (.ireturn, 1) := dc_172 (by decide +kernel)
abbrev q_Mod_doesTwitch (h : Hp) (n : Int32) (nZ : Int) (d : Int32) (dZ : Int) (c : Int32) (cZ : Int) (o : Int32) (oZ : Int) (s : Int32) (sZ : Int) : Option Value → Hp → Prop := pInt (fun r h' => h = h' ∧ (r.toInt = 0 ∨ r.toInt = 1))
set_option maxRecDepth 100000 in
theorem c_Mod_doesTwitch (h : Hp) (hI : Inv h) (n : Int32) (nZ : Int) (nE : n.toInt = nZ) (d : Int32) (dZ : Int) (dE : d.toInt = dZ) (c : Int32) (cZ : Int) (cE : c.toInt = cZ) (o : Int32) (oZ : Int) (oE : o.toInt = oZ) (s : Int32) (sZ : Int) (sE : s.toInt = sZ) (hy0 : 0 ≤ cZ ∧ cZ ≤ 15) : Ct y_Mod_doesTwitch b_Mod_doesTwitch 8 (some .boolean) 0 0 [.ref 116, .int n, .int d, .int c, .int o, .int s] h (q_Mod_doesTwitch h n nZ d dZ c cZ o oZ s sZ) := by
  refine ct_ow R_Mod [some (.ref 116), some (.int n), some (.int d), some (.int c), some (.int o), some (.int s), none, none] rfl (by decide) rfl (Nat.le_of_ble_eq_true rfl) ?_
  have f0 : fr [] h h := fr_rf
  have J1 : ∀ (v3 : Int32) (v3Z : Int), v3.toInt = v3Z → 0 ≤ v3Z ∧ v3Z ≤ 1 → V R_Mod b_Mod_doesTwitch 8 (some .boolean) 0 0 (q_Mod_doesTwitch h n nZ d dZ c cZ o oZ s sZ) h 30 [some (.ref 116), some (.int n), some (.int d), some (.int c), some (.int o), some (.int s), some (.int v3), none] [] := by
    intro v3 v3Z v3E q4
    have J5 : ∀ (v7 : Int32) (v7Z : Int), v7.toInt = v7Z → 0 ≤ v7Z ∧ v7Z ≤ 1 → V R_Mod b_Mod_doesTwitch 8 (some .boolean) 0 0 (q_Mod_doesTwitch h n nZ d dZ c cZ o oZ s sZ) h 50 [some (.ref 116), some (.int n), some (.int d), some (.int c), some (.int o), some (.int s), some (.int v3), some (.int v7)] [] := by
      intro v7 v7Z v7E q8
      refine V_iload_n 1 d_Mod_doesTwitch_50 rfl rfl ?_
      rcases (by (first | decide +kernel | omega) : (nZ < 0 ∨ 3 < nZ) ∨ nZ = 0 ∨ nZ = 1 ∨ nZ = 2 ∨ nZ = 3) with c9 | c9 | c9 | c9 | c9
      ·
        refine V_tabOut 120 nE d_Mod_doesTwitch_51 c9 (by decide) ?_
        refine V_iload d_Mod_doesTwitch_120 rfl ?_
        refine V_if_ne 130 v3E d_Mod_doesTwitch_122 (by decide) (fun c10 => ?_) (fun c10 => ?_)
        ·
          refine V_iconst 1 d_Mod_doesTwitch_130 (by decide) ?_
          refine V_goto 135 d_Mod_doesTwitch_131 (by decide) ?_
          exact V_zret rfl (by decide) d_Mod_doesTwitch_135 ⟨1, rfl, ⟨rfl, (by (try rw [show Int32.toInt 1 = 1 from rfl]); omega)⟩⟩
        ·
          refine V_iload d_Mod_doesTwitch_125 rfl ?_
          refine V_if_eq 134 v7E d_Mod_doesTwitch_127 (by decide) (fun c11 => ?_) (fun c11 => ?_)
          ·
            refine V_iconst 0 d_Mod_doesTwitch_134 (by decide) ?_
            exact V_zret rfl (by decide) d_Mod_doesTwitch_135 ⟨0, rfl, ⟨rfl, (by (try rw [show Int32.toInt 0 = 0 from rfl]); omega)⟩⟩
          ·
            refine V_iconst 1 d_Mod_doesTwitch_130 (by decide) ?_
            refine V_goto 135 d_Mod_doesTwitch_131 (by decide) ?_
            exact V_zret rfl (by decide) d_Mod_doesTwitch_135 ⟨1, rfl, ⟨rfl, (by (try rw [show Int32.toInt 1 = 1 from rfl]); omega)⟩⟩
      ·
        refine V_tabIn 80 nE d_Mod_doesTwitch_51 (by (first | decide +kernel | omega)) (by (first | decide +kernel | omega)) (by rw [c9]; rfl) (by decide) ?_
        refine V_iload d_Mod_doesTwitch_80 rfl ?_
        exact V_zret rfl (by rw [v3E]; omega) d_Mod_doesTwitch_82 ⟨v3, rfl, ⟨rfl, (by (try rw [v3E]); omega)⟩⟩
      ·
        refine V_tabIn 83 nE d_Mod_doesTwitch_51 (by (first | decide +kernel | omega)) (by (first | decide +kernel | omega)) (by rw [c9]; rfl) (by decide) ?_
        refine V_iload d_Mod_doesTwitch_83 rfl ?_
        exact V_zret rfl (by rw [v7E]; omega) d_Mod_doesTwitch_85 ⟨v7, rfl, ⟨rfl, (by (try rw [v7E]); omega)⟩⟩
      ·
        refine V_tabIn 86 nE d_Mod_doesTwitch_51 (by (first | decide +kernel | omega)) (by (first | decide +kernel | omega)) (by rw [c9]; rfl) (by decide) ?_
        refine V_iload d_Mod_doesTwitch_86 rfl ?_
        refine V_iconst 2 d_Mod_doesTwitch_88 (by decide) ?_
        refine N_iremg tc_2 (by (first | decide +kernel | omega)) d_Mod_doesTwitch_89 (fun z12 z12Z z12E z12e => ?_)
        refine V_iconst 1 d_Mod_doesTwitch_90 (by decide) ?_
        refine V_icmp_ne 98 z12E tc_1 d_Mod_doesTwitch_91 (by decide) (fun c13 => ?_) (fun c13 => ?_)
        ·
          refine V_iconst 0 d_Mod_doesTwitch_98 (by decide) ?_
          exact V_zret rfl (by decide) d_Mod_doesTwitch_99 ⟨0, rfl, ⟨rfl, (by (try rw [show Int32.toInt 0 = 0 from rfl]); omega)⟩⟩
        ·
          refine V_iconst 1 d_Mod_doesTwitch_94 (by decide) ?_
          refine V_goto 99 d_Mod_doesTwitch_95 (by decide) ?_
          exact V_zret rfl (by decide) d_Mod_doesTwitch_99 ⟨1, rfl, ⟨rfl, (by (try rw [show Int32.toInt 1 = 1 from rfl]); omega)⟩⟩
      ·
        refine V_tabIn 100 nE d_Mod_doesTwitch_51 (by (first | decide +kernel | omega)) (by (first | decide +kernel | omega)) (by rw [c9]; rfl) (by decide) ?_
        refine V_aload_n 0 d_Mod_doesTwitch_100 rfl rfl ?_
        refine V_getR fa_Mod_7 sk_116 rfl d_Mod_doesTwitch_101 ?_
        refine V_bipush 48 d_Mod_doesTwitch_104 (by decide) ?_
        refine V_iload_n 3 d_Mod_doesTwitch_106 rfl rfl ?_
        refine V_iadd tc_48 cE (by (first | decide +kernel | omega)) d_Mod_doesTwitch_107 (fun z14 z14e z14E => ?_)
        refine N_iald sk_117 z14E (by (first | decide +kernel | omega)) d_Mod_doesTwitch_108 (fun z15 z15Z z15E z15e => ?_)
        refine V_iload d_Mod_doesTwitch_109 rfl ?_
        refine V_icmp_ne 118 z15E oE d_Mod_doesTwitch_111 (by decide) (fun c16 => ?_) (fun c16 => ?_)
        ·
          refine V_iconst 0 d_Mod_doesTwitch_118 (by decide) ?_
          exact V_zret rfl (by decide) d_Mod_doesTwitch_119 ⟨0, rfl, ⟨rfl, (by (try rw [show Int32.toInt 0 = 0 from rfl]); omega)⟩⟩
        ·
          refine V_iconst 1 d_Mod_doesTwitch_114 (by decide) ?_
          refine V_goto 119 d_Mod_doesTwitch_115 (by decide) ?_
          exact V_zret rfl (by decide) d_Mod_doesTwitch_119 ⟨1, rfl, ⟨rfl, (by (try rw [show Int32.toInt 1 = 1 from rfl]); omega)⟩⟩
    refine V_aload_n 0 d_Mod_doesTwitch_30 rfl rfl ?_
    refine V_getR fa_Mod_7 sk_116 rfl d_Mod_doesTwitch_31 ?_
    refine V_bipush 16 d_Mod_doesTwitch_34 (by decide) ?_
    refine V_iload_n 3 d_Mod_doesTwitch_36 rfl rfl ?_
    refine V_iadd tc_16 cE (by (first | decide +kernel | omega)) d_Mod_doesTwitch_37 (fun z17 z17e z17E => ?_)
    refine N_iald sk_117 z17E (by (first | decide +kernel | omega)) d_Mod_doesTwitch_38 (fun z18 z18Z z18E z18e => ?_)
    refine V_iconst 1 d_Mod_doesTwitch_39 (by decide) ?_
    refine V_icmp_ne 47 z18E tc_1 d_Mod_doesTwitch_40 (by decide) (fun c19 => ?_) (fun c19 => ?_)
    ·
      refine V_iconst 0 d_Mod_doesTwitch_47 (by decide) ?_
      refine V_istore 7 [some (.ref 116), some (.int n), some (.int d), some (.int c), some (.int o), some (.int s), some (.int v3), some (.int 0)] d_Mod_doesTwitch_48 (by decide) rfl rfl ?_
      exact J5 0 0 tc_0 (by (first | decide +kernel | omega))
    ·
      refine V_iconst 1 d_Mod_doesTwitch_43 (by decide) ?_
      refine V_goto 48 d_Mod_doesTwitch_44 (by decide) ?_
      refine V_istore 7 [some (.ref 116), some (.int n), some (.int d), some (.int c), some (.int o), some (.int s), some (.int v3), some (.int 1)] d_Mod_doesTwitch_48 (by decide) rfl rfl ?_
      exact J5 1 1 tc_1 (by (first | decide +kernel | omega))
  refine V_aload_n 0 d_Mod_doesTwitch_0 rfl rfl ?_
  refine V_getR fa_Mod_7 sk_116 rfl d_Mod_doesTwitch_1 ?_
  refine V_iconst 0 d_Mod_doesTwitch_4 (by decide) ?_
  refine V_iload_n 3 d_Mod_doesTwitch_5 rfl rfl ?_
  refine V_iadd tc_0 cE (by (first | decide +kernel | omega)) d_Mod_doesTwitch_6 (fun z20 z20e z20E => ?_)
  refine N_iald sk_117 z20E (by (first | decide +kernel | omega)) d_Mod_doesTwitch_7 (fun z21 z21Z z21E z21e => ?_)
  refine V_if_le 27 z21E d_Mod_doesTwitch_8 (by decide) (fun c22 => ?_) (fun c22 => ?_)
  ·
    refine V_iconst 0 d_Mod_doesTwitch_27 (by decide) ?_
    refine V_istore 6 [some (.ref 116), some (.int n), some (.int d), some (.int c), some (.int o), some (.int s), some (.int 0), none] d_Mod_doesTwitch_28 (by decide) rfl rfl ?_
    exact J1 0 0 tc_0 (by (first | decide +kernel | omega))
  ·
    refine V_aload_n 0 d_Mod_doesTwitch_11 rfl rfl ?_
    refine V_getR fa_Mod_7 sk_116 rfl d_Mod_doesTwitch_12 ?_
    refine V_iconst 0 d_Mod_doesTwitch_15 (by decide) ?_
    refine V_iload_n 3 d_Mod_doesTwitch_16 rfl rfl ?_
    refine V_iadd tc_0 cE (by (first | decide +kernel | omega)) d_Mod_doesTwitch_17 (fun z23 z23e z23E => ?_)
    refine N_iald sk_117 z23E (by (first | decide +kernel | omega)) d_Mod_doesTwitch_18 (fun z24 z24Z z24E z24e => ?_)
    refine V_iload_n 2 d_Mod_doesTwitch_19 rfl rfl ?_
    refine V_icmp_gt 27 z24E dE d_Mod_doesTwitch_20 (by decide) (fun c25 => ?_) (fun c25 => ?_)
    ·
      refine V_iconst 0 d_Mod_doesTwitch_27 (by decide) ?_
      refine V_istore 6 [some (.ref 116), some (.int n), some (.int d), some (.int c), some (.int o), some (.int s), some (.int 0), none] d_Mod_doesTwitch_28 (by decide) rfl rfl ?_
      exact J1 0 0 tc_0 (by (first | decide +kernel | omega))
    ·
      refine V_iconst 1 d_Mod_doesTwitch_23 (by decide) ?_
      refine V_goto 28 d_Mod_doesTwitch_24 (by decide) ?_
      refine V_istore 6 [some (.ref 116), some (.int n), some (.int d), some (.int c), some (.int o), some (.int s), some (.int 1), none] d_Mod_doesTwitch_28 (by decide) rfl rfl ?_
      exact J1 1 1 tc_1 (by (first | decide +kernel | omega))
theorem d_Mod_isSeen_0 : decode b_Mod_isSeen 0 = .ok (.aload_n 0, 1) := dc_42 (by decide +kernel)
theorem d_Mod_isSeen_1 : decode b_Mod_isSeen 1 = .ok (.iload_n 1, 1) := dc_27 (by decide +kernel)
theorem d_Mod_isSeen_2 : decode b_Mod_isSeen 2 = .ok (.invokevirtual 200, 3) := dc_182 (a := 0) (b := 200) (by decide +kernel) rfl
theorem d_Mod_isSeen_5 : decode b_Mod_isSeen 5 = .ok (.ifCond .eq 26, 3) := dc_153 (a := 0) (b := 26) (by decide +kernel) rfl
theorem d_Mod_isSeen_8 : decode b_Mod_isSeen 8 = .ok (.iload_n 2, 1) := dc_28 (by decide +kernel)
theorem d_Mod_isSeen_9 : decode b_Mod_isSeen 9 = .ok (.invokestatic 205, 3) := dc_184 (a := 0) (b := 205) (by decide +kernel) rfl
theorem d_Mod_isSeen_12 : decode b_Mod_isSeen 12 = .ok (.ifCond .eq 19, 3) := dc_153 (a := 0) (b := 19) (by decide +kernel) rfl
theorem d_Mod_isSeen_15 : decode b_Mod_isSeen 15 = .ok (.iload_n 3, 1) := dc_29 (by decide +kernel)
theorem d_Mod_isSeen_16 : decode b_Mod_isSeen 16 = .ok (.i2l, 1) := dc_133 (by decide +kernel)
theorem d_Mod_isSeen_17 : decode b_Mod_isSeen 17 = .ok (.lconst 1, 1) := dc_10 (by decide +kernel)
theorem d_Mod_isSeen_18 : decode b_Mod_isSeen 18 = .ok (.ldc2_w 208, 3) := dc_20 (a := 0) (b := 208) (by decide +kernel) rfl
theorem d_Mod_isSeen_21 : decode b_Mod_isSeen 21 = .ok (.invokestatic 95, 3) := dc_184 (a := 0) (b := 95) (by decide +kernel) rfl
theorem d_Mod_isSeen_24 : decode b_Mod_isSeen 24 = .ok (.ifCond .eq 7, 3) := dc_153 (a := 0) (b := 7) (by decide +kernel) rfl
theorem d_Mod_isSeen_27 : decode b_Mod_isSeen 27 = .ok (.iconst 1, 1) := dc_4 (by decide +kernel)
theorem d_Mod_isSeen_28 : decode b_Mod_isSeen 28 = .ok (.goto 4, 3) := dc_167 (a := 0) (b := 4) (by decide +kernel) rfl
theorem d_Mod_isSeen_31 : decode b_Mod_isSeen 31 = .ok (.iconst 0, 1) := dc_3 (by decide +kernel)
theorem d_Mod_isSeen_32 : decode b_Mod_isSeen 32 = .ok (.ireturn, 1) := dc_172 (by decide +kernel)
abbrev q_Mod_isSeen (h : Hp) (c : Int32) (cZ : Int) (o : Int32) (oZ : Int) (s : Int32) (sZ : Int) (w : Int32) (wZ : Int) (g : Int32) (gZ : Int) : Option Value → Hp → Prop := pInt (fun r h' => h = h' ∧ (r.toInt = 1 ∧ 0 ≤ cZ ∧ cZ ≤ 15 ∧ 0 ≤ oZ ∧ oZ ≤ 3 ∧ 1 ≤ sZ ∧ sZ ≤ 9 ∨ r.toInt = 0))
set_option maxRecDepth 100000 in
theorem c_Mod_isSeen (h : Hp) (hI : Inv h) (c : Int32) (cZ : Int) (cE : c.toInt = cZ) (o : Int32) (oZ : Int) (oE : o.toInt = oZ) (s : Int32) (sZ : Int) (sE : s.toInt = sZ) (w : Int32) (wZ : Int) (wE : w.toInt = wZ) (wK : h.1 116 2 = w) (g : Int32) (gZ : Int) (gE : g.toInt = gZ) (gK : h.1 116 3 = g) : Ct y_Mod_isSeen b_Mod_isSeen 4 (some .boolean) 2 46 [.ref 116, .int c, .int o, .int s] h (q_Mod_isSeen h c cZ o oZ s sZ w wZ g gZ) := by
  refine ct_ow R_Mod [some (.ref 116), some (.int c), some (.int o), some (.int s)] rfl (by decide) rfl (Nat.le_of_ble_eq_true rfl) ?_
  have f0 : fr [] h h := fr_rf
  have g1 : 2 ≤ wZ ∧ wZ ≤ 4 := inv_at hI wE wK.symm rfl
  have g2 : 2 ≤ gZ ∧ gZ ≤ 4 := inv_at hI gE gK.symm rfl
  refine V_aload_n 0 d_Mod_isSeen_0 rfl rfl ?_
  refine V_iload_n 1 d_Mod_isSeen_1 rfl rfl ?_
  refine N_callVI [.int c] [] cv_Mod_200 sk_116 rfl d_Mod_isSeen_2 rfl (Nat.le_of_ble_eq_true rfl) (by decide) (by decide) (c_Mod_isCell h hI c cZ cE w wZ wE wK g gZ gE gK) (fun z3 h4 z3Z z3E p5 => ?_)
  obtain ⟨eh4, p5⟩ := p5
  subst eh4
  refine V_if_eq 31 z3E d_Mod_isSeen_5 (by decide) (fun c6 => ?_) (fun c6 => ?_)
  ·
    refine V_iconst 0 d_Mod_isSeen_31 (by decide) ?_
    exact V_zret rfl (by decide) d_Mod_isSeen_32 ⟨0, rfl, ⟨rfl, (by (try rw [show Int32.toInt 0 = 0 from rfl]); omega)⟩⟩
  ·
    refine V_iload_n 2 d_Mod_isSeen_8 rfl rfl ?_
    refine N_callSI [.int o] [] cs_Mod_205 d_Mod_isSeen_9 rfl (Nat.le_of_ble_eq_true rfl) (by decide) (by decide) (c_Mod_isOwner h o oZ oE) (fun z7 h8 z7Z z7E p9 => ?_)
    obtain ⟨eh8, p9⟩ := p9
    subst eh8
    refine V_if_eq 31 z7E d_Mod_isSeen_12 (by decide) (fun c10 => ?_) (fun c10 => ?_)
    ·
      refine V_iconst 0 d_Mod_isSeen_31 (by decide) ?_
      exact V_zret rfl (by decide) d_Mod_isSeen_32 ⟨0, rfl, ⟨rfl, (by (try rw [show Int32.toInt 0 = 0 from rfl]); omega)⟩⟩
    ·
      refine V_iload_n 3 d_Mod_isSeen_15 rfl rfl ?_
      refine V_i2l d_Mod_isSeen_16 (fun z11 z11e z11E => ?_)
      have z11F : z11.toInt = sZ := z11E.trans sE
      refine V_lconst 1 d_Mod_isSeen_17 (by decide) ?_
      refine V_ldc2 d_Mod_isSeen_18 wl_Mod_208 ?_
      refine N_callSI [.long z11, .long 1, .long 9] [] cs_Mod_95 d_Mod_isSeen_21 rfl (Nat.le_of_ble_eq_true rfl) (by decide) (by decide) (c_Mod_in h z11 sZ z11F 1 1 tl_1 9 9 tl_9) (fun z12 h13 z12Z z12E p14 => ?_)
      obtain ⟨eh13, p14⟩ := p14
      subst eh13
      refine V_if_eq 31 z12E d_Mod_isSeen_24 (by decide) (fun c15 => ?_) (fun c15 => ?_)
      ·
        refine V_iconst 0 d_Mod_isSeen_31 (by decide) ?_
        exact V_zret rfl (by decide) d_Mod_isSeen_32 ⟨0, rfl, ⟨rfl, (by (try rw [show Int32.toInt 0 = 0 from rfl]); omega)⟩⟩
      ·
        refine V_iconst 1 d_Mod_isSeen_27 (by decide) ?_
        refine V_goto 32 d_Mod_isSeen_28 (by decide) ?_
        exact V_zret rfl (by decide) d_Mod_isSeen_32 ⟨1, rfl, ⟨rfl, (by (try rw [show Int32.toInt 1 = 1 from rfl]); omega)⟩⟩
theorem d_Mod_twitch_0 : decode b_Mod_twitch 0 = .ok (.aload_n 0, 1) := dc_42 (by decide +kernel)
theorem d_Mod_twitch_1 : decode b_Mod_twitch 1 = .ok (.iload_n 1, 1) := dc_27 (by decide +kernel)
theorem d_Mod_twitch_2 : decode b_Mod_twitch 2 = .ok (.iload_n 2, 1) := dc_28 (by decide +kernel)
theorem d_Mod_twitch_3 : decode b_Mod_twitch 3 = .ok (.iload_n 3, 1) := dc_29 (by decide +kernel)
theorem d_Mod_twitch_4 : decode b_Mod_twitch 4 = .ok (.invokevirtual 226, 3) := dc_182 (a := 0) (b := 226) (by decide +kernel) rfl
theorem d_Mod_twitch_7 : decode b_Mod_twitch 7 = .ok (.ifCond .eq 30, 3) := dc_153 (a := 0) (b := 30) (by decide +kernel) rfl
theorem d_Mod_twitch_10 : decode b_Mod_twitch 10 = .ok (.aload_n 0, 1) := dc_42 (by decide +kernel)
theorem d_Mod_twitch_11 : decode b_Mod_twitch 11 = .ok (.aload_n 0, 1) := dc_42 (by decide +kernel)
theorem d_Mod_twitch_12 : decode b_Mod_twitch 12 = .ok (.getfield 7, 3) := dc_180 (a := 0) (b := 7) (by decide +kernel) rfl
theorem d_Mod_twitch_15 : decode b_Mod_twitch 15 = .ok (.bipush 84, 2) := dc_16 (a := 84) (by decide +kernel) rfl
theorem d_Mod_twitch_17 : decode b_Mod_twitch 17 = .ok (.iaload, 1) := dc_46 (by decide +kernel)
theorem d_Mod_twitch_18 : decode b_Mod_twitch 18 = .ok (.aload_n 0, 1) := dc_42 (by decide +kernel)
theorem d_Mod_twitch_19 : decode b_Mod_twitch 19 = .ok (.getfield 7, 3) := dc_180 (a := 0) (b := 7) (by decide +kernel) rfl
theorem d_Mod_twitch_22 : decode b_Mod_twitch 22 = .ok (.bipush 85, 2) := dc_16 (a := 85) (by decide +kernel) rfl
theorem d_Mod_twitch_24 : decode b_Mod_twitch 24 = .ok (.iaload, 1) := dc_46 (by decide +kernel)
theorem d_Mod_twitch_25 : decode b_Mod_twitch 25 = .ok (.iload_n 1, 1) := dc_27 (by decide +kernel)
theorem d_Mod_twitch_26 : decode b_Mod_twitch 26 = .ok (.iload_n 2, 1) := dc_28 (by decide +kernel)
theorem d_Mod_twitch_27 : decode b_Mod_twitch 27 = .ok (.iload_n 3, 1) := dc_29 (by decide +kernel)
theorem d_Mod_twitch_28 : decode b_Mod_twitch 28 = .ok (.invokevirtual 229, 3) := dc_182 (a := 0) (b := 229) (by decide +kernel) rfl
theorem d_Mod_twitch_31 : decode b_Mod_twitch 31 = .ok (.invokestatic 196, 3) := dc_184 (a := 0) (b := 196) (by decide +kernel) rfl
theorem d_Mod_twitch_34 : decode b_Mod_twitch 34 = .ok (.goto 4, 3) := dc_167 (a := 0) (b := 4) (by decide +kernel) rfl
theorem d_Mod_twitch_37 : decode b_Mod_twitch 37 = .ok (.iconst (-1), 1) := dc_2 (by decide +kernel)
theorem d_Mod_twitch_38 : decode b_Mod_twitch 38 = .ok (.ireturn, 1) := dc_172 (by decide +kernel)
abbrev q_Mod_twitch (h : Hp) (c : Int32) (cZ : Int) (o : Int32) (oZ : Int) (s : Int32) (sZ : Int) (w : Int32) (wZ : Int) (g : Int32) (gZ : Int) : Option Value → Hp → Prop := pInt (fun r h' => h = h')
set_option maxRecDepth 100000 in
theorem c_Mod_twitch (h : Hp) (hI : Inv h) (c : Int32) (cZ : Int) (cE : c.toInt = cZ) (o : Int32) (oZ : Int) (oE : o.toInt = oZ) (s : Int32) (sZ : Int) (sE : s.toInt = sZ) (w : Int32) (wZ : Int) (wE : w.toInt = wZ) (wK : h.1 116 2 = w) (g : Int32) (gZ : Int) (gE : g.toInt = gZ) (gK : h.1 116 3 = g) : Ct y_Mod_twitch b_Mod_twitch 4 (some .int) 3 69 [.ref 116, .int c, .int o, .int s] h (q_Mod_twitch h c cZ o oZ s sZ w wZ g gZ) := by
  refine ct_ow R_Mod [some (.ref 116), some (.int c), some (.int o), some (.int s)] rfl (by decide) rfl (Nat.le_of_ble_eq_true rfl) ?_
  have f0 : fr [] h h := fr_rf
  have g1 : 2 ≤ wZ ∧ wZ ≤ 4 := inv_at hI wE wK.symm rfl
  have g2 : 2 ≤ gZ ∧ gZ ≤ 4 := inv_at hI gE gK.symm rfl
  refine V_aload_n 0 d_Mod_twitch_0 rfl rfl ?_
  refine V_iload_n 1 d_Mod_twitch_1 rfl rfl ?_
  refine V_iload_n 2 d_Mod_twitch_2 rfl rfl ?_
  refine V_iload_n 3 d_Mod_twitch_3 rfl rfl ?_
  refine N_callVI [.int c, .int o, .int s] [] cv_Mod_226 sk_116 rfl d_Mod_twitch_4 rfl (Nat.le_of_ble_eq_true rfl) (by decide) (by decide) (c_Mod_isSeen h hI c cZ cE o oZ oE s sZ sE w wZ wE wK g gZ gE gK) (fun z3 h4 z3Z z3E p5 => ?_)
  obtain ⟨eh4, p5⟩ := p5
  subst eh4
  refine V_if_eq 37 z3E d_Mod_twitch_7 (by decide) (fun c6 => ?_) (fun c6 => ?_)
  ·
    refine V_iconst (-1) d_Mod_twitch_37 (by decide) ?_
    exact V_iret rfl d_Mod_twitch_38 ⟨(-1), rfl, rfl⟩
  ·
    refine V_aload_n 0 d_Mod_twitch_10 rfl rfl ?_
    refine V_aload_n 0 d_Mod_twitch_11 rfl rfl ?_
    refine V_getR fa_Mod_7 sk_116 rfl d_Mod_twitch_12 ?_
    refine V_bipush 84 d_Mod_twitch_15 (by decide) ?_
    refine N_iald sk_117 tc_84 (by (first | decide +kernel | omega)) d_Mod_twitch_17 (fun z7 z7Z z7E z7e => ?_)
    refine V_aload_n 0 d_Mod_twitch_18 rfl rfl ?_
    refine V_getR fa_Mod_7 sk_116 rfl d_Mod_twitch_19 ?_
    refine V_bipush 85 d_Mod_twitch_22 (by decide) ?_
    refine N_iald sk_117 tc_85 (by (first | decide +kernel | omega)) d_Mod_twitch_24 (fun z8 z8Z z8E z8e => ?_)
    refine V_iload_n 1 d_Mod_twitch_25 rfl rfl ?_
    refine V_iload_n 2 d_Mod_twitch_26 rfl rfl ?_
    refine V_iload_n 3 d_Mod_twitch_27 rfl rfl ?_
    refine N_callVI [.int z7, .int z8, .int c, .int o, .int s] [] cv_Mod_229 sk_116 rfl d_Mod_twitch_28 rfl (Nat.le_of_ble_eq_true rfl) (by decide) (by decide) (c_Mod_doesTwitch h hI z7 z7Z z7E z8 z8Z z8E c cZ cE o oZ oE s sZ sE (by (first | decide +kernel | omega))) (fun z9 h10 z9Z z9E p11 => ?_)
    obtain ⟨eh10, p11⟩ := p11
    subst eh10
    refine N_callSI [.int z9] [] cs_Mod_196 d_Mod_twitch_31 rfl (Nat.le_of_ble_eq_true rfl) (by decide) (by decide) (c_Mod_flag h z9 z9Z z9E) (fun z12 h13 z12Z z12E p14 => ?_)
    obtain ⟨eh13, p14⟩ := p14
    subst eh13
    refine V_goto 38 d_Mod_twitch_34 (by decide) ?_
    exact V_iret rfl d_Mod_twitch_38 ⟨z12, rfl, rfl⟩
theorem d_Mod_see_0 : decode b_Mod_see 0 = .ok (.aload_n 0, 1) := dc_42 (by decide +kernel)
theorem d_Mod_see_1 : decode b_Mod_see 1 = .ok (.iload_n 1, 1) := dc_27 (by decide +kernel)
theorem d_Mod_see_2 : decode b_Mod_see 2 = .ok (.iload_n 2, 1) := dc_28 (by decide +kernel)
theorem d_Mod_see_3 : decode b_Mod_see 3 = .ok (.iload_n 3, 1) := dc_29 (by decide +kernel)
theorem d_Mod_see_4 : decode b_Mod_see 4 = .ok (.invokevirtual 226, 3) := dc_182 (a := 0) (b := 226) (by decide +kernel) rfl
theorem d_Mod_see_7 : decode b_Mod_see 7 = .ok (.ifCond .ne 5, 3) := dc_154 (a := 0) (b := 5) (by decide +kernel) rfl
theorem d_Mod_see_10 : decode b_Mod_see 10 = .ok (.iconst (-1), 1) := dc_2 (by decide +kernel)
theorem d_Mod_see_11 : decode b_Mod_see 11 = .ok (.ireturn, 1) := dc_172 (by decide +kernel)
theorem d_Mod_see_12 : decode b_Mod_see 12 = .ok (.aload_n 0, 1) := dc_42 (by decide +kernel)
theorem d_Mod_see_13 : decode b_Mod_see 13 = .ok (.getfield 7, 3) := dc_180 (a := 0) (b := 7) (by decide +kernel) rfl
theorem d_Mod_see_16 : decode b_Mod_see 16 = .ok (.bipush 111, 2) := dc_16 (a := 111) (by decide +kernel) rfl
theorem d_Mod_see_18 : decode b_Mod_see 18 = .ok (.iaload, 1) := dc_46 (by decide +kernel)
theorem d_Mod_see_19 : decode b_Mod_see 19 = .ok (.bipush 8, 2) := dc_16 (a := 8) (by decide +kernel) rfl
theorem d_Mod_see_21 : decode b_Mod_see 21 = .ok (.if_icmp .ne 6, 3) := dc_160 (a := 0) (b := 6) (by decide +kernel) rfl
theorem d_Mod_see_24 : decode b_Mod_see 24 = .ok (.bipush (-3), 2) := dc_16 (a := 253) (by decide +kernel) rfl
theorem d_Mod_see_26 : decode b_Mod_see 26 = .ok (.ireturn, 1) := dc_172 (by decide +kernel)
theorem d_Mod_see_27 : decode b_Mod_see 27 = .ok (.bipush 112, 2) := dc_16 (a := 112) (by decide +kernel) rfl
theorem d_Mod_see_29 : decode b_Mod_see 29 = .ok (.iconst 4, 1) := dc_7 (by decide +kernel)
theorem d_Mod_see_30 : decode b_Mod_see 30 = .ok (.aload_n 0, 1) := dc_42 (by decide +kernel)
theorem d_Mod_see_31 : decode b_Mod_see 31 = .ok (.getfield 7, 3) := dc_180 (a := 0) (b := 7) (by decide +kernel) rfl
theorem d_Mod_see_34 : decode b_Mod_see 34 = .ok (.bipush 111, 2) := dc_16 (a := 111) (by decide +kernel) rfl
theorem d_Mod_see_36 : decode b_Mod_see 36 = .ok (.iaload, 1) := dc_46 (by decide +kernel)
theorem d_Mod_see_37 : decode b_Mod_see 37 = .ok (.imul, 1) := dc_104 (by decide +kernel)
theorem d_Mod_see_38 : decode b_Mod_see 38 = .ok (.iadd, 1) := dc_96 (by decide +kernel)
theorem d_Mod_see_39 : decode b_Mod_see 39 = .ok (.istore 5, 2) := dc_54 (a := 5) (by decide +kernel) rfl
theorem d_Mod_see_41 : decode b_Mod_see 41 = .ok (.aload_n 0, 1) := dc_42 (by decide +kernel)
theorem d_Mod_see_42 : decode b_Mod_see 42 = .ok (.getfield 7, 3) := dc_180 (a := 0) (b := 7) (by decide +kernel) rfl
theorem d_Mod_see_45 : decode b_Mod_see 45 = .ok (.iload 5, 2) := dc_21 (a := 5) (by decide +kernel) rfl
theorem d_Mod_see_47 : decode b_Mod_see 47 = .ok (.iload_n 1, 1) := dc_27 (by decide +kernel)
theorem d_Mod_see_48 : decode b_Mod_see 48 = .ok (.iastore, 1) := dc_79 (by decide +kernel)
theorem d_Mod_see_49 : decode b_Mod_see 49 = .ok (.aload_n 0, 1) := dc_42 (by decide +kernel)
theorem d_Mod_see_50 : decode b_Mod_see 50 = .ok (.getfield 7, 3) := dc_180 (a := 0) (b := 7) (by decide +kernel) rfl
theorem d_Mod_see_53 : decode b_Mod_see 53 = .ok (.iload 5, 2) := dc_21 (a := 5) (by decide +kernel) rfl
theorem d_Mod_see_55 : decode b_Mod_see 55 = .ok (.iconst 1, 1) := dc_4 (by decide +kernel)
theorem d_Mod_see_56 : decode b_Mod_see 56 = .ok (.iadd, 1) := dc_96 (by decide +kernel)
theorem d_Mod_see_57 : decode b_Mod_see 57 = .ok (.iload_n 2, 1) := dc_28 (by decide +kernel)
theorem d_Mod_see_58 : decode b_Mod_see 58 = .ok (.iastore, 1) := dc_79 (by decide +kernel)
theorem d_Mod_see_59 : decode b_Mod_see 59 = .ok (.aload_n 0, 1) := dc_42 (by decide +kernel)
theorem d_Mod_see_60 : decode b_Mod_see 60 = .ok (.getfield 7, 3) := dc_180 (a := 0) (b := 7) (by decide +kernel) rfl
theorem d_Mod_see_63 : decode b_Mod_see 63 = .ok (.iload 5, 2) := dc_21 (a := 5) (by decide +kernel) rfl
theorem d_Mod_see_65 : decode b_Mod_see 65 = .ok (.iconst 2, 1) := dc_5 (by decide +kernel)
theorem d_Mod_see_66 : decode b_Mod_see 66 = .ok (.iadd, 1) := dc_96 (by decide +kernel)
theorem d_Mod_see_67 : decode b_Mod_see 67 = .ok (.iload_n 3, 1) := dc_29 (by decide +kernel)
theorem d_Mod_see_68 : decode b_Mod_see 68 = .ok (.iastore, 1) := dc_79 (by decide +kernel)
theorem d_Mod_see_69 : decode b_Mod_see 69 = .ok (.aload_n 0, 1) := dc_42 (by decide +kernel)
theorem d_Mod_see_70 : decode b_Mod_see 70 = .ok (.getfield 7, 3) := dc_180 (a := 0) (b := 7) (by decide +kernel) rfl
theorem d_Mod_see_73 : decode b_Mod_see 73 = .ok (.iload 5, 2) := dc_21 (a := 5) (by decide +kernel) rfl
theorem d_Mod_see_75 : decode b_Mod_see 75 = .ok (.iconst 3, 1) := dc_6 (by decide +kernel)
theorem d_Mod_see_76 : decode b_Mod_see 76 = .ok (.iadd, 1) := dc_96 (by decide +kernel)
theorem d_Mod_see_77 : decode b_Mod_see 77 = .ok (.iload 4, 2) := dc_21 (a := 4) (by decide +kernel) rfl
theorem d_Mod_see_79 : decode b_Mod_see 79 = .ok (.invokestatic 196, 3) := dc_184 (a := 0) (b := 196) (by decide +kernel) rfl
theorem d_Mod_see_82 : decode b_Mod_see 82 = .ok (.iastore, 1) := dc_79 (by decide +kernel)
theorem d_Mod_see_83 : decode b_Mod_see 83 = .ok (.aload_n 0, 1) := dc_42 (by decide +kernel)
theorem d_Mod_see_84 : decode b_Mod_see 84 = .ok (.getfield 7, 3) := dc_180 (a := 0) (b := 7) (by decide +kernel) rfl
theorem d_Mod_see_87 : decode b_Mod_see 87 = .ok (.bipush 111, 2) := dc_16 (a := 111) (by decide +kernel) rfl
theorem d_Mod_see_89 : decode b_Mod_see 89 = .ok (.dup2, 1) := dc_92 (by decide +kernel)
theorem d_Mod_see_90 : decode b_Mod_see 90 = .ok (.iaload, 1) := dc_46 (by decide +kernel)
theorem d_Mod_see_91 : decode b_Mod_see 91 = .ok (.iconst 1, 1) := dc_4 (by decide +kernel)
theorem d_Mod_see_92 : decode b_Mod_see 92 = .ok (.iadd, 1) := dc_96 (by decide +kernel)
theorem d_Mod_see_93 : decode b_Mod_see 93 = .ok (.iastore, 1) := dc_79 (by decide +kernel)
theorem d_Mod_see_94 : decode b_Mod_see 94 = .ok (.aload_n 0, 1) := dc_42 (by decide +kernel)
theorem d_Mod_see_95 : decode b_Mod_see 95 = .ok (.getfield 7, 3) := dc_180 (a := 0) (b := 7) (by decide +kernel) rfl
theorem d_Mod_see_98 : decode b_Mod_see 98 = .ok (.bipush 111, 2) := dc_16 (a := 111) (by decide +kernel) rfl
theorem d_Mod_see_100 : decode b_Mod_see 100 = .ok (.iaload, 1) := dc_46 (by decide +kernel)
theorem d_Mod_see_101 : decode b_Mod_see 101 = .ok (.ireturn, 1) := dc_172 (by decide +kernel)
theorem d_Mod_forget_0 : decode b_Mod_forget 0 = .ok (.iload_n 1, 1) := dc_27 (by decide +kernel)
theorem d_Mod_forget_1 : decode b_Mod_forget 1 = .ok (.i2l, 1) := dc_133 (by decide +kernel)
theorem d_Mod_forget_2 : decode b_Mod_forget 2 = .ok (.lconst 0, 1) := dc_9 (by decide +kernel)
theorem d_Mod_forget_3 : decode b_Mod_forget 3 = .ok (.aload_n 0, 1) := dc_42 (by decide +kernel)
theorem d_Mod_forget_4 : decode b_Mod_forget 4 = .ok (.getfield 7, 3) := dc_180 (a := 0) (b := 7) (by decide +kernel) rfl
theorem d_Mod_forget_7 : decode b_Mod_forget 7 = .ok (.bipush 111, 2) := dc_16 (a := 111) (by decide +kernel) rfl
theorem d_Mod_forget_9 : decode b_Mod_forget 9 = .ok (.iaload, 1) := dc_46 (by decide +kernel)
theorem d_Mod_forget_10 : decode b_Mod_forget 10 = .ok (.i2l, 1) := dc_133 (by decide +kernel)
theorem d_Mod_forget_11 : decode b_Mod_forget 11 = .ok (.invokestatic 95, 3) := dc_184 (a := 0) (b := 95) (by decide +kernel) rfl
theorem d_Mod_forget_14 : decode b_Mod_forget 14 = .ok (.ifCond .eq 13, 3) := dc_153 (a := 0) (b := 13) (by decide +kernel) rfl
theorem d_Mod_forget_17 : decode b_Mod_forget 17 = .ok (.aload_n 0, 1) := dc_42 (by decide +kernel)
theorem d_Mod_forget_18 : decode b_Mod_forget 18 = .ok (.bipush 111, 2) := dc_16 (a := 111) (by decide +kernel) rfl
theorem d_Mod_forget_20 : decode b_Mod_forget 20 = .ok (.iload_n 1, 1) := dc_27 (by decide +kernel)
theorem d_Mod_forget_21 : decode b_Mod_forget 21 = .ok (.invokevirtual 210, 3) := dc_182 (a := 0) (b := 210) (by decide +kernel) rfl
theorem d_Mod_forget_24 : decode b_Mod_forget 24 = .ok (.goto 4, 3) := dc_167 (a := 0) (b := 4) (by decide +kernel) rfl
theorem d_Mod_forget_27 : decode b_Mod_forget 27 = .ok (.iconst (-1), 1) := dc_2 (by decide +kernel)
theorem d_Mod_forget_28 : decode b_Mod_forget 28 = .ok (.ireturn, 1) := dc_172 (by decide +kernel)
theorem d_Mod_doesFit_0 : decode b_Mod_doesFit 0 = .ok (.iconst 1, 1) := dc_4 (by decide +kernel)
theorem d_Mod_doesFit_1 : decode b_Mod_doesFit 1 = .ok (.istore_n 3, 1) := dc_62 (by decide +kernel)
theorem d_Mod_doesFit_2 : decode b_Mod_doesFit 2 = .ok (.iconst 0, 1) := dc_3 (by decide +kernel)
theorem d_Mod_doesFit_3 : decode b_Mod_doesFit 3 = .ok (.istore 4, 2) := dc_54 (a := 4) (by decide +kernel) rfl
theorem d_Mod_doesFit_5 : decode b_Mod_doesFit 5 = .ok (.iload 4, 2) := dc_21 (a := 4) (by decide +kernel) rfl
theorem d_Mod_doesFit_7 : decode b_Mod_doesFit 7 = .ok (.aload_n 0, 1) := dc_42 (by decide +kernel)
theorem d_Mod_doesFit_8 : decode b_Mod_doesFit 8 = .ok (.getfield 7, 3) := dc_180 (a := 0) (b := 7) (by decide +kernel) rfl
theorem d_Mod_doesFit_11 : decode b_Mod_doesFit 11 = .ok (.bipush 111, 2) := dc_16 (a := 111) (by decide +kernel) rfl
theorem d_Mod_doesFit_13 : decode b_Mod_doesFit 13 = .ok (.iaload, 1) := dc_46 (by decide +kernel)
theorem d_Mod_doesFit_14 : decode b_Mod_doesFit 14 = .ok (.if_icmp .ge 74, 3) := dc_162 (a := 0) (b := 74) (by decide +kernel) rfl
theorem d_Mod_doesFit_17 : decode b_Mod_doesFit 17 = .ok (.bipush 112, 2) := dc_16 (a := 112) (by decide +kernel) rfl
theorem d_Mod_doesFit_19 : decode b_Mod_doesFit 19 = .ok (.iconst 4, 1) := dc_7 (by decide +kernel)
theorem d_Mod_doesFit_20 : decode b_Mod_doesFit 20 = .ok (.iload 4, 2) := dc_21 (a := 4) (by decide +kernel) rfl
theorem d_Mod_doesFit_22 : decode b_Mod_doesFit 22 = .ok (.imul, 1) := dc_104 (by decide +kernel)
theorem d_Mod_doesFit_23 : decode b_Mod_doesFit 23 = .ok (.iadd, 1) := dc_96 (by decide +kernel)
theorem d_Mod_doesFit_24 : decode b_Mod_doesFit 24 = .ok (.istore 5, 2) := dc_54 (a := 5) (by decide +kernel) rfl
theorem d_Mod_doesFit_26 : decode b_Mod_doesFit 26 = .ok (.iload_n 3, 1) := dc_29 (by decide +kernel)
theorem d_Mod_doesFit_27 : decode b_Mod_doesFit 27 = .ok (.ifCond .eq 53, 3) := dc_153 (a := 0) (b := 53) (by decide +kernel) rfl
theorem d_Mod_doesFit_30 : decode b_Mod_doesFit 30 = .ok (.aload_n 0, 1) := dc_42 (by decide +kernel)
theorem d_Mod_doesFit_31 : decode b_Mod_doesFit 31 = .ok (.iload_n 1, 1) := dc_27 (by decide +kernel)
theorem d_Mod_doesFit_32 : decode b_Mod_doesFit 32 = .ok (.iload_n 2, 1) := dc_28 (by decide +kernel)
theorem d_Mod_doesFit_33 : decode b_Mod_doesFit 33 = .ok (.aload_n 0, 1) := dc_42 (by decide +kernel)
theorem d_Mod_doesFit_34 : decode b_Mod_doesFit 34 = .ok (.getfield 7, 3) := dc_180 (a := 0) (b := 7) (by decide +kernel) rfl
theorem d_Mod_doesFit_37 : decode b_Mod_doesFit 37 = .ok (.iload 5, 2) := dc_21 (a := 5) (by decide +kernel) rfl
theorem d_Mod_doesFit_39 : decode b_Mod_doesFit 39 = .ok (.iaload, 1) := dc_46 (by decide +kernel)
theorem d_Mod_doesFit_40 : decode b_Mod_doesFit 40 = .ok (.aload_n 0, 1) := dc_42 (by decide +kernel)
theorem d_Mod_doesFit_41 : decode b_Mod_doesFit 41 = .ok (.getfield 7, 3) := dc_180 (a := 0) (b := 7) (by decide +kernel) rfl
theorem d_Mod_doesFit_44 : decode b_Mod_doesFit 44 = .ok (.iload 5, 2) := dc_21 (a := 5) (by decide +kernel) rfl
theorem d_Mod_doesFit_46 : decode b_Mod_doesFit 46 = .ok (.iconst 1, 1) := dc_4 (by decide +kernel)
theorem d_Mod_doesFit_47 : decode b_Mod_doesFit 47 = .ok (.iadd, 1) := dc_96 (by decide +kernel)
theorem d_Mod_doesFit_48 : decode b_Mod_doesFit 48 = .ok (.iaload, 1) := dc_46 (by decide +kernel)
theorem d_Mod_doesFit_49 : decode b_Mod_doesFit 49 = .ok (.aload_n 0, 1) := dc_42 (by decide +kernel)
theorem d_Mod_doesFit_50 : decode b_Mod_doesFit 50 = .ok (.getfield 7, 3) := dc_180 (a := 0) (b := 7) (by decide +kernel) rfl
theorem d_Mod_doesFit_53 : decode b_Mod_doesFit 53 = .ok (.iload 5, 2) := dc_21 (a := 5) (by decide +kernel) rfl
theorem d_Mod_doesFit_55 : decode b_Mod_doesFit 55 = .ok (.iconst 2, 1) := dc_5 (by decide +kernel)
theorem d_Mod_doesFit_56 : decode b_Mod_doesFit 56 = .ok (.iadd, 1) := dc_96 (by decide +kernel)
theorem d_Mod_doesFit_57 : decode b_Mod_doesFit 57 = .ok (.iaload, 1) := dc_46 (by decide +kernel)
theorem d_Mod_doesFit_58 : decode b_Mod_doesFit 58 = .ok (.invokevirtual 229, 3) := dc_182 (a := 0) (b := 229) (by decide +kernel) rfl
theorem d_Mod_doesFit_61 : decode b_Mod_doesFit 61 = .ok (.invokestatic 196, 3) := dc_184 (a := 0) (b := 196) (by decide +kernel) rfl
theorem d_Mod_doesFit_64 : decode b_Mod_doesFit 64 = .ok (.aload_n 0, 1) := dc_42 (by decide +kernel)
theorem d_Mod_doesFit_65 : decode b_Mod_doesFit 65 = .ok (.getfield 7, 3) := dc_180 (a := 0) (b := 7) (by decide +kernel) rfl
theorem d_Mod_doesFit_68 : decode b_Mod_doesFit 68 = .ok (.iload 5, 2) := dc_21 (a := 5) (by decide +kernel) rfl
theorem d_Mod_doesFit_70 : decode b_Mod_doesFit 70 = .ok (.iconst 3, 1) := dc_6 (by decide +kernel)
theorem d_Mod_doesFit_71 : decode b_Mod_doesFit 71 = .ok (.iadd, 1) := dc_96 (by decide +kernel)
theorem d_Mod_doesFit_72 : decode b_Mod_doesFit 72 = .ok (.iaload, 1) := dc_46 (by decide +kernel)
theorem d_Mod_doesFit_73 : decode b_Mod_doesFit 73 = .ok (.if_icmp .ne 7, 3) := dc_160 (a := 0) (b := 7) (by decide +kernel) rfl
theorem d_Mod_doesFit_76 : decode b_Mod_doesFit 76 = .ok (.iconst 1, 1) := dc_4 (by decide +kernel)
theorem d_Mod_doesFit_77 : decode b_Mod_doesFit 77 = .ok (.goto 4, 3) := dc_167 (a := 0) (b := 4) (by decide +kernel) rfl
theorem d_Mod_doesFit_80 : decode b_Mod_doesFit 80 = .ok (.iconst 0, 1) := dc_3 (by decide +kernel)
theorem d_Mod_doesFit_81 : decode b_Mod_doesFit 81 = .ok (.istore_n 3, 1) := dc_62 (by decide +kernel)
theorem d_Mod_doesFit_82 : decode b_Mod_doesFit 82 = .ok (.iinc 4 1, 3) := dc_132 (a := 4) (b := 1) (by decide +kernel) rfl
theorem d_Mod_doesFit_85 : decode b_Mod_doesFit 85 = .ok (.goto (-80), 3) := dc_167 (a := 255) (b := 176) (by decide +kernel) rfl
theorem d_Mod_doesFit_88 : decode b_Mod_doesFit 88 = .ok (.iload_n 3, 1) := dc_29 (by decide +kernel)
theorem d_Mod_doesFit_89 : decode b_Mod_doesFit 89 = .ok (.ireturn, 1) := dc_172 (by decide +kernel)
abbrev q_Mod_doesFit (h : Hp) (n : Int32) (nZ : Int) (d : Int32) (dZ : Int) : Option Value → Hp → Prop := pInt (fun r h' => h = h' ∧ (r.toInt = 0 ∨ r.toInt = 1))
set_option maxRecDepth 100000 in
theorem c_Mod_doesFit (h : Hp) (hI : Inv h) (n : Int32) (nZ : Int) (nE : n.toInt = nZ) (d : Int32) (dZ : Int) (dE : d.toInt = dZ) : Ct y_Mod_doesFit b_Mod_doesFit 6 (some .boolean) 1 27 [.ref 116, .int n, .int d] h (q_Mod_doesFit h n nZ d dZ) := by
  refine ct_ow R_Mod [some (.ref 116), some (.int n), some (.int d), none, none, none] rfl (by decide) rfl (Nat.le_of_ble_eq_true rfl) ?_
  have f0 : fr [] h h := fr_rf
  refine V_iconst 1 d_Mod_doesFit_0 (by decide) ?_
  refine V_istore_n 3 [some (.ref 116), some (.int n), some (.int d), some (.int 1), none, none] d_Mod_doesFit_1 rfl (by decide) rfl rfl ?_
  refine V_iconst 0 d_Mod_doesFit_2 (by decide) ?_
  refine V_istore 4 [some (.ref 116), some (.int n), some (.int d), some (.int 1), some (.int 0), none] d_Mod_doesFit_3 (by decide) rfl rfl ?_
  have L1 : ∀ (nn : Nat) (v3 : Int32) (v3Z : Int) (v4 : Int32) (v4Z : Int), v3.toInt = v3Z → v4.toInt = v4Z → 0 ≤ v3Z ∧ v3Z ≤ 1 → 0 ≤ v4Z ∧ v4Z ≤ 8 → 8 - v4Z < (nn : Int) → V R_Mod b_Mod_doesFit 6 (some .boolean) 1 27 (q_Mod_doesFit h n nZ d dZ) h 5 [some (.ref 116), some (.int n), some (.int d), some (.int v3), some (.int v4), none] [] := by
    intro nn
    induction nn with
    | zero => intro v3 v3Z v4 v4Z v3E v4E q5 q6 hm7; exact absurd hm7 (by (first | decide +kernel | omega))
    | succ nn ihL1 =>
      intro v3 v3Z v4 v4Z v3E v4E q5 q6 hm7
      refine V_iload d_Mod_doesFit_5 rfl ?_
      refine V_aload_n 0 d_Mod_doesFit_7 rfl rfl ?_
      refine V_getR fa_Mod_7 sk_116 rfl d_Mod_doesFit_8 ?_
      refine V_bipush 111 d_Mod_doesFit_11 (by decide) ?_
      refine N_iald sk_117 tc_111 (by (first | decide +kernel | omega)) d_Mod_doesFit_13 (fun z8 z8Z z8E z8e => ?_)
      have g9 : 0 ≤ z8Z ∧ z8Z ≤ 8 := inv_at hI z8E z8e rfl
      refine V_icmp_ge 88 v4E z8E d_Mod_doesFit_14 (by decide) (fun c10 => ?_) (fun c10 => ?_)
      ·
        refine V_iload_n 3 d_Mod_doesFit_88 rfl rfl ?_
        exact V_zret rfl (by rw [v3E]; omega) d_Mod_doesFit_89 ⟨v3, rfl, ⟨rfl, (by (try rw [v3E]); omega)⟩⟩
      ·
        refine V_bipush 112 d_Mod_doesFit_17 (by decide) ?_
        refine V_iconst 4 d_Mod_doesFit_19 (by decide) ?_
        refine V_iload d_Mod_doesFit_20 rfl ?_
        refine V_imul tc_4 v4E (by (first | decide +kernel | omega)) d_Mod_doesFit_22 (fun z11 z11e z11E => ?_)
        refine V_iadd tc_112 z11E (by (first | decide +kernel | omega)) d_Mod_doesFit_23 (fun z12 z12e z12E => ?_)
        refine V_istore 5 [some (.ref 116), some (.int n), some (.int d), some (.int v3), some (.int v4), some (.int z12)] d_Mod_doesFit_24 (by decide) rfl rfl ?_
        refine V_iload_n 3 d_Mod_doesFit_26 rfl rfl ?_
        refine V_if_eq 80 v3E d_Mod_doesFit_27 (by decide) (fun c13 => ?_) (fun c13 => ?_)
        ·
          refine V_iconst 0 d_Mod_doesFit_80 (by decide) ?_
          refine V_istore_n 3 [some (.ref 116), some (.int n), some (.int d), some (.int 0), some (.int v4), some (.int z12)] d_Mod_doesFit_81 rfl (by decide) rfl rfl ?_
          obtain ⟨z14, z14E, z14e⟩ : ∃ y : Int32, y.toInt = v4Z + 1 ∧ y = v4 + Int32.ofInt 1 := ⟨_, ti_add v4E (by decide) (by (first | decide +kernel | omega)), rfl⟩
          refine V_iinc 4 [some (.ref 116), some (.int n), some (.int d), some (.int 0), some (.int z14), some (.int z12)] d_Mod_doesFit_82 rfl z14e.symm (by decide) rfl rfl ?_
          refine V_goto 5 d_Mod_doesFit_85 (by decide) ?_
          refine V_drop 5 [some (.ref 116), some (.int n), some (.int d), some (.int 0), some (.int z14), none] rfl ?_
          exact ihL1 0 0 z14 ((v4Z + 1)) tc_0 z14E (by (first | decide +kernel | omega)) (by (first | decide +kernel | omega)) (by (first | decide +kernel | omega))
        ·
          refine V_aload_n 0 d_Mod_doesFit_30 rfl rfl ?_
          refine V_iload_n 1 d_Mod_doesFit_31 rfl rfl ?_
          refine V_iload_n 2 d_Mod_doesFit_32 rfl rfl ?_
          refine V_aload_n 0 d_Mod_doesFit_33 rfl rfl ?_
          refine V_getR fa_Mod_7 sk_116 rfl d_Mod_doesFit_34 ?_
          refine V_iload d_Mod_doesFit_37 rfl ?_
          refine N_iald sk_117 z12E (by (first | decide +kernel | omega)) d_Mod_doesFit_39 (fun z15 z15Z z15E z15e => ?_)
          have g16 : 0 ≤ z15Z ∧ z15Z ≤ 15 := inv_at hI z15E z15e (st_c (by (first | decide +kernel | omega)))
          refine V_aload_n 0 d_Mod_doesFit_40 rfl rfl ?_
          refine V_getR fa_Mod_7 sk_116 rfl d_Mod_doesFit_41 ?_
          refine V_iload d_Mod_doesFit_44 rfl ?_
          refine V_iconst 1 d_Mod_doesFit_46 (by decide) ?_
          refine V_iadd z12E tc_1 (by (first | decide +kernel | omega)) d_Mod_doesFit_47 (fun z17 z17e z17E => ?_)
          refine N_iald sk_117 z17E (by (first | decide +kernel | omega)) d_Mod_doesFit_48 (fun z18 z18Z z18E z18e => ?_)
          refine V_aload_n 0 d_Mod_doesFit_49 rfl rfl ?_
          refine V_getR fa_Mod_7 sk_116 rfl d_Mod_doesFit_50 ?_
          refine V_iload d_Mod_doesFit_53 rfl ?_
          refine V_iconst 2 d_Mod_doesFit_55 (by decide) ?_
          refine V_iadd z12E tc_2 (by (first | decide +kernel | omega)) d_Mod_doesFit_56 (fun z19 z19e z19E => ?_)
          refine N_iald sk_117 z19E (by (first | decide +kernel | omega)) d_Mod_doesFit_57 (fun z20 z20Z z20E z20e => ?_)
          refine N_callVI [.int n, .int d, .int z15, .int z18, .int z20] [] cv_Mod_229 sk_116 rfl d_Mod_doesFit_58 rfl (Nat.le_of_ble_eq_true rfl) (by decide) (by decide) (c_Mod_doesTwitch h hI n nZ nE d dZ dE z15 z15Z z15E z18 z18Z z18E z20 z20Z z20E (by (first | decide +kernel | omega))) (fun z21 h22 z21Z z21E p23 => ?_)
          obtain ⟨eh22, p23⟩ := p23
          subst eh22
          refine N_callSI [.int z21] [] cs_Mod_196 d_Mod_doesFit_61 rfl (Nat.le_of_ble_eq_true rfl) (by decide) (by decide) (c_Mod_flag h z21 z21Z z21E) (fun z24 h25 z24Z z24E p26 => ?_)
          obtain ⟨eh25, p26⟩ := p26
          subst eh25
          refine V_aload_n 0 d_Mod_doesFit_64 rfl rfl ?_
          refine V_getR fa_Mod_7 sk_116 rfl d_Mod_doesFit_65 ?_
          refine V_iload d_Mod_doesFit_68 rfl ?_
          refine V_iconst 3 d_Mod_doesFit_70 (by decide) ?_
          refine V_iadd z12E tc_3 (by (first | decide +kernel | omega)) d_Mod_doesFit_71 (fun z27 z27e z27E => ?_)
          refine N_iald sk_117 z27E (by (first | decide +kernel | omega)) d_Mod_doesFit_72 (fun z28 z28Z z28E z28e => ?_)
          refine V_icmp_ne 80 z24E z28E d_Mod_doesFit_73 (by decide) (fun c29 => ?_) (fun c29 => ?_)
          ·
            refine V_iconst 0 d_Mod_doesFit_80 (by decide) ?_
            refine V_istore_n 3 [some (.ref 116), some (.int n), some (.int d), some (.int 0), some (.int v4), some (.int z12)] d_Mod_doesFit_81 rfl (by decide) rfl rfl ?_
            obtain ⟨z30, z30E, z30e⟩ : ∃ y : Int32, y.toInt = v4Z + 1 ∧ y = v4 + Int32.ofInt 1 := ⟨_, ti_add v4E (by decide) (by (first | decide +kernel | omega)), rfl⟩
            refine V_iinc 4 [some (.ref 116), some (.int n), some (.int d), some (.int 0), some (.int z30), some (.int z12)] d_Mod_doesFit_82 rfl z30e.symm (by decide) rfl rfl ?_
            refine V_goto 5 d_Mod_doesFit_85 (by decide) ?_
            refine V_drop 5 [some (.ref 116), some (.int n), some (.int d), some (.int 0), some (.int z30), none] rfl ?_
            exact ihL1 0 0 z30 ((v4Z + 1)) tc_0 z30E (by (first | decide +kernel | omega)) (by (first | decide +kernel | omega)) (by (first | decide +kernel | omega))
          ·
            refine V_iconst 1 d_Mod_doesFit_76 (by decide) ?_
            refine V_goto 81 d_Mod_doesFit_77 (by decide) ?_
            refine V_istore_n 3 [some (.ref 116), some (.int n), some (.int d), some (.int 1), some (.int v4), some (.int z12)] d_Mod_doesFit_81 rfl (by decide) rfl rfl ?_
            obtain ⟨z31, z31E, z31e⟩ : ∃ y : Int32, y.toInt = v4Z + 1 ∧ y = v4 + Int32.ofInt 1 := ⟨_, ti_add v4E (by decide) (by (first | decide +kernel | omega)), rfl⟩
            refine V_iinc 4 [some (.ref 116), some (.int n), some (.int d), some (.int 1), some (.int z31), some (.int z12)] d_Mod_doesFit_82 rfl z31e.symm (by decide) rfl rfl ?_
            refine V_goto 5 d_Mod_doesFit_85 (by decide) ?_
            refine V_drop 5 [some (.ref 116), some (.int n), some (.int d), some (.int 1), some (.int z31), none] rfl ?_
            exact ihL1 1 1 z31 ((v4Z + 1)) tc_1 z31E (by (first | decide +kernel | omega)) (by (first | decide +kernel | omega)) (by (first | decide +kernel | omega))
  exact L1 (Int.toNat ((8 - 0 : Int) + 1)) 1 1 0 0 tc_1 tc_0 (by (first | decide +kernel | omega)) (by (first | decide +kernel | omega)) (by (first | decide +kernel | omega))
theorem d_Mod_reachesOf_0 : decode b_Mod_reachesOf 0 = .ok (.iload_n 0, 1) := dc_26 (by decide +kernel)
theorem d_Mod_reachesOf_1 : decode b_Mod_reachesOf 1 = .ok (.ifCond .eq 8, 3) := dc_153 (a := 0) (b := 8) (by decide +kernel) rfl
theorem d_Mod_reachesOf_4 : decode b_Mod_reachesOf 4 = .ok (.iload_n 0, 1) := dc_26 (by decide +kernel)
theorem d_Mod_reachesOf_5 : decode b_Mod_reachesOf 5 = .ok (.iconst 4, 1) := dc_7 (by decide +kernel)
theorem d_Mod_reachesOf_6 : decode b_Mod_reachesOf 6 = .ok (.if_icmp .ne 8, 3) := dc_160 (a := 0) (b := 8) (by decide +kernel) rfl
theorem d_Mod_reachesOf_9 : decode b_Mod_reachesOf 9 = .ok (.bipush 9, 2) := dc_16 (a := 9) (by decide +kernel) rfl
theorem d_Mod_reachesOf_11 : decode b_Mod_reachesOf 11 = .ok (.goto 4, 3) := dc_167 (a := 0) (b := 4) (by decide +kernel) rfl
theorem d_Mod_reachesOf_14 : decode b_Mod_reachesOf 14 = .ok (.iconst 1, 1) := dc_4 (by decide +kernel)
theorem d_Mod_reachesOf_15 : decode b_Mod_reachesOf 15 = .ok (.ireturn, 1) := dc_172 (by decide +kernel)
abbrev q_Mod_reachesOf (h : Hp) (n : Int32) (nZ : Int) : Option Value → Hp → Prop := pInt (fun r h' => h = h' ∧ (1 ≤ r.toInt ∧ r.toInt ≤ 9))
set_option maxRecDepth 100000 in
theorem c_Mod_reachesOf (h : Hp) (n : Int32) (nZ : Int) (nE : n.toInt = nZ) : Ct y_Mod_reachesOf b_Mod_reachesOf 1 (some .int) 0 0 [.int n] h (q_Mod_reachesOf h n nZ) := by
  refine ct_ow R_Mod [some (.int n)] rfl (by decide) rfl (Nat.le_of_ble_eq_true rfl) ?_
  have f0 : fr [] h h := fr_rf
  refine V_iload_n 0 d_Mod_reachesOf_0 rfl rfl ?_
  refine V_if_eq 9 nE d_Mod_reachesOf_1 (by decide) (fun c1 => ?_) (fun c1 => ?_)
  ·
    refine V_bipush 9 d_Mod_reachesOf_9 (by decide) ?_
    refine V_goto 15 d_Mod_reachesOf_11 (by decide) ?_
    exact V_iret rfl d_Mod_reachesOf_15 ⟨9, rfl, ⟨rfl, (by (try rw [show Int32.toInt 9 = 9 from rfl]); omega)⟩⟩
  ·
    refine V_iload_n 0 d_Mod_reachesOf_4 rfl rfl ?_
    refine V_iconst 4 d_Mod_reachesOf_5 (by decide) ?_
    refine V_icmp_ne 14 nE tc_4 d_Mod_reachesOf_6 (by decide) (fun c2 => ?_) (fun c2 => ?_)
    ·
      refine V_iconst 1 d_Mod_reachesOf_14 (by decide) ?_
      exact V_iret rfl d_Mod_reachesOf_15 ⟨1, rfl, ⟨rfl, (by (try rw [show Int32.toInt 1 = 1 from rfl]); omega)⟩⟩
    ·
      refine V_bipush 9 d_Mod_reachesOf_9 (by decide) ?_
      refine V_goto 15 d_Mod_reachesOf_11 (by decide) ?_
      exact V_iret rfl d_Mod_reachesOf_15 ⟨9, rfl, ⟨rfl, (by (try rw [show Int32.toInt 9 = 9 from rfl]); omega)⟩⟩
theorem d_Mod_natures_0 : decode b_Mod_natures 0 = .ok (.iconst 0, 1) := dc_3 (by decide +kernel)
theorem d_Mod_natures_1 : decode b_Mod_natures 1 = .ok (.istore_n 1, 1) := dc_60 (by decide +kernel)
theorem d_Mod_natures_2 : decode b_Mod_natures 2 = .ok (.iconst 0, 1) := dc_3 (by decide +kernel)
theorem d_Mod_natures_3 : decode b_Mod_natures 3 = .ok (.istore_n 2, 1) := dc_61 (by decide +kernel)
theorem d_Mod_natures_4 : decode b_Mod_natures 4 = .ok (.iload_n 2, 1) := dc_28 (by decide +kernel)
theorem d_Mod_natures_5 : decode b_Mod_natures 5 = .ok (.iconst 4, 1) := dc_7 (by decide +kernel)
theorem d_Mod_natures_6 : decode b_Mod_natures 6 = .ok (.if_icmp .gt 39, 3) := dc_163 (a := 0) (b := 39) (by decide +kernel) rfl
theorem d_Mod_natures_9 : decode b_Mod_natures 9 = .ok (.iconst 1, 1) := dc_4 (by decide +kernel)
theorem d_Mod_natures_10 : decode b_Mod_natures 10 = .ok (.istore_n 3, 1) := dc_62 (by decide +kernel)
theorem d_Mod_natures_11 : decode b_Mod_natures 11 = .ok (.iload_n 3, 1) := dc_29 (by decide +kernel)
theorem d_Mod_natures_12 : decode b_Mod_natures 12 = .ok (.iload_n 2, 1) := dc_28 (by decide +kernel)
theorem d_Mod_natures_13 : decode b_Mod_natures 13 = .ok (.invokestatic 233, 3) := dc_184 (a := 0) (b := 233) (by decide +kernel) rfl
theorem d_Mod_natures_16 : decode b_Mod_natures 16 = .ok (.if_icmp .gt 23, 3) := dc_163 (a := 0) (b := 23) (by decide +kernel) rfl
theorem d_Mod_natures_19 : decode b_Mod_natures 19 = .ok (.iload_n 1, 1) := dc_27 (by decide +kernel)
theorem d_Mod_natures_20 : decode b_Mod_natures 20 = .ok (.aload_n 0, 1) := dc_42 (by decide +kernel)
theorem d_Mod_natures_21 : decode b_Mod_natures 21 = .ok (.iload_n 2, 1) := dc_28 (by decide +kernel)
theorem d_Mod_natures_22 : decode b_Mod_natures 22 = .ok (.iload_n 3, 1) := dc_29 (by decide +kernel)
theorem d_Mod_natures_23 : decode b_Mod_natures 23 = .ok (.invokevirtual 236, 3) := dc_182 (a := 0) (b := 236) (by decide +kernel) rfl
theorem d_Mod_natures_26 : decode b_Mod_natures 26 = .ok (.invokestatic 196, 3) := dc_184 (a := 0) (b := 196) (by decide +kernel) rfl
theorem d_Mod_natures_29 : decode b_Mod_natures 29 = .ok (.iload_n 2, 1) := dc_28 (by decide +kernel)
theorem d_Mod_natures_30 : decode b_Mod_natures 30 = .ok (.ishl, 1) := dc_120 (by decide +kernel)
theorem d_Mod_natures_31 : decode b_Mod_natures 31 = .ok (.ior, 1) := dc_128 (by decide +kernel)
theorem d_Mod_natures_32 : decode b_Mod_natures 32 = .ok (.istore_n 1, 1) := dc_60 (by decide +kernel)
theorem d_Mod_natures_33 : decode b_Mod_natures 33 = .ok (.iinc 3 1, 3) := dc_132 (a := 3) (b := 1) (by decide +kernel) rfl
theorem d_Mod_natures_36 : decode b_Mod_natures 36 = .ok (.goto (-25), 3) := dc_167 (a := 255) (b := 231) (by decide +kernel) rfl
theorem d_Mod_natures_39 : decode b_Mod_natures 39 = .ok (.iinc 2 1, 3) := dc_132 (a := 2) (b := 1) (by decide +kernel) rfl
theorem d_Mod_natures_42 : decode b_Mod_natures 42 = .ok (.goto (-38), 3) := dc_167 (a := 255) (b := 218) (by decide +kernel) rfl
theorem d_Mod_natures_45 : decode b_Mod_natures 45 = .ok (.iload_n 1, 1) := dc_27 (by decide +kernel)
theorem d_Mod_natures_46 : decode b_Mod_natures 46 = .ok (.ireturn, 1) := dc_172 (by decide +kernel)
abbrev q_Mod_natures (h : Hp)  : Option Value → Hp → Prop := pInt (fun r h' => h = h')
set_option maxRecDepth 100000 in
theorem c_Mod_natures (h : Hp) (hI : Inv h) : Ct y_Mod_natures b_Mod_natures 4 (some .int) 2 52 [.ref 116] h (q_Mod_natures h ) := by
  refine ct_ow R_Mod [some (.ref 116), none, none, none] rfl (by decide) rfl (Nat.le_of_ble_eq_true rfl) ?_
  have f0 : fr [] h h := fr_rf
  refine V_iconst 0 d_Mod_natures_0 (by decide) ?_
  refine V_istore_n 1 [some (.ref 116), some (.int 0), none, none] d_Mod_natures_1 rfl (by decide) rfl rfl ?_
  refine V_iconst 0 d_Mod_natures_2 (by decide) ?_
  refine V_istore_n 2 [some (.ref 116), some (.int 0), some (.int 0), none] d_Mod_natures_3 rfl (by decide) rfl rfl ?_
  have L1 : ∀ (nn : Nat) (v3 : Int32) (v3Z : Int) (v4 : Int32) (v4Z : Int), v3.toInt = v3Z → v4.toInt = v4Z → 0 ≤ v4Z ∧ v4Z ≤ 5 → 5 - v4Z < (nn : Int) → V R_Mod b_Mod_natures 4 (some .int) 2 52 (q_Mod_natures h ) h 4 [some (.ref 116), some (.int v3), some (.int v4), none] [] := by
    intro nn
    induction nn with
    | zero => intro v3 v3Z v4 v4Z v3E v4E q5 hm6; exact absurd hm6 (by (first | decide +kernel | omega))
    | succ nn ihL1 =>
      intro v3 v3Z v4 v4Z v3E v4E q5 hm6
      refine V_iload_n 2 d_Mod_natures_4 rfl rfl ?_
      refine V_iconst 4 d_Mod_natures_5 (by decide) ?_
      refine V_icmp_gt 45 v4E tc_4 d_Mod_natures_6 (by decide) (fun c7 => ?_) (fun c7 => ?_)
      ·
        refine V_iload_n 1 d_Mod_natures_45 rfl rfl ?_
        exact V_iret rfl d_Mod_natures_46 ⟨v3, rfl, rfl⟩
      ·
        refine V_iconst 1 d_Mod_natures_9 (by decide) ?_
        refine V_istore_n 3 [some (.ref 116), some (.int v3), some (.int v4), some (.int 1)] d_Mod_natures_10 rfl (by decide) rfl rfl ?_
        have L8 : ∀ (nn : Nat) (v10 : Int32) (v10Z : Int) (v11 : Int32) (v11Z : Int), v10.toInt = v10Z → v11.toInt = v11Z → 1 ≤ v11Z ∧ v11Z ≤ 10 → 10 - v11Z < (nn : Int) → V R_Mod b_Mod_natures 4 (some .int) 2 52 (q_Mod_natures h ) h 11 [some (.ref 116), some (.int v10), some (.int v4), some (.int v11)] [] := by
          intro nn
          induction nn with
          | zero => intro v10 v10Z v11 v11Z v10E v11E q12 hm13; exact absurd hm13 (by (first | decide +kernel | omega))
          | succ nn ihL8 =>
            intro v10 v10Z v11 v11Z v10E v11E q12 hm13
            refine V_iload_n 3 d_Mod_natures_11 rfl rfl ?_
            refine V_iload_n 2 d_Mod_natures_12 rfl rfl ?_
            refine N_callSI [.int v4] [.int v11] cs_Mod_233 d_Mod_natures_13 rfl (Nat.le_of_ble_eq_true rfl) (by decide) (by decide) (c_Mod_reachesOf h v4 v4Z v4E) (fun z14 h15 z14Z z14E p16 => ?_)
            obtain ⟨eh15, p16⟩ := p16
            subst eh15
            refine V_icmp_gt 39 v11E z14E d_Mod_natures_16 (by decide) (fun c17 => ?_) (fun c17 => ?_)
            ·
              obtain ⟨z18, z18E, z18e⟩ : ∃ y : Int32, y.toInt = v4Z + 1 ∧ y = v4 + Int32.ofInt 1 := ⟨_, ti_add v4E (by decide) (by (first | decide +kernel | omega)), rfl⟩
              refine V_iinc 2 [some (.ref 116), some (.int v10), some (.int z18), some (.int v11)] d_Mod_natures_39 rfl z18e.symm (by decide) rfl rfl ?_
              refine V_goto 4 d_Mod_natures_42 (by decide) ?_
              refine V_drop 3 [some (.ref 116), some (.int v10), some (.int z18), none] rfl ?_
              exact ihL1 v10 v10Z z18 ((v4Z + 1)) v10E z18E (by (first | decide +kernel | omega)) (by (first | decide +kernel | omega))
            ·
              refine V_iload_n 1 d_Mod_natures_19 rfl rfl ?_
              refine V_aload_n 0 d_Mod_natures_20 rfl rfl ?_
              refine V_iload_n 2 d_Mod_natures_21 rfl rfl ?_
              refine V_iload_n 3 d_Mod_natures_22 rfl rfl ?_
              refine N_callVI [.int v4, .int v11] [.int v10] cv_Mod_236 sk_116 rfl d_Mod_natures_23 rfl (Nat.le_of_ble_eq_true rfl) (by decide) (by decide) (c_Mod_doesFit h hI v4 v4Z v4E v11 v11Z v11E) (fun z19 h20 z19Z z19E p21 => ?_)
              obtain ⟨eh20, p21⟩ := p21
              subst eh20
              refine N_callSI [.int z19] [.int v10] cs_Mod_196 d_Mod_natures_26 rfl (Nat.le_of_ble_eq_true rfl) (by decide) (by decide) (c_Mod_flag h z19 z19Z z19E) (fun z22 h23 z22Z z22E p24 => ?_)
              obtain ⟨eh23, p24⟩ := p24
              subst eh23
              refine V_iload_n 2 d_Mod_natures_29 rfl rfl ?_
              refine N_ishl d_Mod_natures_30 (fun z25 z25Z z25E z25e => ?_)
              refine N_ior d_Mod_natures_31 (fun z26 z26Z z26E z26e => ?_)
              refine V_istore_n 1 [some (.ref 116), some (.int z26), some (.int v4), some (.int v11)] d_Mod_natures_32 rfl (by decide) rfl rfl ?_
              obtain ⟨z27, z27E, z27e⟩ : ∃ y : Int32, y.toInt = v11Z + 1 ∧ y = v11 + Int32.ofInt 1 := ⟨_, ti_add v11E (by decide) (by (first | decide +kernel | omega)), rfl⟩
              refine V_iinc 3 [some (.ref 116), some (.int z26), some (.int v4), some (.int z27)] d_Mod_natures_33 rfl z27e.symm (by decide) rfl rfl ?_
              refine V_goto 11 d_Mod_natures_36 (by decide) ?_
              exact ihL8 z26 z26Z z27 ((v11Z + 1)) z26E z27E (by (first | decide +kernel | omega)) (by (first | decide +kernel | omega))
        exact L8 (Int.toNat ((10 - 1 : Int) + 1)) v3 v3Z 1 1 v3E tc_1 (by (first | decide +kernel | omega)) (by (first | decide +kernel | omega))
  exact L1 (Int.toNat ((5 - 0 : Int) + 1)) 0 0 0 0 tc_0 tc_0 (by (first | decide +kernel | omega)) (by (first | decide +kernel | omega))
theorem d_Mod_reaches_0 : decode b_Mod_reaches 0 = .ok (.iload_n 1, 1) := dc_27 (by decide +kernel)
theorem d_Mod_reaches_1 : decode b_Mod_reaches 1 = .ok (.i2l, 1) := dc_133 (by decide +kernel)
theorem d_Mod_reaches_2 : decode b_Mod_reaches 2 = .ok (.lconst 0, 1) := dc_9 (by decide +kernel)
theorem d_Mod_reaches_3 : decode b_Mod_reaches 3 = .ok (.ldc2_w 217, 3) := dc_20 (a := 0) (b := 217) (by decide +kernel) rfl
theorem d_Mod_reaches_6 : decode b_Mod_reaches 6 = .ok (.invokestatic 95, 3) := dc_184 (a := 0) (b := 95) (by decide +kernel) rfl
theorem d_Mod_reaches_9 : decode b_Mod_reaches 9 = .ok (.ifCond .ne 5, 3) := dc_154 (a := 0) (b := 5) (by decide +kernel) rfl
theorem d_Mod_reaches_12 : decode b_Mod_reaches 12 = .ok (.iconst (-1), 1) := dc_2 (by decide +kernel)
theorem d_Mod_reaches_13 : decode b_Mod_reaches 13 = .ok (.ireturn, 1) := dc_172 (by decide +kernel)
theorem d_Mod_reaches_14 : decode b_Mod_reaches 14 = .ok (.iconst 0, 1) := dc_3 (by decide +kernel)
theorem d_Mod_reaches_15 : decode b_Mod_reaches 15 = .ok (.istore_n 2, 1) := dc_61 (by decide +kernel)
theorem d_Mod_reaches_16 : decode b_Mod_reaches 16 = .ok (.iconst 1, 1) := dc_4 (by decide +kernel)
theorem d_Mod_reaches_17 : decode b_Mod_reaches 17 = .ok (.istore_n 3, 1) := dc_62 (by decide +kernel)
theorem d_Mod_reaches_18 : decode b_Mod_reaches 18 = .ok (.iload_n 3, 1) := dc_29 (by decide +kernel)
theorem d_Mod_reaches_19 : decode b_Mod_reaches 19 = .ok (.bipush 9, 2) := dc_16 (a := 9) (by decide +kernel) rfl
theorem d_Mod_reaches_21 : decode b_Mod_reaches 21 = .ok (.if_icmp .gt 23, 3) := dc_163 (a := 0) (b := 23) (by decide +kernel) rfl
theorem d_Mod_reaches_24 : decode b_Mod_reaches 24 = .ok (.iload_n 2, 1) := dc_28 (by decide +kernel)
theorem d_Mod_reaches_25 : decode b_Mod_reaches 25 = .ok (.aload_n 0, 1) := dc_42 (by decide +kernel)
theorem d_Mod_reaches_26 : decode b_Mod_reaches 26 = .ok (.iload_n 1, 1) := dc_27 (by decide +kernel)
theorem d_Mod_reaches_27 : decode b_Mod_reaches 27 = .ok (.iload_n 3, 1) := dc_29 (by decide +kernel)
theorem d_Mod_reaches_28 : decode b_Mod_reaches 28 = .ok (.invokevirtual 236, 3) := dc_182 (a := 0) (b := 236) (by decide +kernel) rfl
theorem d_Mod_reaches_31 : decode b_Mod_reaches 31 = .ok (.invokestatic 196, 3) := dc_184 (a := 0) (b := 196) (by decide +kernel) rfl
theorem d_Mod_reaches_34 : decode b_Mod_reaches 34 = .ok (.iload_n 3, 1) := dc_29 (by decide +kernel)
theorem d_Mod_reaches_35 : decode b_Mod_reaches 35 = .ok (.ishl, 1) := dc_120 (by decide +kernel)
theorem d_Mod_reaches_36 : decode b_Mod_reaches 36 = .ok (.ior, 1) := dc_128 (by decide +kernel)
theorem d_Mod_reaches_37 : decode b_Mod_reaches 37 = .ok (.istore_n 2, 1) := dc_61 (by decide +kernel)
theorem d_Mod_reaches_38 : decode b_Mod_reaches 38 = .ok (.iinc 3 1, 3) := dc_132 (a := 3) (b := 1) (by decide +kernel) rfl
theorem d_Mod_reaches_41 : decode b_Mod_reaches 41 = .ok (.goto (-23), 3) := dc_167 (a := 255) (b := 233) (by decide +kernel) rfl
theorem d_Mod_reaches_44 : decode b_Mod_reaches 44 = .ok (.iload_n 2, 1) := dc_28 (by decide +kernel)
theorem d_Mod_reaches_45 : decode b_Mod_reaches 45 = .ok (.ireturn, 1) := dc_172 (by decide +kernel)
abbrev q_Mod_reaches (h : Hp) (n : Int32) (nZ : Int) : Option Value → Hp → Prop := pInt (fun r h' => h = h')
set_option maxRecDepth 100000 in
theorem c_Mod_reaches (h : Hp) (hI : Inv h) (n : Int32) (nZ : Int) (nE : n.toInt = nZ) : Ct y_Mod_reaches b_Mod_reaches 4 (some .int) 2 52 [.ref 116, .int n] h (q_Mod_reaches h n nZ) := by
  refine ct_ow R_Mod [some (.ref 116), some (.int n), none, none] rfl (by decide) rfl (Nat.le_of_ble_eq_true rfl) ?_
  have f0 : fr [] h h := fr_rf
  refine V_iload_n 1 d_Mod_reaches_0 rfl rfl ?_
  refine V_i2l d_Mod_reaches_1 (fun z1 z1e z1E => ?_)
  have z1F : z1.toInt = nZ := z1E.trans nE
  refine V_lconst 0 d_Mod_reaches_2 (by decide) ?_
  refine V_ldc2 d_Mod_reaches_3 wl_Mod_217 ?_
  refine N_callSI [.long z1, .long 0, .long 4] [] cs_Mod_95 d_Mod_reaches_6 rfl (Nat.le_of_ble_eq_true rfl) (by decide) (by decide) (c_Mod_in h z1 nZ z1F 0 0 tl_0 4 4 tl_4) (fun z2 h3 z2Z z2E p4 => ?_)
  obtain ⟨eh3, p4⟩ := p4
  subst eh3
  refine V_if_ne 14 z2E d_Mod_reaches_9 (by decide) (fun c5 => ?_) (fun c5 => ?_)
  ·
    refine V_iconst 0 d_Mod_reaches_14 (by decide) ?_
    refine V_istore_n 2 [some (.ref 116), some (.int n), some (.int 0), none] d_Mod_reaches_15 rfl (by decide) rfl rfl ?_
    refine V_iconst 1 d_Mod_reaches_16 (by decide) ?_
    refine V_istore_n 3 [some (.ref 116), some (.int n), some (.int 0), some (.int 1)] d_Mod_reaches_17 rfl (by decide) rfl rfl ?_
    have L6 : ∀ (nn : Nat) (v8 : Int32) (v8Z : Int) (v9 : Int32) (v9Z : Int), v8.toInt = v8Z → v9.toInt = v9Z → 1 ≤ v9Z ∧ v9Z ≤ 10 → 10 - v9Z < (nn : Int) → V R_Mod b_Mod_reaches 4 (some .int) 2 52 (q_Mod_reaches h n nZ) h 18 [some (.ref 116), some (.int n), some (.int v8), some (.int v9)] [] := by
      intro nn
      induction nn with
      | zero => intro v8 v8Z v9 v9Z v8E v9E q10 hm11; exact absurd hm11 (by (first | decide +kernel | omega))
      | succ nn ihL6 =>
        intro v8 v8Z v9 v9Z v8E v9E q10 hm11
        refine V_iload_n 3 d_Mod_reaches_18 rfl rfl ?_
        refine V_bipush 9 d_Mod_reaches_19 (by decide) ?_
        refine V_icmp_gt 44 v9E tc_9 d_Mod_reaches_21 (by decide) (fun c12 => ?_) (fun c12 => ?_)
        ·
          refine V_iload_n 2 d_Mod_reaches_44 rfl rfl ?_
          exact V_iret rfl d_Mod_reaches_45 ⟨v8, rfl, rfl⟩
        ·
          refine V_iload_n 2 d_Mod_reaches_24 rfl rfl ?_
          refine V_aload_n 0 d_Mod_reaches_25 rfl rfl ?_
          refine V_iload_n 1 d_Mod_reaches_26 rfl rfl ?_
          refine V_iload_n 3 d_Mod_reaches_27 rfl rfl ?_
          refine N_callVI [.int n, .int v9] [.int v8] cv_Mod_236 sk_116 rfl d_Mod_reaches_28 rfl (Nat.le_of_ble_eq_true rfl) (by decide) (by decide) (c_Mod_doesFit h hI n nZ nE v9 v9Z v9E) (fun z13 h14 z13Z z13E p15 => ?_)
          obtain ⟨eh14, p15⟩ := p15
          subst eh14
          refine N_callSI [.int z13] [.int v8] cs_Mod_196 d_Mod_reaches_31 rfl (Nat.le_of_ble_eq_true rfl) (by decide) (by decide) (c_Mod_flag h z13 z13Z z13E) (fun z16 h17 z16Z z16E p18 => ?_)
          obtain ⟨eh17, p18⟩ := p18
          subst eh17
          refine V_iload_n 3 d_Mod_reaches_34 rfl rfl ?_
          refine N_ishl d_Mod_reaches_35 (fun z19 z19Z z19E z19e => ?_)
          refine N_ior d_Mod_reaches_36 (fun z20 z20Z z20E z20e => ?_)
          refine V_istore_n 2 [some (.ref 116), some (.int n), some (.int z20), some (.int v9)] d_Mod_reaches_37 rfl (by decide) rfl rfl ?_
          obtain ⟨z21, z21E, z21e⟩ : ∃ y : Int32, y.toInt = v9Z + 1 ∧ y = v9 + Int32.ofInt 1 := ⟨_, ti_add v9E (by decide) (by (first | decide +kernel | omega)), rfl⟩
          refine V_iinc 3 [some (.ref 116), some (.int n), some (.int z20), some (.int z21)] d_Mod_reaches_38 rfl z21e.symm (by decide) rfl rfl ?_
          refine V_goto 18 d_Mod_reaches_41 (by decide) ?_
          exact ihL6 z20 z20Z z21 ((v9Z + 1)) z20E z21E (by (first | decide +kernel | omega)) (by (first | decide +kernel | omega))
    exact L6 (Int.toNat ((10 - 1 : Int) + 1)) 0 0 1 1 tc_0 tc_1 (by (first | decide +kernel | omega)) (by (first | decide +kernel | omega))
  ·
    refine V_iconst (-1) d_Mod_reaches_12 (by decide) ?_
    exact V_iret rfl d_Mod_reaches_13 ⟨(-1), rfl, rfl⟩
theorem d_Mod_rodsBy_0 : decode b_Mod_rodsBy 0 = .ok (.iconst 0, 1) := dc_3 (by decide +kernel)
theorem d_Mod_rodsBy_1 : decode b_Mod_rodsBy 1 = .ok (.istore 5, 2) := dc_54 (a := 5) (by decide +kernel) rfl
theorem d_Mod_rodsBy_3 : decode b_Mod_rodsBy 3 = .ok (.iconst 0, 1) := dc_3 (by decide +kernel)
theorem d_Mod_rodsBy_4 : decode b_Mod_rodsBy 4 = .ok (.istore 6, 2) := dc_54 (a := 6) (by decide +kernel) rfl
theorem d_Mod_rodsBy_6 : decode b_Mod_rodsBy 6 = .ok (.iload 6, 2) := dc_21 (a := 6) (by decide +kernel) rfl
theorem d_Mod_rodsBy_8 : decode b_Mod_rodsBy 8 = .ok (.iconst 4, 1) := dc_7 (by decide +kernel)
theorem d_Mod_rodsBy_9 : decode b_Mod_rodsBy 9 = .ok (.if_icmp .gt 68, 3) := dc_163 (a := 0) (b := 68) (by decide +kernel) rfl
theorem d_Mod_rodsBy_12 : decode b_Mod_rodsBy 12 = .ok (.iconst 1, 1) := dc_4 (by decide +kernel)
theorem d_Mod_rodsBy_13 : decode b_Mod_rodsBy 13 = .ok (.istore 7, 2) := dc_54 (a := 7) (by decide +kernel) rfl
theorem d_Mod_rodsBy_15 : decode b_Mod_rodsBy 15 = .ok (.iload 7, 2) := dc_21 (a := 7) (by decide +kernel) rfl
theorem d_Mod_rodsBy_17 : decode b_Mod_rodsBy 17 = .ok (.iload 6, 2) := dc_21 (a := 6) (by decide +kernel) rfl
theorem d_Mod_rodsBy_19 : decode b_Mod_rodsBy 19 = .ok (.invokestatic 233, 3) := dc_184 (a := 0) (b := 233) (by decide +kernel) rfl
theorem d_Mod_rodsBy_22 : decode b_Mod_rodsBy 22 = .ok (.if_icmp .gt 49, 3) := dc_163 (a := 0) (b := 49) (by decide +kernel) rfl
theorem d_Mod_rodsBy_25 : decode b_Mod_rodsBy 25 = .ok (.iload 5, 2) := dc_21 (a := 5) (by decide +kernel) rfl
theorem d_Mod_rodsBy_27 : decode b_Mod_rodsBy 27 = .ok (.aload_n 0, 1) := dc_42 (by decide +kernel)
theorem d_Mod_rodsBy_28 : decode b_Mod_rodsBy 28 = .ok (.iload 6, 2) := dc_21 (a := 6) (by decide +kernel) rfl
theorem d_Mod_rodsBy_30 : decode b_Mod_rodsBy 30 = .ok (.iload 7, 2) := dc_21 (a := 7) (by decide +kernel) rfl
theorem d_Mod_rodsBy_32 : decode b_Mod_rodsBy 32 = .ok (.invokevirtual 236, 3) := dc_182 (a := 0) (b := 236) (by decide +kernel) rfl
theorem d_Mod_rodsBy_35 : decode b_Mod_rodsBy 35 = .ok (.ifCond .eq 23, 3) := dc_153 (a := 0) (b := 23) (by decide +kernel) rfl
theorem d_Mod_rodsBy_38 : decode b_Mod_rodsBy 38 = .ok (.aload_n 0, 1) := dc_42 (by decide +kernel)
theorem d_Mod_rodsBy_39 : decode b_Mod_rodsBy 39 = .ok (.iload 6, 2) := dc_21 (a := 6) (by decide +kernel) rfl
theorem d_Mod_rodsBy_41 : decode b_Mod_rodsBy 41 = .ok (.iload 7, 2) := dc_21 (a := 7) (by decide +kernel) rfl
theorem d_Mod_rodsBy_43 : decode b_Mod_rodsBy 43 = .ok (.iload_n 1, 1) := dc_27 (by decide +kernel)
theorem d_Mod_rodsBy_44 : decode b_Mod_rodsBy 44 = .ok (.iload_n 2, 1) := dc_28 (by decide +kernel)
theorem d_Mod_rodsBy_45 : decode b_Mod_rodsBy 45 = .ok (.iload_n 3, 1) := dc_29 (by decide +kernel)
theorem d_Mod_rodsBy_46 : decode b_Mod_rodsBy 46 = .ok (.invokevirtual 229, 3) := dc_182 (a := 0) (b := 229) (by decide +kernel) rfl
theorem d_Mod_rodsBy_49 : decode b_Mod_rodsBy 49 = .ok (.iload 4, 2) := dc_21 (a := 4) (by decide +kernel) rfl
theorem d_Mod_rodsBy_51 : decode b_Mod_rodsBy 51 = .ok (.if_icmp .ne 7, 3) := dc_160 (a := 0) (b := 7) (by decide +kernel) rfl
theorem d_Mod_rodsBy_54 : decode b_Mod_rodsBy 54 = .ok (.iconst 1, 1) := dc_4 (by decide +kernel)
theorem d_Mod_rodsBy_55 : decode b_Mod_rodsBy 55 = .ok (.goto 4, 3) := dc_167 (a := 0) (b := 4) (by decide +kernel) rfl
theorem d_Mod_rodsBy_58 : decode b_Mod_rodsBy 58 = .ok (.iconst 0, 1) := dc_3 (by decide +kernel)
theorem d_Mod_rodsBy_59 : decode b_Mod_rodsBy 59 = .ok (.invokestatic 196, 3) := dc_184 (a := 0) (b := 196) (by decide +kernel) rfl
theorem d_Mod_rodsBy_62 : decode b_Mod_rodsBy 62 = .ok (.iadd, 1) := dc_96 (by decide +kernel)
theorem d_Mod_rodsBy_63 : decode b_Mod_rodsBy 63 = .ok (.istore 5, 2) := dc_54 (a := 5) (by decide +kernel) rfl
theorem d_Mod_rodsBy_65 : decode b_Mod_rodsBy 65 = .ok (.iinc 7 1, 3) := dc_132 (a := 7) (b := 1) (by decide +kernel) rfl
theorem d_Mod_rodsBy_68 : decode b_Mod_rodsBy 68 = .ok (.goto (-53), 3) := dc_167 (a := 255) (b := 203) (by decide +kernel) rfl
theorem d_Mod_rodsBy_71 : decode b_Mod_rodsBy 71 = .ok (.iinc 6 1, 3) := dc_132 (a := 6) (b := 1) (by decide +kernel) rfl
theorem d_Mod_rodsBy_74 : decode b_Mod_rodsBy 74 = .ok (.goto (-68), 3) := dc_167 (a := 255) (b := 188) (by decide +kernel) rfl
theorem d_Mod_rodsBy_77 : decode b_Mod_rodsBy 77 = .ok (.iload 5, 2) := dc_21 (a := 5) (by decide +kernel) rfl
theorem d_Mod_rodsBy_79 : decode b_Mod_rodsBy 79 = .ok (.ireturn, 1) := dc_172 (by decide +kernel)
abbrev q_Mod_rodsBy (h : Hp) (c : Int32) (cZ : Int) (o : Int32) (oZ : Int) (s : Int32) (sZ : Int) (b : Int32) (bZ : Int) : Option Value → Hp → Prop := pInt (fun r h' => h = h')
set_option maxRecDepth 100000 in
theorem c_Mod_rodsBy (h : Hp) (hI : Inv h) (c : Int32) (cZ : Int) (cE : c.toInt = cZ) (o : Int32) (oZ : Int) (oE : o.toInt = oZ) (s : Int32) (sZ : Int) (sE : s.toInt = sZ) (b : Int32) (bZ : Int) (bE : b.toInt = bZ) (hy0 : 0 ≤ cZ ∧ cZ ≤ 15) : Ct y_Mod_rodsBy b_Mod_rodsBy 8 (some .int) 2 52 [.ref 116, .int c, .int o, .int s, .int b] h (q_Mod_rodsBy h c cZ o oZ s sZ b bZ) := by
  refine ct_ow R_Mod [some (.ref 116), some (.int c), some (.int o), some (.int s), some (.int b), none, none, none] rfl (by decide) rfl (Nat.le_of_ble_eq_true rfl) ?_
  have f0 : fr [] h h := fr_rf
  refine V_iconst 0 d_Mod_rodsBy_0 (by decide) ?_
  refine V_istore 5 [some (.ref 116), some (.int c), some (.int o), some (.int s), some (.int b), some (.int 0), none, none] d_Mod_rodsBy_1 (by decide) rfl rfl ?_
  refine V_iconst 0 d_Mod_rodsBy_3 (by decide) ?_
  refine V_istore 6 [some (.ref 116), some (.int c), some (.int o), some (.int s), some (.int b), some (.int 0), some (.int 0), none] d_Mod_rodsBy_4 (by decide) rfl rfl ?_
  have L1 : ∀ (nn : Nat) (v3 : Int32) (v3Z : Int) (v4 : Int32) (v4Z : Int), v3.toInt = v3Z → v4.toInt = v4Z → 0 ≤ v4Z ∧ v4Z ≤ 5 → 5 - v4Z < (nn : Int) → V R_Mod b_Mod_rodsBy 8 (some .int) 2 52 (q_Mod_rodsBy h c cZ o oZ s sZ b bZ) h 6 [some (.ref 116), some (.int c), some (.int o), some (.int s), some (.int b), some (.int v3), some (.int v4), none] [] := by
    intro nn
    induction nn with
    | zero => intro v3 v3Z v4 v4Z v3E v4E q5 hm6; exact absurd hm6 (by (first | decide +kernel | omega))
    | succ nn ihL1 =>
      intro v3 v3Z v4 v4Z v3E v4E q5 hm6
      refine V_iload d_Mod_rodsBy_6 rfl ?_
      refine V_iconst 4 d_Mod_rodsBy_8 (by decide) ?_
      refine V_icmp_gt 77 v4E tc_4 d_Mod_rodsBy_9 (by decide) (fun c7 => ?_) (fun c7 => ?_)
      ·
        refine V_iload d_Mod_rodsBy_77 rfl ?_
        exact V_iret rfl d_Mod_rodsBy_79 ⟨v3, rfl, rfl⟩
      ·
        refine V_iconst 1 d_Mod_rodsBy_12 (by decide) ?_
        refine V_istore 7 [some (.ref 116), some (.int c), some (.int o), some (.int s), some (.int b), some (.int v3), some (.int v4), some (.int 1)] d_Mod_rodsBy_13 (by decide) rfl rfl ?_
        have L8 : ∀ (nn : Nat) (v10 : Int32) (v10Z : Int) (v11 : Int32) (v11Z : Int), v10.toInt = v10Z → v11.toInt = v11Z → 1 ≤ v11Z ∧ v11Z ≤ 10 → 10 - v11Z < (nn : Int) → V R_Mod b_Mod_rodsBy 8 (some .int) 2 52 (q_Mod_rodsBy h c cZ o oZ s sZ b bZ) h 15 [some (.ref 116), some (.int c), some (.int o), some (.int s), some (.int b), some (.int v10), some (.int v4), some (.int v11)] [] := by
          intro nn
          induction nn with
          | zero => intro v10 v10Z v11 v11Z v10E v11E q12 hm13; exact absurd hm13 (by (first | decide +kernel | omega))
          | succ nn ihL8 =>
            intro v10 v10Z v11 v11Z v10E v11E q12 hm13
            refine V_iload d_Mod_rodsBy_15 rfl ?_
            refine V_iload d_Mod_rodsBy_17 rfl ?_
            refine N_callSI [.int v4] [.int v11] cs_Mod_233 d_Mod_rodsBy_19 rfl (Nat.le_of_ble_eq_true rfl) (by decide) (by decide) (c_Mod_reachesOf h v4 v4Z v4E) (fun z14 h15 z14Z z14E p16 => ?_)
            obtain ⟨eh15, p16⟩ := p16
            subst eh15
            refine V_icmp_gt 71 v11E z14E d_Mod_rodsBy_22 (by decide) (fun c17 => ?_) (fun c17 => ?_)
            ·
              obtain ⟨z18, z18E, z18e⟩ : ∃ y : Int32, y.toInt = v4Z + 1 ∧ y = v4 + Int32.ofInt 1 := ⟨_, ti_add v4E (by decide) (by (first | decide +kernel | omega)), rfl⟩
              refine V_iinc 6 [some (.ref 116), some (.int c), some (.int o), some (.int s), some (.int b), some (.int v10), some (.int z18), some (.int v11)] d_Mod_rodsBy_71 rfl z18e.symm (by decide) rfl rfl ?_
              refine V_goto 6 d_Mod_rodsBy_74 (by decide) ?_
              refine V_drop 7 [some (.ref 116), some (.int c), some (.int o), some (.int s), some (.int b), some (.int v10), some (.int z18), none] rfl ?_
              exact ihL1 v10 v10Z z18 ((v4Z + 1)) v10E z18E (by (first | decide +kernel | omega)) (by (first | decide +kernel | omega))
            ·
              refine V_iload d_Mod_rodsBy_25 rfl ?_
              refine V_aload_n 0 d_Mod_rodsBy_27 rfl rfl ?_
              refine V_iload d_Mod_rodsBy_28 rfl ?_
              refine V_iload d_Mod_rodsBy_30 rfl ?_
              refine N_callVI [.int v4, .int v11] [.int v10] cv_Mod_236 sk_116 rfl d_Mod_rodsBy_32 rfl (Nat.le_of_ble_eq_true rfl) (by decide) (by decide) (c_Mod_doesFit h hI v4 v4Z v4E v11 v11Z v11E) (fun z19 h20 z19Z z19E p21 => ?_)
              obtain ⟨eh20, p21⟩ := p21
              subst eh20
              refine V_if_eq 58 z19E d_Mod_rodsBy_35 (by decide) (fun c22 => ?_) (fun c22 => ?_)
              ·
                refine V_iconst 0 d_Mod_rodsBy_58 (by decide) ?_
                refine N_callSI [.int 0] [.int v10] cs_Mod_196 d_Mod_rodsBy_59 rfl (Nat.le_of_ble_eq_true rfl) (by decide) (by decide) (c_Mod_flag h 0 0 tc_0) (fun z23 h24 z23Z z23E p25 => ?_)
                obtain ⟨eh24, p25⟩ := p25
                subst eh24
                refine N_iaddw d_Mod_rodsBy_62 (fun z26 z26Z z26E z26e => ?_)
                refine V_istore 5 [some (.ref 116), some (.int c), some (.int o), some (.int s), some (.int b), some (.int z26), some (.int v4), some (.int v11)] d_Mod_rodsBy_63 (by decide) rfl rfl ?_
                obtain ⟨z27, z27E, z27e⟩ : ∃ y : Int32, y.toInt = v11Z + 1 ∧ y = v11 + Int32.ofInt 1 := ⟨_, ti_add v11E (by decide) (by (first | decide +kernel | omega)), rfl⟩
                refine V_iinc 7 [some (.ref 116), some (.int c), some (.int o), some (.int s), some (.int b), some (.int z26), some (.int v4), some (.int z27)] d_Mod_rodsBy_65 rfl z27e.symm (by decide) rfl rfl ?_
                refine V_goto 15 d_Mod_rodsBy_68 (by decide) ?_
                exact ihL8 z26 z26Z z27 ((v11Z + 1)) z26E z27E (by (first | decide +kernel | omega)) (by (first | decide +kernel | omega))
              ·
                refine V_aload_n 0 d_Mod_rodsBy_38 rfl rfl ?_
                refine V_iload d_Mod_rodsBy_39 rfl ?_
                refine V_iload d_Mod_rodsBy_41 rfl ?_
                refine V_iload_n 1 d_Mod_rodsBy_43 rfl rfl ?_
                refine V_iload_n 2 d_Mod_rodsBy_44 rfl rfl ?_
                refine V_iload_n 3 d_Mod_rodsBy_45 rfl rfl ?_
                refine N_callVI [.int v4, .int v11, .int c, .int o, .int s] [.int v10] cv_Mod_229 sk_116 rfl d_Mod_rodsBy_46 rfl (Nat.le_of_ble_eq_true rfl) (by decide) (by decide) (c_Mod_doesTwitch h hI v4 v4Z v4E v11 v11Z v11E c cZ cE o oZ oE s sZ sE (by (first | decide +kernel | omega))) (fun z28 h29 z28Z z28E p30 => ?_)
                obtain ⟨eh29, p30⟩ := p30
                subst eh29
                refine V_iload d_Mod_rodsBy_49 rfl ?_
                refine V_icmp_ne 58 z28E bE d_Mod_rodsBy_51 (by decide) (fun c31 => ?_) (fun c31 => ?_)
                ·
                  refine V_iconst 0 d_Mod_rodsBy_58 (by decide) ?_
                  refine N_callSI [.int 0] [.int v10] cs_Mod_196 d_Mod_rodsBy_59 rfl (Nat.le_of_ble_eq_true rfl) (by decide) (by decide) (c_Mod_flag h 0 0 tc_0) (fun z32 h33 z32Z z32E p34 => ?_)
                  obtain ⟨eh33, p34⟩ := p34
                  subst eh33
                  refine N_iaddw d_Mod_rodsBy_62 (fun z35 z35Z z35E z35e => ?_)
                  refine V_istore 5 [some (.ref 116), some (.int c), some (.int o), some (.int s), some (.int b), some (.int z35), some (.int v4), some (.int v11)] d_Mod_rodsBy_63 (by decide) rfl rfl ?_
                  obtain ⟨z36, z36E, z36e⟩ : ∃ y : Int32, y.toInt = v11Z + 1 ∧ y = v11 + Int32.ofInt 1 := ⟨_, ti_add v11E (by decide) (by (first | decide +kernel | omega)), rfl⟩
                  refine V_iinc 7 [some (.ref 116), some (.int c), some (.int o), some (.int s), some (.int b), some (.int z35), some (.int v4), some (.int z36)] d_Mod_rodsBy_65 rfl z36e.symm (by decide) rfl rfl ?_
                  refine V_goto 15 d_Mod_rodsBy_68 (by decide) ?_
                  exact ihL8 z35 z35Z z36 ((v11Z + 1)) z35E z36E (by (first | decide +kernel | omega)) (by (first | decide +kernel | omega))
                ·
                  refine V_iconst 1 d_Mod_rodsBy_54 (by decide) ?_
                  refine V_goto 59 d_Mod_rodsBy_55 (by decide) ?_
                  refine N_callSI [.int 1] [.int v10] cs_Mod_196 d_Mod_rodsBy_59 rfl (Nat.le_of_ble_eq_true rfl) (by decide) (by decide) (c_Mod_flag h 1 1 tc_1) (fun z37 h38 z37Z z37E p39 => ?_)
                  obtain ⟨eh38, p39⟩ := p39
                  subst eh38
                  refine N_iaddw d_Mod_rodsBy_62 (fun z40 z40Z z40E z40e => ?_)
                  refine V_istore 5 [some (.ref 116), some (.int c), some (.int o), some (.int s), some (.int b), some (.int z40), some (.int v4), some (.int v11)] d_Mod_rodsBy_63 (by decide) rfl rfl ?_
                  obtain ⟨z41, z41E, z41e⟩ : ∃ y : Int32, y.toInt = v11Z + 1 ∧ y = v11 + Int32.ofInt 1 := ⟨_, ti_add v11E (by decide) (by (first | decide +kernel | omega)), rfl⟩
                  refine V_iinc 7 [some (.ref 116), some (.int c), some (.int o), some (.int s), some (.int b), some (.int z40), some (.int v4), some (.int z41)] d_Mod_rodsBy_65 rfl z41e.symm (by decide) rfl rfl ?_
                  refine V_goto 15 d_Mod_rodsBy_68 (by decide) ?_
                  exact ihL8 z40 z40Z z41 ((v11Z + 1)) z40E z41E (by (first | decide +kernel | omega)) (by (first | decide +kernel | omega))
        exact L8 (Int.toNat ((10 - 1 : Int) + 1)) v3 v3Z 1 1 v3E tc_1 (by (first | decide +kernel | omega)) (by (first | decide +kernel | omega))
  exact L1 (Int.toNat ((5 - 0 : Int) + 1)) 0 0 0 0 tc_0 tc_0 (by (first | decide +kernel | omega)) (by (first | decide +kernel | omega))
theorem d_Mod_test_0 : decode b_Mod_test 0 = .ok (.iload_n 1, 1) := dc_27 (by decide +kernel)
theorem d_Mod_test_1 : decode b_Mod_test 1 = .ok (.invokestatic 205, 3) := dc_184 (a := 0) (b := 205) (by decide +kernel) rfl
theorem d_Mod_test_4 : decode b_Mod_test 4 = .ok (.ifCond .eq 13, 3) := dc_153 (a := 0) (b := 13) (by decide +kernel) rfl
theorem d_Mod_test_7 : decode b_Mod_test 7 = .ok (.iload_n 2, 1) := dc_28 (by decide +kernel)
theorem d_Mod_test_8 : decode b_Mod_test 8 = .ok (.i2l, 1) := dc_133 (by decide +kernel)
theorem d_Mod_test_9 : decode b_Mod_test 9 = .ok (.lconst 0, 1) := dc_9 (by decide +kernel)
theorem d_Mod_test_10 : decode b_Mod_test 10 = .ok (.lconst 1, 1) := dc_10 (by decide +kernel)
theorem d_Mod_test_11 : decode b_Mod_test 11 = .ok (.invokestatic 95, 3) := dc_184 (a := 0) (b := 95) (by decide +kernel) rfl
theorem d_Mod_test_14 : decode b_Mod_test 14 = .ok (.ifCond .ne 5, 3) := dc_154 (a := 0) (b := 5) (by decide +kernel) rfl
theorem d_Mod_test_17 : decode b_Mod_test 17 = .ok (.iconst (-1), 1) := dc_2 (by decide +kernel)
theorem d_Mod_test_18 : decode b_Mod_test 18 = .ok (.ireturn, 1) := dc_172 (by decide +kernel)
theorem d_Mod_test_19 : decode b_Mod_test 19 = .ok (.aload_n 0, 1) := dc_42 (by decide +kernel)
theorem d_Mod_test_20 : decode b_Mod_test 20 = .ok (.iconst 0, 1) := dc_3 (by decide +kernel)
theorem d_Mod_test_21 : decode b_Mod_test 21 = .ok (.iload_n 1, 1) := dc_27 (by decide +kernel)
theorem d_Mod_test_22 : decode b_Mod_test 22 = .ok (.iconst 1, 1) := dc_4 (by decide +kernel)
theorem d_Mod_test_23 : decode b_Mod_test 23 = .ok (.iconst 1, 1) := dc_4 (by decide +kernel)
theorem d_Mod_test_24 : decode b_Mod_test 24 = .ok (.invokevirtual 239, 3) := dc_182 (a := 0) (b := 239) (by decide +kernel) rfl
theorem d_Mod_test_27 : decode b_Mod_test 27 = .ok (.aload_n 0, 1) := dc_42 (by decide +kernel)
theorem d_Mod_test_28 : decode b_Mod_test 28 = .ok (.iconst 0, 1) := dc_3 (by decide +kernel)
theorem d_Mod_test_29 : decode b_Mod_test 29 = .ok (.iload_n 1, 1) := dc_27 (by decide +kernel)
theorem d_Mod_test_30 : decode b_Mod_test 30 = .ok (.iconst 1, 1) := dc_4 (by decide +kernel)
theorem d_Mod_test_31 : decode b_Mod_test 31 = .ok (.iconst 0, 1) := dc_3 (by decide +kernel)
theorem d_Mod_test_32 : decode b_Mod_test 32 = .ok (.invokevirtual 239, 3) := dc_182 (a := 0) (b := 239) (by decide +kernel) rfl
theorem d_Mod_test_35 : decode b_Mod_test 35 = .ok (.iadd, 1) := dc_96 (by decide +kernel)
theorem d_Mod_test_36 : decode b_Mod_test 36 = .ok (.istore_n 3, 1) := dc_62 (by decide +kernel)
theorem d_Mod_test_37 : decode b_Mod_test 37 = .ok (.bipush (-4), 2) := dc_16 (a := 252) (by decide +kernel) rfl
theorem d_Mod_test_39 : decode b_Mod_test 39 = .ok (.istore 4, 2) := dc_54 (a := 4) (by decide +kernel) rfl
theorem d_Mod_test_41 : decode b_Mod_test 41 = .ok (.iconst 0, 1) := dc_3 (by decide +kernel)
theorem d_Mod_test_42 : decode b_Mod_test 42 = .ok (.istore 5, 2) := dc_54 (a := 5) (by decide +kernel) rfl
theorem d_Mod_test_44 : decode b_Mod_test 44 = .ok (.iload 5, 2) := dc_21 (a := 5) (by decide +kernel) rfl
theorem d_Mod_test_46 : decode b_Mod_test 46 = .ok (.aload_n 0, 1) := dc_42 (by decide +kernel)
theorem d_Mod_test_47 : decode b_Mod_test 47 = .ok (.invokevirtual 183, 3) := dc_182 (a := 0) (b := 183) (by decide +kernel) rfl
theorem d_Mod_test_50 : decode b_Mod_test 50 = .ok (.if_icmp .ge 98, 3) := dc_162 (a := 0) (b := 98) (by decide +kernel) rfl
theorem d_Mod_test_53 : decode b_Mod_test 53 = .ok (.iconst 1, 1) := dc_4 (by decide +kernel)
theorem d_Mod_test_54 : decode b_Mod_test 54 = .ok (.istore 6, 2) := dc_54 (a := 6) (by decide +kernel) rfl
theorem d_Mod_test_56 : decode b_Mod_test 56 = .ok (.iload 6, 2) := dc_21 (a := 6) (by decide +kernel) rfl
theorem d_Mod_test_58 : decode b_Mod_test 58 = .ok (.iconst 2, 1) := dc_5 (by decide +kernel)
theorem d_Mod_test_59 : decode b_Mod_test 59 = .ok (.if_icmp .gt 83, 3) := dc_163 (a := 0) (b := 83) (by decide +kernel) rfl
theorem d_Mod_test_62 : decode b_Mod_test 62 = .ok (.aload_n 0, 1) := dc_42 (by decide +kernel)
theorem d_Mod_test_63 : decode b_Mod_test 63 = .ok (.iload 5, 2) := dc_21 (a := 5) (by decide +kernel) rfl
theorem d_Mod_test_65 : decode b_Mod_test 65 = .ok (.iload_n 1, 1) := dc_27 (by decide +kernel)
theorem d_Mod_test_66 : decode b_Mod_test 66 = .ok (.iload 6, 2) := dc_21 (a := 6) (by decide +kernel) rfl
theorem d_Mod_test_68 : decode b_Mod_test 68 = .ok (.iconst 1, 1) := dc_4 (by decide +kernel)
theorem d_Mod_test_69 : decode b_Mod_test 69 = .ok (.invokevirtual 239, 3) := dc_182 (a := 0) (b := 239) (by decide +kernel) rfl
theorem d_Mod_test_72 : decode b_Mod_test 72 = .ok (.istore 7, 2) := dc_54 (a := 7) (by decide +kernel) rfl
theorem d_Mod_test_74 : decode b_Mod_test 74 = .ok (.aload_n 0, 1) := dc_42 (by decide +kernel)
theorem d_Mod_test_75 : decode b_Mod_test 75 = .ok (.iload 5, 2) := dc_21 (a := 5) (by decide +kernel) rfl
theorem d_Mod_test_77 : decode b_Mod_test 77 = .ok (.iload_n 1, 1) := dc_27 (by decide +kernel)
theorem d_Mod_test_78 : decode b_Mod_test 78 = .ok (.iload 6, 2) := dc_21 (a := 6) (by decide +kernel) rfl
theorem d_Mod_test_80 : decode b_Mod_test 80 = .ok (.iconst 0, 1) := dc_3 (by decide +kernel)
theorem d_Mod_test_81 : decode b_Mod_test 81 = .ok (.invokevirtual 239, 3) := dc_182 (a := 0) (b := 239) (by decide +kernel) rfl
theorem d_Mod_test_84 : decode b_Mod_test 84 = .ok (.istore 8, 2) := dc_54 (a := 8) (by decide +kernel) rfl
theorem d_Mod_test_86 : decode b_Mod_test 86 = .ok (.iload 7, 2) := dc_21 (a := 7) (by decide +kernel) rfl
theorem d_Mod_test_88 : decode b_Mod_test 88 = .ok (.iload 8, 2) := dc_21 (a := 8) (by decide +kernel) rfl
theorem d_Mod_test_90 : decode b_Mod_test 90 = .ok (.if_icmp .le 8, 3) := dc_164 (a := 0) (b := 8) (by decide +kernel) rfl
theorem d_Mod_test_93 : decode b_Mod_test 93 = .ok (.iload 7, 2) := dc_21 (a := 7) (by decide +kernel) rfl
theorem d_Mod_test_95 : decode b_Mod_test 95 = .ok (.goto 5, 3) := dc_167 (a := 0) (b := 5) (by decide +kernel) rfl
theorem d_Mod_test_98 : decode b_Mod_test 98 = .ok (.iload 8, 2) := dc_21 (a := 8) (by decide +kernel) rfl
theorem d_Mod_test_100 : decode b_Mod_test 100 = .ok (.istore 9, 2) := dc_54 (a := 9) (by decide +kernel) rfl
theorem d_Mod_test_102 : decode b_Mod_test 102 = .ok (.iload 9, 2) := dc_21 (a := 9) (by decide +kernel) rfl
theorem d_Mod_test_104 : decode b_Mod_test 104 = .ok (.iload_n 3, 1) := dc_29 (by decide +kernel)
theorem d_Mod_test_105 : decode b_Mod_test 105 = .ok (.if_icmp .ge 14, 3) := dc_162 (a := 0) (b := 14) (by decide +kernel) rfl
theorem d_Mod_test_108 : decode b_Mod_test 108 = .ok (.bipush 10, 2) := dc_16 (a := 10) (by decide +kernel) rfl
theorem d_Mod_test_110 : decode b_Mod_test 110 = .ok (.iload 5, 2) := dc_21 (a := 5) (by decide +kernel) rfl
theorem d_Mod_test_112 : decode b_Mod_test 112 = .ok (.imul, 1) := dc_104 (by decide +kernel)
theorem d_Mod_test_113 : decode b_Mod_test 113 = .ok (.iload 6, 2) := dc_21 (a := 6) (by decide +kernel) rfl
theorem d_Mod_test_115 : decode b_Mod_test 115 = .ok (.iadd, 1) := dc_96 (by decide +kernel)
theorem d_Mod_test_116 : decode b_Mod_test 116 = .ok (.goto 5, 3) := dc_167 (a := 0) (b := 5) (by decide +kernel) rfl
theorem d_Mod_test_119 : decode b_Mod_test 119 = .ok (.iload 4, 2) := dc_21 (a := 4) (by decide +kernel) rfl
theorem d_Mod_test_121 : decode b_Mod_test 121 = .ok (.istore 4, 2) := dc_54 (a := 4) (by decide +kernel) rfl
theorem d_Mod_test_123 : decode b_Mod_test 123 = .ok (.iload 9, 2) := dc_21 (a := 9) (by decide +kernel) rfl
theorem d_Mod_test_125 : decode b_Mod_test 125 = .ok (.iload_n 3, 1) := dc_29 (by decide +kernel)
theorem d_Mod_test_126 : decode b_Mod_test 126 = .ok (.if_icmp .ge 8, 3) := dc_162 (a := 0) (b := 8) (by decide +kernel) rfl
theorem d_Mod_test_129 : decode b_Mod_test 129 = .ok (.iload 9, 2) := dc_21 (a := 9) (by decide +kernel) rfl
theorem d_Mod_test_131 : decode b_Mod_test 131 = .ok (.goto 4, 3) := dc_167 (a := 0) (b := 4) (by decide +kernel) rfl
theorem d_Mod_test_134 : decode b_Mod_test 134 = .ok (.iload_n 3, 1) := dc_29 (by decide +kernel)
theorem d_Mod_test_135 : decode b_Mod_test 135 = .ok (.istore_n 3, 1) := dc_62 (by decide +kernel)
theorem d_Mod_test_136 : decode b_Mod_test 136 = .ok (.iinc 6 1, 3) := dc_132 (a := 6) (b := 1) (by decide +kernel) rfl
theorem d_Mod_test_139 : decode b_Mod_test 139 = .ok (.goto (-83), 3) := dc_167 (a := 255) (b := 173) (by decide +kernel) rfl
theorem d_Mod_test_142 : decode b_Mod_test 142 = .ok (.iinc 5 1, 3) := dc_132 (a := 5) (b := 1) (by decide +kernel) rfl
theorem d_Mod_test_145 : decode b_Mod_test 145 = .ok (.goto (-101), 3) := dc_167 (a := 255) (b := 155) (by decide +kernel) rfl
theorem d_Mod_test_148 : decode b_Mod_test 148 = .ok (.iload 4, 2) := dc_21 (a := 4) (by decide +kernel) rfl
theorem d_Mod_test_150 : decode b_Mod_test 150 = .ok (.bipush (-4), 2) := dc_16 (a := 252) (by decide +kernel) rfl
theorem d_Mod_test_152 : decode b_Mod_test 152 = .ok (.if_icmp .ne 8, 3) := dc_160 (a := 0) (b := 8) (by decide +kernel) rfl
theorem d_Mod_test_155 : decode b_Mod_test 155 = .ok (.bipush (-4), 2) := dc_16 (a := 252) (by decide +kernel) rfl
theorem d_Mod_test_157 : decode b_Mod_test 157 = .ok (.goto 13, 3) := dc_167 (a := 0) (b := 13) (by decide +kernel) rfl
theorem d_Mod_test_160 : decode b_Mod_test 160 = .ok (.iload_n 2, 1) := dc_28 (by decide +kernel)
theorem d_Mod_test_161 : decode b_Mod_test 161 = .ok (.ifCond .ne 8, 3) := dc_154 (a := 0) (b := 8) (by decide +kernel) rfl
theorem d_Mod_test_164 : decode b_Mod_test 164 = .ok (.iload 4, 2) := dc_21 (a := 4) (by decide +kernel) rfl
theorem d_Mod_test_166 : decode b_Mod_test 166 = .ok (.goto 4, 3) := dc_167 (a := 0) (b := 4) (by decide +kernel) rfl
theorem d_Mod_test_169 : decode b_Mod_test 169 = .ok (.iload_n 3, 1) := dc_29 (by decide +kernel)
theorem d_Mod_test_170 : decode b_Mod_test 170 = .ok (.ireturn, 1) := dc_172 (by decide +kernel)
abbrev q_Mod_test (h : Hp) (o : Int32) (oZ : Int) (a : Int32) (aZ : Int) (w : Int32) (wZ : Int) (g : Int32) (gZ : Int) : Option Value → Hp → Prop := pInt (fun r h' => h = h')
set_option maxRecDepth 100000 in
theorem c_Mod_test (h : Hp) (hI : Inv h) (o : Int32) (oZ : Int) (oE : o.toInt = oZ) (a : Int32) (aZ : Int) (aE : a.toInt = aZ) (w : Int32) (wZ : Int) (wE : w.toInt = wZ) (wK : h.1 116 2 = w) (g : Int32) (gZ : Int) (gE : g.toInt = gZ) (gK : h.1 116 3 = g) : Ct y_Mod_test b_Mod_test 10 (some .int) 3 79 [.ref 116, .int o, .int a] h (q_Mod_test h o oZ a aZ w wZ g gZ) := by
  refine ct_ow R_Mod [some (.ref 116), some (.int o), some (.int a), none, none, none, none, none, none, none] rfl (by decide) rfl (Nat.le_of_ble_eq_true rfl) ?_
  have f0 : fr [] h h := fr_rf
  have g1 : 2 ≤ wZ ∧ wZ ≤ 4 := inv_at hI wE wK.symm rfl
  have g2 : 2 ≤ gZ ∧ gZ ≤ 4 := inv_at hI gE gK.symm rfl
  refine V_iload_n 1 d_Mod_test_0 rfl rfl ?_
  refine N_callSI [.int o] [] cs_Mod_205 d_Mod_test_1 rfl (Nat.le_of_ble_eq_true rfl) (by decide) (by decide) (c_Mod_isOwner h o oZ oE) (fun z3 h4 z3Z z3E p5 => ?_)
  obtain ⟨eh4, p5⟩ := p5
  subst eh4
  refine V_if_eq 17 z3E d_Mod_test_4 (by decide) (fun c6 => ?_) (fun c6 => ?_)
  ·
    refine V_iconst (-1) d_Mod_test_17 (by decide) ?_
    exact V_iret rfl d_Mod_test_18 ⟨(-1), rfl, rfl⟩
  ·
    refine V_iload_n 2 d_Mod_test_7 rfl rfl ?_
    refine V_i2l d_Mod_test_8 (fun z7 z7e z7E => ?_)
    have z7F : z7.toInt = aZ := z7E.trans aE
    refine V_lconst 0 d_Mod_test_9 (by decide) ?_
    refine V_lconst 1 d_Mod_test_10 (by decide) ?_
    refine N_callSI [.long z7, .long 0, .long 1] [] cs_Mod_95 d_Mod_test_11 rfl (Nat.le_of_ble_eq_true rfl) (by decide) (by decide) (c_Mod_in h z7 aZ z7F 0 0 tl_0 1 1 tl_1) (fun z8 h9 z8Z z8E p10 => ?_)
    obtain ⟨eh9, p10⟩ := p10
    subst eh9
    refine V_if_ne 19 z8E d_Mod_test_14 (by decide) (fun c11 => ?_) (fun c11 => ?_)
    ·
      refine V_aload_n 0 d_Mod_test_19 rfl rfl ?_
      refine V_iconst 0 d_Mod_test_20 (by decide) ?_
      refine V_iload_n 1 d_Mod_test_21 rfl rfl ?_
      refine V_iconst 1 d_Mod_test_22 (by decide) ?_
      refine V_iconst 1 d_Mod_test_23 (by decide) ?_
      refine N_callVI [.int 0, .int o, .int 1, .int 1] [] cv_Mod_239 sk_116 rfl d_Mod_test_24 rfl (Nat.le_of_ble_eq_true rfl) (by decide) (by decide) (c_Mod_rodsBy h hI 0 0 tc_0 o oZ oE 1 1 tc_1 1 1 tc_1 (by (first | decide +kernel | omega))) (fun z12 h13 z12Z z12E p14 => ?_)
      subst p14
      refine V_aload_n 0 d_Mod_test_27 rfl rfl ?_
      refine V_iconst 0 d_Mod_test_28 (by decide) ?_
      refine V_iload_n 1 d_Mod_test_29 rfl rfl ?_
      refine V_iconst 1 d_Mod_test_30 (by decide) ?_
      refine V_iconst 0 d_Mod_test_31 (by decide) ?_
      refine N_callVI [.int 0, .int o, .int 1, .int 0] [.int z12] cv_Mod_239 sk_116 rfl d_Mod_test_32 rfl (Nat.le_of_ble_eq_true rfl) (by decide) (by decide) (c_Mod_rodsBy h hI 0 0 tc_0 o oZ oE 1 1 tc_1 0 0 tc_0 (by (first | decide +kernel | omega))) (fun z15 h16 z15Z z15E p17 => ?_)
      subst p17
      refine N_iaddw d_Mod_test_35 (fun z18 z18Z z18E z18e => ?_)
      refine V_istore_n 3 [some (.ref 116), some (.int o), some (.int a), some (.int z18), none, none, none, none, none, none] d_Mod_test_36 rfl (by decide) rfl rfl ?_
      refine V_bipush (-4) d_Mod_test_37 (by decide) ?_
      refine V_istore 4 [some (.ref 116), some (.int o), some (.int a), some (.int z18), some (.int (-4)), none, none, none, none, none] d_Mod_test_39 (by decide) rfl rfl ?_
      refine V_iconst 0 d_Mod_test_41 (by decide) ?_
      refine V_istore 5 [some (.ref 116), some (.int o), some (.int a), some (.int z18), some (.int (-4)), some (.int 0), none, none, none, none] d_Mod_test_42 (by decide) rfl rfl ?_
      have L19 : ∀ (nn : Nat) (v21 : Int32) (v21Z : Int) (v22 : Int32) (v22Z : Int) (v23 : Int32) (v23Z : Int), v21.toInt = v21Z → v22.toInt = v22Z → v23.toInt = v23Z → 0 ≤ v23Z ∧ v23Z ≤ 16 → 16 - v23Z < (nn : Int) → V R_Mod b_Mod_test 10 (some .int) 3 79 (q_Mod_test h o oZ a aZ w wZ g gZ) h 44 [some (.ref 116), some (.int o), some (.int a), some (.int v21), some (.int v22), some (.int v23), none, none, none, none] [] := by
        intro nn
        induction nn with
        | zero => intro v21 v21Z v22 v22Z v23 v23Z v21E v22E v23E q24 hm25; exact absurd hm25 (by (first | decide +kernel | omega))
        | succ nn ihL19 =>
          intro v21 v21Z v22 v22Z v23 v23Z v21E v22E v23E q24 hm25
          refine V_iload d_Mod_test_44 rfl ?_
          refine V_aload_n 0 d_Mod_test_46 rfl rfl ?_
          refine N_callVI [] [.int v23] cv_Mod_183 sk_116 rfl d_Mod_test_47 rfl (Nat.le_of_ble_eq_true rfl) (by decide) (by decide) (c_Mod_cellMany h hI w wZ wE wK g gZ gE gK) (fun z26 h27 z26Z z26E p28 => ?_)
          obtain ⟨eh27, p28⟩ := p28
          subst eh27
          refine V_icmp_ge 148 v23E z26E d_Mod_test_50 (by decide) (fun c29 => ?_) (fun c29 => ?_)
          ·
            refine V_iload d_Mod_test_148 rfl ?_
            refine V_bipush (-4) d_Mod_test_150 (by decide) ?_
            refine V_icmp_ne 160 v22E tc_m4 d_Mod_test_152 (by decide) (fun c30 => ?_) (fun c30 => ?_)
            ·
              refine V_iload_n 2 d_Mod_test_160 rfl rfl ?_
              refine V_if_ne 169 aE d_Mod_test_161 (by decide) (fun c31 => ?_) (fun c31 => ?_)
              ·
                refine V_iload_n 3 d_Mod_test_169 rfl rfl ?_
                exact V_iret rfl d_Mod_test_170 ⟨v21, rfl, rfl⟩
              ·
                refine V_iload d_Mod_test_164 rfl ?_
                refine V_goto 170 d_Mod_test_166 (by decide) ?_
                exact V_iret rfl d_Mod_test_170 ⟨v22, rfl, rfl⟩
            ·
              refine V_bipush (-4) d_Mod_test_155 (by decide) ?_
              refine V_goto 170 d_Mod_test_157 (by decide) ?_
              exact V_iret rfl d_Mod_test_170 ⟨(-4), rfl, rfl⟩
          ·
            refine V_iconst 1 d_Mod_test_53 (by decide) ?_
            refine V_istore 6 [some (.ref 116), some (.int o), some (.int a), some (.int v21), some (.int v22), some (.int v23), some (.int 1), none, none, none] d_Mod_test_54 (by decide) rfl rfl ?_
            have L32 : ∀ (nn : Nat) (v34 : Int32) (v34Z : Int) (v35 : Int32) (v35Z : Int) (v36 : Int32) (v36Z : Int), v34.toInt = v34Z → v35.toInt = v35Z → v36.toInt = v36Z → 1 ≤ v36Z ∧ v36Z ≤ 3 → 3 - v36Z < (nn : Int) → V R_Mod b_Mod_test 10 (some .int) 3 79 (q_Mod_test h o oZ a aZ w wZ g gZ) h 56 [some (.ref 116), some (.int o), some (.int a), some (.int v34), some (.int v35), some (.int v23), some (.int v36), none, none, none] [] := by
              intro nn
              induction nn with
              | zero => intro v34 v34Z v35 v35Z v36 v36Z v34E v35E v36E q37 hm38; exact absurd hm38 (by (first | decide +kernel | omega))
              | succ nn ihL32 =>
                intro v34 v34Z v35 v35Z v36 v36Z v34E v35E v36E q37 hm38
                refine V_iload d_Mod_test_56 rfl ?_
                refine V_iconst 2 d_Mod_test_58 (by decide) ?_
                refine V_icmp_gt 142 v36E tc_2 d_Mod_test_59 (by decide) (fun c39 => ?_) (fun c39 => ?_)
                ·
                  obtain ⟨z40, z40E, z40e⟩ : ∃ y : Int32, y.toInt = v23Z + 1 ∧ y = v23 + Int32.ofInt 1 := ⟨_, ti_add v23E (by decide) (by (first | decide +kernel | omega)), rfl⟩
                  refine V_iinc 5 [some (.ref 116), some (.int o), some (.int a), some (.int v34), some (.int v35), some (.int z40), some (.int v36), none, none, none] d_Mod_test_142 rfl z40e.symm (by decide) rfl rfl ?_
                  refine V_goto 44 d_Mod_test_145 (by decide) ?_
                  refine V_drop 6 [some (.ref 116), some (.int o), some (.int a), some (.int v34), some (.int v35), some (.int z40), none, none, none, none] rfl ?_
                  exact ihL19 v34 v34Z v35 v35Z z40 ((v23Z + 1)) v34E v35E z40E (by (first | decide +kernel | omega)) (by (first | decide +kernel | omega))
                ·
                  have J41 : ∀ (v43 : Int32) (v43Z : Int) (v44 : Int32) (v44Z : Int), v43.toInt = v43Z → v44.toInt = v44Z → V R_Mod b_Mod_test 10 (some .int) 3 79 (q_Mod_test h o oZ a aZ w wZ g gZ) h 136 [some (.ref 116), some (.int o), some (.int a), some (.int v43), some (.int v44), some (.int v23), some (.int v36), none, none, none] [] := by
                    intro v43 v43Z v44 v44Z v43E v44E
                    obtain ⟨z45, z45E, z45e⟩ : ∃ y : Int32, y.toInt = v36Z + 1 ∧ y = v36 + Int32.ofInt 1 := ⟨_, ti_add v36E (by decide) (by (first | decide +kernel | omega)), rfl⟩
                    refine V_iinc 6 [some (.ref 116), some (.int o), some (.int a), some (.int v43), some (.int v44), some (.int v23), some (.int z45), none, none, none] d_Mod_test_136 rfl z45e.symm (by decide) rfl rfl ?_
                    refine V_goto 56 d_Mod_test_139 (by decide) ?_
                    exact ihL32 v43 v43Z v44 v44Z z45 ((v36Z + 1)) v43E v44E z45E (by (first | decide +kernel | omega)) (by (first | decide +kernel | omega))
                  refine V_aload_n 0 d_Mod_test_62 rfl rfl ?_
                  refine V_iload d_Mod_test_63 rfl ?_
                  refine V_iload_n 1 d_Mod_test_65 rfl rfl ?_
                  refine V_iload d_Mod_test_66 rfl ?_
                  refine V_iconst 1 d_Mod_test_68 (by decide) ?_
                  refine N_callVI [.int v23, .int o, .int v36, .int 1] [] cv_Mod_239 sk_116 rfl d_Mod_test_69 rfl (Nat.le_of_ble_eq_true rfl) (by decide) (by decide) (c_Mod_rodsBy h hI v23 v23Z v23E o oZ oE v36 v36Z v36E 1 1 tc_1 (by (first | decide +kernel | omega))) (fun z46 h47 z46Z z46E p48 => ?_)
                  subst p48
                  refine V_istore 7 [some (.ref 116), some (.int o), some (.int a), some (.int v34), some (.int v35), some (.int v23), some (.int v36), some (.int z46), none, none] d_Mod_test_72 (by decide) rfl rfl ?_
                  refine V_aload_n 0 d_Mod_test_74 rfl rfl ?_
                  refine V_iload d_Mod_test_75 rfl ?_
                  refine V_iload_n 1 d_Mod_test_77 rfl rfl ?_
                  refine V_iload d_Mod_test_78 rfl ?_
                  refine V_iconst 0 d_Mod_test_80 (by decide) ?_
                  refine N_callVI [.int v23, .int o, .int v36, .int 0] [] cv_Mod_239 sk_116 rfl d_Mod_test_81 rfl (Nat.le_of_ble_eq_true rfl) (by decide) (by decide) (c_Mod_rodsBy h hI v23 v23Z v23E o oZ oE v36 v36Z v36E 0 0 tc_0 (by (first | decide +kernel | omega))) (fun z49 h50 z49Z z49E p51 => ?_)
                  subst p51
                  refine V_istore 8 [some (.ref 116), some (.int o), some (.int a), some (.int v34), some (.int v35), some (.int v23), some (.int v36), some (.int z46), some (.int z49), none] d_Mod_test_84 (by decide) rfl rfl ?_
                  refine V_iload d_Mod_test_86 rfl ?_
                  refine V_iload d_Mod_test_88 rfl ?_
                  refine V_icmp_le 98 z46E z49E d_Mod_test_90 (by decide) (fun c52 => ?_) (fun c52 => ?_)
                  ·
                    refine V_iload d_Mod_test_98 rfl ?_
                    refine V_istore 9 [some (.ref 116), some (.int o), some (.int a), some (.int v34), some (.int v35), some (.int v23), some (.int v36), some (.int z46), some (.int z49), some (.int z49)] d_Mod_test_100 (by decide) rfl rfl ?_
                    refine V_iload d_Mod_test_102 rfl ?_
                    refine V_iload_n 3 d_Mod_test_104 rfl rfl ?_
                    refine V_icmp_ge 119 z49E v34E d_Mod_test_105 (by decide) (fun c53 => ?_) (fun c53 => ?_)
                    ·
                      refine V_iload d_Mod_test_119 rfl ?_
                      refine V_istore 4 [some (.ref 116), some (.int o), some (.int a), some (.int v34), some (.int v35), some (.int v23), some (.int v36), some (.int z46), some (.int z49), some (.int z49)] d_Mod_test_121 (by decide) rfl rfl ?_
                      refine V_iload d_Mod_test_123 rfl ?_
                      refine V_iload_n 3 d_Mod_test_125 rfl rfl ?_
                      refine V_icmp_ge 134 z49E v34E d_Mod_test_126 (by decide) (fun c54 => ?_) (fun c54 => ?_)
                      ·
                        refine V_iload_n 3 d_Mod_test_134 rfl rfl ?_
                        refine V_istore_n 3 [some (.ref 116), some (.int o), some (.int a), some (.int v34), some (.int v35), some (.int v23), some (.int v36), some (.int z46), some (.int z49), some (.int z49)] d_Mod_test_135 rfl (by decide) rfl rfl ?_
                        refine V_drop 7 [some (.ref 116), some (.int o), some (.int a), some (.int v34), some (.int v35), some (.int v23), some (.int v36), none, some (.int z49), some (.int z49)] rfl ?_
                        refine V_drop 8 [some (.ref 116), some (.int o), some (.int a), some (.int v34), some (.int v35), some (.int v23), some (.int v36), none, none, some (.int z49)] rfl ?_
                        refine V_drop 9 [some (.ref 116), some (.int o), some (.int a), some (.int v34), some (.int v35), some (.int v23), some (.int v36), none, none, none] rfl ?_
                        exact J41 v34 v34Z v35 v35Z v34E v35E
                      ·
                        refine V_iload d_Mod_test_129 rfl ?_
                        refine V_goto 135 d_Mod_test_131 (by decide) ?_
                        refine V_istore_n 3 [some (.ref 116), some (.int o), some (.int a), some (.int z49), some (.int v35), some (.int v23), some (.int v36), some (.int z46), some (.int z49), some (.int z49)] d_Mod_test_135 rfl (by decide) rfl rfl ?_
                        refine V_drop 7 [some (.ref 116), some (.int o), some (.int a), some (.int z49), some (.int v35), some (.int v23), some (.int v36), none, some (.int z49), some (.int z49)] rfl ?_
                        refine V_drop 8 [some (.ref 116), some (.int o), some (.int a), some (.int z49), some (.int v35), some (.int v23), some (.int v36), none, none, some (.int z49)] rfl ?_
                        refine V_drop 9 [some (.ref 116), some (.int o), some (.int a), some (.int z49), some (.int v35), some (.int v23), some (.int v36), none, none, none] rfl ?_
                        exact J41 z49 z49Z v35 v35Z z49E v35E
                    ·
                      refine V_bipush 10 d_Mod_test_108 (by decide) ?_
                      refine V_iload d_Mod_test_110 rfl ?_
                      refine V_imul tc_10 v23E (by (first | decide +kernel | omega)) d_Mod_test_112 (fun z55 z55e z55E => ?_)
                      refine V_iload d_Mod_test_113 rfl ?_
                      refine V_iadd z55E v36E (by (first | decide +kernel | omega)) d_Mod_test_115 (fun z56 z56e z56E => ?_)
                      refine V_goto 121 d_Mod_test_116 (by decide) ?_
                      refine V_istore 4 [some (.ref 116), some (.int o), some (.int a), some (.int v34), some (.int z56), some (.int v23), some (.int v36), some (.int z46), some (.int z49), some (.int z49)] d_Mod_test_121 (by decide) rfl rfl ?_
                      refine V_iload d_Mod_test_123 rfl ?_
                      refine V_iload_n 3 d_Mod_test_125 rfl rfl ?_
                      refine V_icmp_ge 134 z49E v34E d_Mod_test_126 (by decide) (fun c57 => ?_) (fun c57 => ?_)
                      ·
                        refine V_iload_n 3 d_Mod_test_134 rfl rfl ?_
                        refine V_istore_n 3 [some (.ref 116), some (.int o), some (.int a), some (.int v34), some (.int z56), some (.int v23), some (.int v36), some (.int z46), some (.int z49), some (.int z49)] d_Mod_test_135 rfl (by decide) rfl rfl ?_
                        refine V_drop 7 [some (.ref 116), some (.int o), some (.int a), some (.int v34), some (.int z56), some (.int v23), some (.int v36), none, some (.int z49), some (.int z49)] rfl ?_
                        refine V_drop 8 [some (.ref 116), some (.int o), some (.int a), some (.int v34), some (.int z56), some (.int v23), some (.int v36), none, none, some (.int z49)] rfl ?_
                        refine V_drop 9 [some (.ref 116), some (.int o), some (.int a), some (.int v34), some (.int z56), some (.int v23), some (.int v36), none, none, none] rfl ?_
                        exact J41 v34 v34Z z56 (((10 * v23Z) + v36Z)) v34E z56E
                      ·
                        refine V_iload d_Mod_test_129 rfl ?_
                        refine V_goto 135 d_Mod_test_131 (by decide) ?_
                        refine V_istore_n 3 [some (.ref 116), some (.int o), some (.int a), some (.int z49), some (.int z56), some (.int v23), some (.int v36), some (.int z46), some (.int z49), some (.int z49)] d_Mod_test_135 rfl (by decide) rfl rfl ?_
                        refine V_drop 7 [some (.ref 116), some (.int o), some (.int a), some (.int z49), some (.int z56), some (.int v23), some (.int v36), none, some (.int z49), some (.int z49)] rfl ?_
                        refine V_drop 8 [some (.ref 116), some (.int o), some (.int a), some (.int z49), some (.int z56), some (.int v23), some (.int v36), none, none, some (.int z49)] rfl ?_
                        refine V_drop 9 [some (.ref 116), some (.int o), some (.int a), some (.int z49), some (.int z56), some (.int v23), some (.int v36), none, none, none] rfl ?_
                        exact J41 z49 z49Z z56 (((10 * v23Z) + v36Z)) z49E z56E
                  ·
                    refine V_iload d_Mod_test_93 rfl ?_
                    refine V_goto 100 d_Mod_test_95 (by decide) ?_
                    refine V_istore 9 [some (.ref 116), some (.int o), some (.int a), some (.int v34), some (.int v35), some (.int v23), some (.int v36), some (.int z46), some (.int z49), some (.int z46)] d_Mod_test_100 (by decide) rfl rfl ?_
                    refine V_iload d_Mod_test_102 rfl ?_
                    refine V_iload_n 3 d_Mod_test_104 rfl rfl ?_
                    refine V_icmp_ge 119 z46E v34E d_Mod_test_105 (by decide) (fun c58 => ?_) (fun c58 => ?_)
                    ·
                      refine V_iload d_Mod_test_119 rfl ?_
                      refine V_istore 4 [some (.ref 116), some (.int o), some (.int a), some (.int v34), some (.int v35), some (.int v23), some (.int v36), some (.int z46), some (.int z49), some (.int z46)] d_Mod_test_121 (by decide) rfl rfl ?_
                      refine V_iload d_Mod_test_123 rfl ?_
                      refine V_iload_n 3 d_Mod_test_125 rfl rfl ?_
                      refine V_icmp_ge 134 z46E v34E d_Mod_test_126 (by decide) (fun c59 => ?_) (fun c59 => ?_)
                      ·
                        refine V_iload_n 3 d_Mod_test_134 rfl rfl ?_
                        refine V_istore_n 3 [some (.ref 116), some (.int o), some (.int a), some (.int v34), some (.int v35), some (.int v23), some (.int v36), some (.int z46), some (.int z49), some (.int z46)] d_Mod_test_135 rfl (by decide) rfl rfl ?_
                        refine V_drop 7 [some (.ref 116), some (.int o), some (.int a), some (.int v34), some (.int v35), some (.int v23), some (.int v36), none, some (.int z49), some (.int z46)] rfl ?_
                        refine V_drop 8 [some (.ref 116), some (.int o), some (.int a), some (.int v34), some (.int v35), some (.int v23), some (.int v36), none, none, some (.int z46)] rfl ?_
                        refine V_drop 9 [some (.ref 116), some (.int o), some (.int a), some (.int v34), some (.int v35), some (.int v23), some (.int v36), none, none, none] rfl ?_
                        exact J41 v34 v34Z v35 v35Z v34E v35E
                      ·
                        refine V_iload d_Mod_test_129 rfl ?_
                        refine V_goto 135 d_Mod_test_131 (by decide) ?_
                        refine V_istore_n 3 [some (.ref 116), some (.int o), some (.int a), some (.int z46), some (.int v35), some (.int v23), some (.int v36), some (.int z46), some (.int z49), some (.int z46)] d_Mod_test_135 rfl (by decide) rfl rfl ?_
                        refine V_drop 7 [some (.ref 116), some (.int o), some (.int a), some (.int z46), some (.int v35), some (.int v23), some (.int v36), none, some (.int z49), some (.int z46)] rfl ?_
                        refine V_drop 8 [some (.ref 116), some (.int o), some (.int a), some (.int z46), some (.int v35), some (.int v23), some (.int v36), none, none, some (.int z46)] rfl ?_
                        refine V_drop 9 [some (.ref 116), some (.int o), some (.int a), some (.int z46), some (.int v35), some (.int v23), some (.int v36), none, none, none] rfl ?_
                        exact J41 z46 z46Z v35 v35Z z46E v35E
                    ·
                      refine V_bipush 10 d_Mod_test_108 (by decide) ?_
                      refine V_iload d_Mod_test_110 rfl ?_
                      refine V_imul tc_10 v23E (by (first | decide +kernel | omega)) d_Mod_test_112 (fun z60 z60e z60E => ?_)
                      refine V_iload d_Mod_test_113 rfl ?_
                      refine V_iadd z60E v36E (by (first | decide +kernel | omega)) d_Mod_test_115 (fun z61 z61e z61E => ?_)
                      refine V_goto 121 d_Mod_test_116 (by decide) ?_
                      refine V_istore 4 [some (.ref 116), some (.int o), some (.int a), some (.int v34), some (.int z61), some (.int v23), some (.int v36), some (.int z46), some (.int z49), some (.int z46)] d_Mod_test_121 (by decide) rfl rfl ?_
                      refine V_iload d_Mod_test_123 rfl ?_
                      refine V_iload_n 3 d_Mod_test_125 rfl rfl ?_
                      refine V_icmp_ge 134 z46E v34E d_Mod_test_126 (by decide) (fun c62 => ?_) (fun c62 => ?_)
                      ·
                        refine V_iload_n 3 d_Mod_test_134 rfl rfl ?_
                        refine V_istore_n 3 [some (.ref 116), some (.int o), some (.int a), some (.int v34), some (.int z61), some (.int v23), some (.int v36), some (.int z46), some (.int z49), some (.int z46)] d_Mod_test_135 rfl (by decide) rfl rfl ?_
                        refine V_drop 7 [some (.ref 116), some (.int o), some (.int a), some (.int v34), some (.int z61), some (.int v23), some (.int v36), none, some (.int z49), some (.int z46)] rfl ?_
                        refine V_drop 8 [some (.ref 116), some (.int o), some (.int a), some (.int v34), some (.int z61), some (.int v23), some (.int v36), none, none, some (.int z46)] rfl ?_
                        refine V_drop 9 [some (.ref 116), some (.int o), some (.int a), some (.int v34), some (.int z61), some (.int v23), some (.int v36), none, none, none] rfl ?_
                        exact J41 v34 v34Z z61 (((10 * v23Z) + v36Z)) v34E z61E
                      ·
                        refine V_iload d_Mod_test_129 rfl ?_
                        refine V_goto 135 d_Mod_test_131 (by decide) ?_
                        refine V_istore_n 3 [some (.ref 116), some (.int o), some (.int a), some (.int z46), some (.int z61), some (.int v23), some (.int v36), some (.int z46), some (.int z49), some (.int z46)] d_Mod_test_135 rfl (by decide) rfl rfl ?_
                        refine V_drop 7 [some (.ref 116), some (.int o), some (.int a), some (.int z46), some (.int z61), some (.int v23), some (.int v36), none, some (.int z49), some (.int z46)] rfl ?_
                        refine V_drop 8 [some (.ref 116), some (.int o), some (.int a), some (.int z46), some (.int z61), some (.int v23), some (.int v36), none, none, some (.int z46)] rfl ?_
                        refine V_drop 9 [some (.ref 116), some (.int o), some (.int a), some (.int z46), some (.int z61), some (.int v23), some (.int v36), none, none, none] rfl ?_
                        exact J41 z46 z46Z z61 (((10 * v23Z) + v36Z)) z46E z61E
            exact L32 (Int.toNat ((3 - 1 : Int) + 1)) v21 v21Z v22 v22Z 1 1 v21E v22E tc_1 (by (first | decide +kernel | omega)) (by (first | decide +kernel | omega))
      exact L19 (Int.toNat ((16 - 0 : Int) + 1)) z18 z18Z (-4) ((-4)) 0 0 z18E tc_m4 tc_0 (by (first | decide +kernel | omega)) (by (first | decide +kernel | omega))
    ·
      refine V_iconst (-1) d_Mod_test_17 (by decide) ?_
      exact V_iret rfl d_Mod_test_18 ⟨(-1), rfl, rfl⟩
