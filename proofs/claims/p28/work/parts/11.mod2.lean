section
theorem cb_Mod_isWell : CB y_Mod_isWell b_Mod_isWell 2 (some .boolean) 1 := ⟨vv_Gin (List.mem_append_right _ (List.mem_append_right _ (List.mem_append_right _ (List.mem_append_right _ (List.mem_append_right _ (List.mem_append_left _ (List.mem_of_getElem? (i := 203) rfl))))))) rfl, by decide +kernel, vv_Gin (List.mem_append_right _ (List.mem_append_left _ (List.mem_of_getElem? (i := 13) rfl))) rfl⟩
theorem im_Mod_isWell : Cond.instanceMethod y_Mod_isWell ∈ vv_G := vv_Gin (List.mem_append_right _ (List.mem_append_right _ (List.mem_append_right _ (List.mem_append_right _ (List.mem_append_right _ (List.mem_append_left _ (List.mem_of_getElem? (i := 202) rfl))))))) rfl
theorem se_Mod_isWell : Cond.selects y_Mod_isWell.cls y_Mod_isWell y_Mod_isWell ∈ vv_G := vv_Gin (List.mem_append_left _ (List.mem_of_getElem? (i := 37) rfl)) rfl
theorem cv_Mod_192 : CV R_Mod 192 y_Mod_isWell b_Mod_isWell 2 (some .boolean) 1 := ⟨cb_Mod_isWell, im_Mod_isWell, se_Mod_isWell, vv_Gin (List.mem_append_right _ (List.mem_append_right _ (List.mem_append_right _ (List.mem_append_right _ (List.mem_append_right _ (List.mem_append_left _ (List.mem_of_getElem? (i := 200) rfl))))))) rfl⟩
theorem cb_Mod_flag : CB y_Mod_flag b_Mod_flag 1 (some .int) 1 := ⟨vv_Gin (List.mem_append_right _ (List.mem_append_right _ (List.mem_append_right _ (List.mem_append_right _ (List.mem_append_right _ (List.mem_append_left _ (List.mem_of_getElem? (i := 209) rfl))))))) rfl, by decide +kernel, vv_Gin (List.mem_append_right _ (List.mem_append_left _ (List.mem_of_getElem? (i := 13) rfl))) rfl⟩
theorem st_Mod_flag : Cond.static y_Mod_flag ∈ vv_G := vv_Gin (List.mem_append_right _ (List.mem_append_right _ (List.mem_append_right _ (List.mem_append_right _ (List.mem_append_right _ (List.mem_append_left _ (List.mem_of_getElem? (i := 208) rfl))))))) rfl
theorem cs_Mod_196 : CS R_Mod 196 y_Mod_flag b_Mod_flag 1 (some .int) 1 := ⟨cb_Mod_flag, st_Mod_flag, Or.inl (vv_Gin (List.mem_append_right _ (List.mem_append_right _ (List.mem_append_right _ (List.mem_append_right _ (List.mem_append_right _ (List.mem_append_left _ (List.mem_of_getElem? (i := 207) rfl))))))) rfl)⟩
theorem cb_Mod_isCell : CB y_Mod_isCell b_Mod_isCell 2 (some .boolean) 1 := ⟨vv_Gin (List.mem_append_right _ (List.mem_append_right _ (List.mem_append_right _ (List.mem_append_right _ (List.mem_append_right _ (List.mem_append_left _ (List.mem_of_getElem? (i := 194) rfl))))))) rfl, by decide +kernel, vv_Gin (List.mem_append_right _ (List.mem_append_left _ (List.mem_of_getElem? (i := 13) rfl))) rfl⟩
theorem im_Mod_isCell : Cond.instanceMethod y_Mod_isCell ∈ vv_G := vv_Gin (List.mem_append_right _ (List.mem_append_right _ (List.mem_append_right _ (List.mem_append_right _ (List.mem_append_right _ (List.mem_append_left _ (List.mem_of_getElem? (i := 193) rfl))))))) rfl
theorem se_Mod_isCell : Cond.selects y_Mod_isCell.cls y_Mod_isCell y_Mod_isCell ∈ vv_G := vv_Gin (List.mem_append_left _ (List.mem_of_getElem? (i := 35) rfl)) rfl
theorem cv_Mod_200 : CV R_Mod 200 y_Mod_isCell b_Mod_isCell 2 (some .boolean) 1 := ⟨cb_Mod_isCell, im_Mod_isCell, se_Mod_isCell, vv_Gin (List.mem_append_right _ (List.mem_append_right _ (List.mem_append_right _ (List.mem_append_right _ (List.mem_append_right _ (List.mem_append_left _ (List.mem_of_getElem? (i := 191) rfl))))))) rfl⟩
theorem wl_Mod_203 : Cond.constantLong R_Mod 203 5 ∈ vv_G := vv_Gin (List.mem_append_right _ (List.mem_append_right _ (List.mem_append_right _ (List.mem_append_right _ (List.mem_append_right _ (List.mem_append_left _ (List.mem_of_getElem? (i := 199) (by decide +kernel)))))))) (by decide +kernel)
theorem tl_5 : (5 : Int64).toInt = 5 := rfl
theorem tc_5 : (5 : Int32).toInt = 5 := rfl
theorem tc_16 : (16 : Int32).toInt = 16 := rfl
theorem wl_Mod_208 : Cond.constantLong R_Mod 208 9 ∈ vv_G := vv_Gin (List.mem_append_right _ (List.mem_append_right _ (List.mem_append_right _ (List.mem_append_right _ (List.mem_append_right _ (List.mem_append_left _ (List.mem_of_getElem? (i := 222) (by decide +kernel)))))))) (by decide +kernel)
theorem tl_9 : (9 : Int64).toInt = 9 := rfl
theorem cb_Mod_becomes : CB y_Mod_becomes b_Mod_becomes 4 (some .int) 2 := ⟨vv_Gin (List.mem_append_right _ (List.mem_append_right _ (List.mem_append_right _ (List.mem_append_right _ (List.mem_append_right _ (List.mem_append_left _ (List.mem_of_getElem? (i := 226) rfl))))))) rfl, by decide +kernel, vv_Gin (List.mem_append_right _ (List.mem_append_left _ (List.mem_of_getElem? (i := 13) rfl))) rfl⟩
theorem im_Mod_becomes : Cond.instanceMethod y_Mod_becomes ∈ vv_G := vv_Gin (List.mem_append_right _ (List.mem_append_right _ (List.mem_append_right _ (List.mem_append_right _ (List.mem_append_right _ (List.mem_append_left _ (List.mem_of_getElem? (i := 225) rfl))))))) rfl
theorem se_Mod_becomes : Cond.selects y_Mod_becomes.cls y_Mod_becomes y_Mod_becomes ∈ vv_G := vv_Gin (List.mem_append_left _ (List.mem_of_getElem? (i := 38) rfl)) rfl
theorem cv_Mod_210 : CV R_Mod 210 y_Mod_becomes b_Mod_becomes 4 (some .int) 2 := ⟨cb_Mod_becomes, im_Mod_becomes, se_Mod_becomes, vv_Gin (List.mem_append_right _ (List.mem_append_right _ (List.mem_append_right _ (List.mem_append_right _ (List.mem_append_right _ (List.mem_append_left _ (List.mem_of_getElem? (i := 223) rfl))))))) rfl⟩
theorem tc_m2 : ((-2) : Int32).toInt = (-2) := rfl
theorem wl_Mod_213 : Cond.constantLong R_Mod 213 10 ∈ vv_G := vv_Gin (List.mem_append_right _ (List.mem_append_right _ (List.mem_append_right _ (List.mem_append_right _ (List.mem_append_right _ (List.mem_append_left _ (List.mem_of_getElem? (i := 235) (by decide +kernel)))))))) (by decide +kernel)
theorem tl_10 : (10 : Int64).toInt = 10 := rfl
theorem tc_32 : (32 : Int32).toInt = 32 := rfl
theorem tc_m4 : ((-4) : Int32).toInt = (-4) := rfl
theorem tc_48 : (48 : Int32).toInt = 48 := rfl
theorem wl_Mod_215 : Cond.constantLong R_Mod 215 999 ∈ vv_G := vv_Gin (List.mem_append_right _ (List.mem_append_right _ (List.mem_append_right _ (List.mem_append_right _ (List.mem_append_right _ (List.mem_append_right _ (List.mem_of_getElem? (i := 4) (by decide +kernel)))))))) (by decide +kernel)
theorem tl_999 : (999 : Int64).toInt = 999 := rfl
theorem wl_Mod_217 : Cond.constantLong R_Mod 217 4 ∈ vv_G := vv_Gin (List.mem_append_right _ (List.mem_append_right _ (List.mem_append_right _ (List.mem_append_right _ (List.mem_append_right _ (List.mem_append_right _ (List.mem_of_getElem? (i := 9) (by decide +kernel)))))))) (by decide +kernel)
theorem tl_4 : (4 : Int64).toInt = 4 := rfl
theorem tl_1 : (1 : Int64).toInt = 1 := rfl
theorem wl_Mod_219 : Cond.constantLong R_Mod 219 99 ∈ vv_G := vv_Gin (List.mem_append_right _ (List.mem_append_right _ (List.mem_append_right _ (List.mem_append_right _ (List.mem_append_right _ (List.mem_append_right _ (List.mem_of_getElem? (i := 14) (by decide +kernel)))))))) (by decide +kernel)
theorem tl_99 : (99 : Int64).toInt = 99 := rfl
theorem tc_8 : (8 : Int32).toInt = 8 := rfl
theorem tc_87 : (87 : Int32).toInt = 87 := rfl
theorem tc_3 : (3 : Int32).toInt = 3 := rfl
theorem tc_2 : (2 : Int32).toInt = 2 := rfl
theorem wl_Mod_221 : Cond.constantLong R_Mod 221 8 ∈ vv_G := vv_Gin (List.mem_append_right _ (List.mem_append_right _ (List.mem_append_right _ (List.mem_append_right _ (List.mem_append_right _ (List.mem_append_right _ (List.mem_of_getElem? (i := 23) (by decide +kernel)))))))) (by decide +kernel)
theorem tl_8 : (8 : Int64).toInt = 8 := rfl
theorem cb_Mod_wells : CB y_Mod_wells b_Mod_wells 3 (some .int) 0 := ⟨vv_Gin (List.mem_append_right _ (List.mem_append_right _ (List.mem_append_right _ (List.mem_append_right _ (List.mem_append_right _ (List.mem_append_right _ (List.mem_of_getElem? (i := 27) rfl))))))) rfl, by decide +kernel, vv_Gin (List.mem_append_right _ (List.mem_append_left _ (List.mem_of_getElem? (i := 13) rfl))) rfl⟩
theorem im_Mod_wells : Cond.instanceMethod y_Mod_wells ∈ vv_G := vv_Gin (List.mem_append_right _ (List.mem_append_right _ (List.mem_append_right _ (List.mem_append_right _ (List.mem_append_right _ (List.mem_append_right _ (List.mem_of_getElem? (i := 26) rfl))))))) rfl
theorem se_Mod_wells : Cond.selects y_Mod_wells.cls y_Mod_wells y_Mod_wells ∈ vv_G := vv_Gin (List.mem_append_left _ (List.mem_of_getElem? (i := 39) rfl)) rfl
theorem cv_Mod_223 : CV R_Mod 223 y_Mod_wells b_Mod_wells 3 (some .int) 0 := ⟨cb_Mod_wells, im_Mod_wells, se_Mod_wells, vv_Gin (List.mem_append_right _ (List.mem_append_right _ (List.mem_append_right _ (List.mem_append_right _ (List.mem_append_right _ (List.mem_append_right _ (List.mem_of_getElem? (i := 24) rfl))))))) rfl⟩
theorem cb_Mod_isSeen : CB y_Mod_isSeen b_Mod_isSeen 4 (some .boolean) 3 := ⟨vv_Gin (List.mem_append_right _ (List.mem_append_right _ (List.mem_append_right _ (List.mem_append_right _ (List.mem_append_right _ (List.mem_append_right _ (List.mem_of_getElem? (i := 35) rfl))))))) rfl, by decide +kernel, vv_Gin (List.mem_append_right _ (List.mem_append_left _ (List.mem_of_getElem? (i := 13) rfl))) rfl⟩
theorem im_Mod_isSeen : Cond.instanceMethod y_Mod_isSeen ∈ vv_G := vv_Gin (List.mem_append_right _ (List.mem_append_right _ (List.mem_append_right _ (List.mem_append_right _ (List.mem_append_right _ (List.mem_append_right _ (List.mem_of_getElem? (i := 34) rfl))))))) rfl
theorem se_Mod_isSeen : Cond.selects y_Mod_isSeen.cls y_Mod_isSeen y_Mod_isSeen ∈ vv_G := vv_Gin (List.mem_append_left _ (List.mem_of_getElem? (i := 40) rfl)) rfl
theorem cv_Mod_226 : CV R_Mod 226 y_Mod_isSeen b_Mod_isSeen 4 (some .boolean) 3 := ⟨cb_Mod_isSeen, im_Mod_isSeen, se_Mod_isSeen, vv_Gin (List.mem_append_right _ (List.mem_append_right _ (List.mem_append_right _ (List.mem_append_right _ (List.mem_append_right _ (List.mem_append_right _ (List.mem_of_getElem? (i := 32) rfl))))))) rfl⟩
theorem cb_Mod_doesTwitch : CB y_Mod_doesTwitch b_Mod_doesTwitch 8 (some .boolean) 5 := ⟨vv_Gin (List.mem_append_right _ (List.mem_append_right _ (List.mem_append_right _ (List.mem_append_right _ (List.mem_append_right _ (List.mem_append_right _ (List.mem_of_getElem? (i := 39) rfl))))))) rfl, by decide +kernel, vv_Gin (List.mem_append_right _ (List.mem_append_left _ (List.mem_of_getElem? (i := 13) rfl))) rfl⟩
theorem im_Mod_doesTwitch : Cond.instanceMethod y_Mod_doesTwitch ∈ vv_G := vv_Gin (List.mem_append_right _ (List.mem_append_right _ (List.mem_append_right _ (List.mem_append_right _ (List.mem_append_right _ (List.mem_append_right _ (List.mem_of_getElem? (i := 38) rfl))))))) rfl
theorem se_Mod_doesTwitch : Cond.selects y_Mod_doesTwitch.cls y_Mod_doesTwitch y_Mod_doesTwitch ∈ vv_G := vv_Gin (List.mem_append_left _ (List.mem_of_getElem? (i := 41) rfl)) rfl
theorem cv_Mod_229 : CV R_Mod 229 y_Mod_doesTwitch b_Mod_doesTwitch 8 (some .boolean) 5 := ⟨cb_Mod_doesTwitch, im_Mod_doesTwitch, se_Mod_doesTwitch, vv_Gin (List.mem_append_right _ (List.mem_append_right _ (List.mem_append_right _ (List.mem_append_right _ (List.mem_append_right _ (List.mem_append_right _ (List.mem_of_getElem? (i := 36) rfl))))))) rfl⟩
theorem tc_111 : (111 : Int32).toInt = 111 := rfl
theorem tc_112 : (112 : Int32).toInt = 112 := rfl
theorem tc_4 : (4 : Int32).toInt = 4 := rfl
theorem tc_9 : (9 : Int32).toInt = 9 := rfl
theorem cb_Mod_reachesOf : CB y_Mod_reachesOf b_Mod_reachesOf 1 (some .int) 1 := ⟨vv_Gin (List.mem_append_right _ (List.mem_append_right _ (List.mem_append_right _ (List.mem_append_right _ (List.mem_append_right _ (List.mem_append_right _ (List.mem_of_getElem? (i := 54) rfl))))))) rfl, by decide +kernel, vv_Gin (List.mem_append_right _ (List.mem_append_left _ (List.mem_of_getElem? (i := 13) rfl))) rfl⟩
theorem st_Mod_reachesOf : Cond.static y_Mod_reachesOf ∈ vv_G := vv_Gin (List.mem_append_right _ (List.mem_append_right _ (List.mem_append_right _ (List.mem_append_right _ (List.mem_append_right _ (List.mem_append_right _ (List.mem_of_getElem? (i := 53) rfl))))))) rfl
theorem cs_Mod_233 : CS R_Mod 233 y_Mod_reachesOf b_Mod_reachesOf 1 (some .int) 1 := ⟨cb_Mod_reachesOf, st_Mod_reachesOf, Or.inl (vv_Gin (List.mem_append_right _ (List.mem_append_right _ (List.mem_append_right _ (List.mem_append_right _ (List.mem_append_right _ (List.mem_append_right _ (List.mem_of_getElem? (i := 52) rfl))))))) rfl)⟩
theorem cb_Mod_doesFit : CB y_Mod_doesFit b_Mod_doesFit 6 (some .boolean) 2 := ⟨vv_Gin (List.mem_append_right _ (List.mem_append_right _ (List.mem_append_right _ (List.mem_append_right _ (List.mem_append_right _ (List.mem_append_right _ (List.mem_of_getElem? (i := 58) rfl))))))) rfl, by decide +kernel, vv_Gin (List.mem_append_right _ (List.mem_append_left _ (List.mem_of_getElem? (i := 13) rfl))) rfl⟩
theorem im_Mod_doesFit : Cond.instanceMethod y_Mod_doesFit ∈ vv_G := vv_Gin (List.mem_append_right _ (List.mem_append_right _ (List.mem_append_right _ (List.mem_append_right _ (List.mem_append_right _ (List.mem_append_right _ (List.mem_of_getElem? (i := 57) rfl))))))) rfl
theorem se_Mod_doesFit : Cond.selects y_Mod_doesFit.cls y_Mod_doesFit y_Mod_doesFit ∈ vv_G := vv_Gin (List.mem_append_left _ (List.mem_of_getElem? (i := 42) rfl)) rfl
theorem cv_Mod_236 : CV R_Mod 236 y_Mod_doesFit b_Mod_doesFit 6 (some .boolean) 2 := ⟨cb_Mod_doesFit, im_Mod_doesFit, se_Mod_doesFit, vv_Gin (List.mem_append_right _ (List.mem_append_right _ (List.mem_append_right _ (List.mem_append_right _ (List.mem_append_right _ (List.mem_append_right _ (List.mem_of_getElem? (i := 55) rfl))))))) rfl⟩
theorem cb_Mod_rodsBy : CB y_Mod_rodsBy b_Mod_rodsBy 8 (some .int) 4 := ⟨vv_Gin (List.mem_append_right _ (List.mem_append_right _ (List.mem_append_right _ (List.mem_append_right _ (List.mem_append_right _ (List.mem_append_right _ (List.mem_of_getElem? (i := 70) rfl))))))) rfl, by decide +kernel, vv_Gin (List.mem_append_right _ (List.mem_append_left _ (List.mem_of_getElem? (i := 13) rfl))) rfl⟩
theorem im_Mod_rodsBy : Cond.instanceMethod y_Mod_rodsBy ∈ vv_G := vv_Gin (List.mem_append_right _ (List.mem_append_right _ (List.mem_append_right _ (List.mem_append_right _ (List.mem_append_right _ (List.mem_append_right _ (List.mem_of_getElem? (i := 69) rfl))))))) rfl
theorem se_Mod_rodsBy : Cond.selects y_Mod_rodsBy.cls y_Mod_rodsBy y_Mod_rodsBy ∈ vv_G := vv_Gin (List.mem_append_left _ (List.mem_of_getElem? (i := 43) rfl)) rfl
theorem cv_Mod_239 : CV R_Mod 239 y_Mod_rodsBy b_Mod_rodsBy 8 (some .int) 4 := ⟨cb_Mod_rodsBy, im_Mod_rodsBy, se_Mod_rodsBy, vv_Gin (List.mem_append_right _ (List.mem_append_right _ (List.mem_append_right _ (List.mem_append_right _ (List.mem_append_right _ (List.mem_append_right _ (List.mem_of_getElem? (i := 67) rfl))))))) rfl⟩
theorem tc_10 : (10 : Int32).toInt = 10 := rfl
theorem d_Mod_wells_0 : decode b_Mod_wells 0 = .ok (.iconst 0, 1) := dc_3 (by decide +kernel)
theorem d_Mod_wells_1 : decode b_Mod_wells 1 = .ok (.istore_n 1, 1) := dc_60 (by decide +kernel)
theorem d_Mod_wells_2 : decode b_Mod_wells 2 = .ok (.iconst 0, 1) := dc_3 (by decide +kernel)
theorem d_Mod_wells_3 : decode b_Mod_wells 3 = .ok (.istore_n 2, 1) := dc_61 (by decide +kernel)
theorem d_Mod_wells_4 : decode b_Mod_wells 4 = .ok (.iload_n 2, 1) := dc_28 (by decide +kernel)
theorem d_Mod_wells_5 : decode b_Mod_wells 5 = .ok (.aload_n 0, 1) := dc_42 (by decide +kernel)
theorem d_Mod_wells_6 : decode b_Mod_wells 6 = .ok (.invokevirtual 183, 3) := dc_182 (a := 0) (b := 183) (by decide +kernel) rfl
theorem d_Mod_wells_9 : decode b_Mod_wells 9 = .ok (.if_icmp .ge 20, 3) := dc_162 (a := 0) (b := 20) (by decide +kernel) rfl
theorem d_Mod_wells_12 : decode b_Mod_wells 12 = .ok (.iload_n 1, 1) := dc_27 (by decide +kernel)
theorem d_Mod_wells_13 : decode b_Mod_wells 13 = .ok (.aload_n 0, 1) := dc_42 (by decide +kernel)
theorem d_Mod_wells_14 : decode b_Mod_wells 14 = .ok (.iload_n 2, 1) := dc_28 (by decide +kernel)
theorem d_Mod_wells_15 : decode b_Mod_wells 15 = .ok (.invokevirtual 192, 3) := dc_182 (a := 0) (b := 192) (by decide +kernel) rfl
theorem d_Mod_wells_18 : decode b_Mod_wells 18 = .ok (.invokestatic 196, 3) := dc_184 (a := 0) (b := 196) (by decide +kernel) rfl
theorem d_Mod_wells_21 : decode b_Mod_wells 21 = .ok (.iadd, 1) := dc_96 (by decide +kernel)
theorem d_Mod_wells_22 : decode b_Mod_wells 22 = .ok (.istore_n 1, 1) := dc_60 (by decide +kernel)
theorem d_Mod_wells_23 : decode b_Mod_wells 23 = .ok (.iinc 2 1, 3) := dc_132 (a := 2) (b := 1) (by decide +kernel) rfl
theorem d_Mod_wells_26 : decode b_Mod_wells 26 = .ok (.goto (-22), 3) := dc_167 (a := 255) (b := 234) (by decide +kernel) rfl
theorem d_Mod_wells_29 : decode b_Mod_wells 29 = .ok (.iload_n 1, 1) := dc_27 (by decide +kernel)
theorem d_Mod_wells_30 : decode b_Mod_wells 30 = .ok (.ireturn, 1) := dc_172 (by decide +kernel)
theorem d_Mod_cell_0 : decode b_Mod_cell 0 = .ok (.aload_n 0, 1) := dc_42 (by decide +kernel)
theorem d_Mod_cell_1 : decode b_Mod_cell 1 = .ok (.iload_n 1, 1) := dc_27 (by decide +kernel)
theorem d_Mod_cell_2 : decode b_Mod_cell 2 = .ok (.invokevirtual 200, 3) := dc_182 (a := 0) (b := 200) (by decide +kernel) rfl
theorem d_Mod_cell_5 : decode b_Mod_cell 5 = .ok (.ifCond .eq 15, 3) := dc_153 (a := 0) (b := 15) (by decide +kernel) rfl
theorem d_Mod_cell_8 : decode b_Mod_cell 8 = .ok (.iload_n 2, 1) := dc_28 (by decide +kernel)
theorem d_Mod_cell_9 : decode b_Mod_cell 9 = .ok (.i2l, 1) := dc_133 (by decide +kernel)
theorem d_Mod_cell_10 : decode b_Mod_cell 10 = .ok (.lconst 0, 1) := dc_9 (by decide +kernel)
theorem d_Mod_cell_11 : decode b_Mod_cell 11 = .ok (.ldc2_w 203, 3) := dc_20 (a := 0) (b := 203) (by decide +kernel) rfl
theorem d_Mod_cell_14 : decode b_Mod_cell 14 = .ok (.invokestatic 95, 3) := dc_184 (a := 0) (b := 95) (by decide +kernel) rfl
theorem d_Mod_cell_17 : decode b_Mod_cell 17 = .ok (.ifCond .ne 5, 3) := dc_154 (a := 0) (b := 5) (by decide +kernel) rfl
theorem d_Mod_cell_20 : decode b_Mod_cell 20 = .ok (.iconst (-1), 1) := dc_2 (by decide +kernel)
theorem d_Mod_cell_21 : decode b_Mod_cell 21 = .ok (.ireturn, 1) := dc_172 (by decide +kernel)
theorem d_Mod_cell_22 : decode b_Mod_cell 22 = .ok (.iload_n 2, 1) := dc_28 (by decide +kernel)
theorem d_Mod_cell_23 : decode b_Mod_cell 23 = .ok (.iconst 5, 1) := dc_8 (by decide +kernel)
theorem d_Mod_cell_24 : decode b_Mod_cell 24 = .ok (.if_icmp .ne 14, 3) := dc_160 (a := 0) (b := 14) (by decide +kernel) rfl
theorem d_Mod_cell_27 : decode b_Mod_cell 27 = .ok (.aload_n 0, 1) := dc_42 (by decide +kernel)
theorem d_Mod_cell_28 : decode b_Mod_cell 28 = .ok (.iload_n 1, 1) := dc_27 (by decide +kernel)
theorem d_Mod_cell_29 : decode b_Mod_cell 29 = .ok (.invokevirtual 192, 3) := dc_182 (a := 0) (b := 192) (by decide +kernel) rfl
theorem d_Mod_cell_32 : decode b_Mod_cell 32 = .ok (.invokestatic 196, 3) := dc_184 (a := 0) (b := 196) (by decide +kernel) rfl
theorem d_Mod_cell_35 : decode b_Mod_cell 35 = .ok (.goto 14, 3) := dc_167 (a := 0) (b := 14) (by decide +kernel) rfl
theorem d_Mod_cell_38 : decode b_Mod_cell 38 = .ok (.aload_n 0, 1) := dc_42 (by decide +kernel)
theorem d_Mod_cell_39 : decode b_Mod_cell 39 = .ok (.getfield 7, 3) := dc_180 (a := 0) (b := 7) (by decide +kernel) rfl
theorem d_Mod_cell_42 : decode b_Mod_cell 42 = .ok (.bipush 16, 2) := dc_16 (a := 16) (by decide +kernel) rfl
theorem d_Mod_cell_44 : decode b_Mod_cell 44 = .ok (.iload_n 2, 1) := dc_28 (by decide +kernel)
theorem d_Mod_cell_45 : decode b_Mod_cell 45 = .ok (.imul, 1) := dc_104 (by decide +kernel)
theorem d_Mod_cell_46 : decode b_Mod_cell 46 = .ok (.iload_n 1, 1) := dc_27 (by decide +kernel)
theorem d_Mod_cell_47 : decode b_Mod_cell 47 = .ok (.iadd, 1) := dc_96 (by decide +kernel)
theorem d_Mod_cell_48 : decode b_Mod_cell 48 = .ok (.iaload, 1) := dc_46 (by decide +kernel)
theorem d_Mod_cell_49 : decode b_Mod_cell 49 = .ok (.ireturn, 1) := dc_172 (by decide +kernel)
theorem d_Mod_becomes_0 : decode b_Mod_becomes 0 = .ok (.aload_n 0, 1) := dc_42 (by decide +kernel)
theorem d_Mod_becomes_1 : decode b_Mod_becomes 1 = .ok (.getfield 7, 3) := dc_180 (a := 0) (b := 7) (by decide +kernel) rfl
theorem d_Mod_becomes_4 : decode b_Mod_becomes 4 = .ok (.iload_n 1, 1) := dc_27 (by decide +kernel)
theorem d_Mod_becomes_5 : decode b_Mod_becomes 5 = .ok (.iaload, 1) := dc_46 (by decide +kernel)
theorem d_Mod_becomes_6 : decode b_Mod_becomes 6 = .ok (.istore_n 3, 1) := dc_62 (by decide +kernel)
theorem d_Mod_becomes_7 : decode b_Mod_becomes 7 = .ok (.aload_n 0, 1) := dc_42 (by decide +kernel)
theorem d_Mod_becomes_8 : decode b_Mod_becomes 8 = .ok (.getfield 7, 3) := dc_180 (a := 0) (b := 7) (by decide +kernel) rfl
theorem d_Mod_becomes_11 : decode b_Mod_becomes 11 = .ok (.iload_n 1, 1) := dc_27 (by decide +kernel)
theorem d_Mod_becomes_12 : decode b_Mod_becomes 12 = .ok (.iload_n 2, 1) := dc_28 (by decide +kernel)
theorem d_Mod_becomes_13 : decode b_Mod_becomes 13 = .ok (.iastore, 1) := dc_79 (by decide +kernel)
theorem d_Mod_becomes_14 : decode b_Mod_becomes 14 = .ok (.iload_n 3, 1) := dc_29 (by decide +kernel)
theorem d_Mod_becomes_15 : decode b_Mod_becomes 15 = .ok (.ireturn, 1) := dc_172 (by decide +kernel)
theorem d_Mod_wet_0 : decode b_Mod_wet 0 = .ok (.aload_n 0, 1) := dc_42 (by decide +kernel)
theorem d_Mod_wet_1 : decode b_Mod_wet 1 = .ok (.iload_n 1, 1) := dc_27 (by decide +kernel)
theorem d_Mod_wet_2 : decode b_Mod_wet 2 = .ok (.invokevirtual 200, 3) := dc_182 (a := 0) (b := 200) (by decide +kernel) rfl
theorem d_Mod_wet_5 : decode b_Mod_wet 5 = .ok (.ifCond .eq 15, 3) := dc_153 (a := 0) (b := 15) (by decide +kernel) rfl
theorem d_Mod_wet_8 : decode b_Mod_wet 8 = .ok (.iload_n 2, 1) := dc_28 (by decide +kernel)
theorem d_Mod_wet_9 : decode b_Mod_wet 9 = .ok (.i2l, 1) := dc_133 (by decide +kernel)
theorem d_Mod_wet_10 : decode b_Mod_wet 10 = .ok (.lconst 0, 1) := dc_9 (by decide +kernel)
theorem d_Mod_wet_11 : decode b_Mod_wet 11 = .ok (.ldc2_w 208, 3) := dc_20 (a := 0) (b := 208) (by decide +kernel) rfl
theorem d_Mod_wet_14 : decode b_Mod_wet 14 = .ok (.invokestatic 95, 3) := dc_184 (a := 0) (b := 95) (by decide +kernel) rfl
theorem d_Mod_wet_17 : decode b_Mod_wet 17 = .ok (.ifCond .ne 5, 3) := dc_154 (a := 0) (b := 5) (by decide +kernel) rfl
theorem d_Mod_wet_20 : decode b_Mod_wet 20 = .ok (.iconst (-1), 1) := dc_2 (by decide +kernel)
theorem d_Mod_wet_21 : decode b_Mod_wet 21 = .ok (.ireturn, 1) := dc_172 (by decide +kernel)
theorem d_Mod_wet_22 : decode b_Mod_wet 22 = .ok (.aload_n 0, 1) := dc_42 (by decide +kernel)
theorem d_Mod_wet_23 : decode b_Mod_wet 23 = .ok (.getfield 7, 3) := dc_180 (a := 0) (b := 7) (by decide +kernel) rfl
theorem d_Mod_wet_26 : decode b_Mod_wet 26 = .ok (.bipush 64, 2) := dc_16 (a := 64) (by decide +kernel) rfl
theorem d_Mod_wet_28 : decode b_Mod_wet 28 = .ok (.iload_n 1, 1) := dc_27 (by decide +kernel)
theorem d_Mod_wet_29 : decode b_Mod_wet 29 = .ok (.iadd, 1) := dc_96 (by decide +kernel)
theorem d_Mod_wet_30 : decode b_Mod_wet 30 = .ok (.iaload, 1) := dc_46 (by decide +kernel)
theorem d_Mod_wet_31 : decode b_Mod_wet 31 = .ok (.ifCond .le 8, 3) := dc_158 (a := 0) (b := 8) (by decide +kernel) rfl
theorem d_Mod_wet_34 : decode b_Mod_wet 34 = .ok (.bipush (-2), 2) := dc_16 (a := 254) (by decide +kernel) rfl
theorem d_Mod_wet_36 : decode b_Mod_wet 36 = .ok (.goto 11, 3) := dc_167 (a := 0) (b := 11) (by decide +kernel) rfl
theorem d_Mod_wet_39 : decode b_Mod_wet 39 = .ok (.aload_n 0, 1) := dc_42 (by decide +kernel)
theorem d_Mod_wet_40 : decode b_Mod_wet 40 = .ok (.iconst 0, 1) := dc_3 (by decide +kernel)
theorem d_Mod_wet_41 : decode b_Mod_wet 41 = .ok (.iload_n 1, 1) := dc_27 (by decide +kernel)
theorem d_Mod_wet_42 : decode b_Mod_wet 42 = .ok (.iadd, 1) := dc_96 (by decide +kernel)
theorem d_Mod_wet_43 : decode b_Mod_wet 43 = .ok (.iload_n 2, 1) := dc_28 (by decide +kernel)
theorem d_Mod_wet_44 : decode b_Mod_wet 44 = .ok (.invokevirtual 210, 3) := dc_182 (a := 0) (b := 210) (by decide +kernel) rfl
theorem d_Mod_wet_47 : decode b_Mod_wet 47 = .ok (.ireturn, 1) := dc_172 (by decide +kernel)
theorem d_Mod_iron_0 : decode b_Mod_iron 0 = .ok (.aload_n 0, 1) := dc_42 (by decide +kernel)
theorem d_Mod_iron_1 : decode b_Mod_iron 1 = .ok (.iload_n 1, 1) := dc_27 (by decide +kernel)
theorem d_Mod_iron_2 : decode b_Mod_iron 2 = .ok (.invokevirtual 200, 3) := dc_182 (a := 0) (b := 200) (by decide +kernel) rfl
theorem d_Mod_iron_5 : decode b_Mod_iron 5 = .ok (.ifCond .eq 18, 3) := dc_153 (a := 0) (b := 18) (by decide +kernel) rfl
theorem d_Mod_iron_8 : decode b_Mod_iron 8 = .ok (.aload_n 0, 1) := dc_42 (by decide +kernel)
theorem d_Mod_iron_9 : decode b_Mod_iron 9 = .ok (.bipush 16, 2) := dc_16 (a := 16) (by decide +kernel) rfl
theorem d_Mod_iron_11 : decode b_Mod_iron 11 = .ok (.iload_n 1, 1) := dc_27 (by decide +kernel)
theorem d_Mod_iron_12 : decode b_Mod_iron 12 = .ok (.iadd, 1) := dc_96 (by decide +kernel)
theorem d_Mod_iron_13 : decode b_Mod_iron 13 = .ok (.iload_n 2, 1) := dc_28 (by decide +kernel)
theorem d_Mod_iron_14 : decode b_Mod_iron 14 = .ok (.invokestatic 196, 3) := dc_184 (a := 0) (b := 196) (by decide +kernel) rfl
theorem d_Mod_iron_17 : decode b_Mod_iron 17 = .ok (.invokevirtual 210, 3) := dc_182 (a := 0) (b := 210) (by decide +kernel) rfl
theorem d_Mod_iron_20 : decode b_Mod_iron 20 = .ok (.goto 4, 3) := dc_167 (a := 0) (b := 4) (by decide +kernel) rfl
theorem d_Mod_iron_23 : decode b_Mod_iron 23 = .ok (.iconst (-1), 1) := dc_2 (by decide +kernel)
theorem d_Mod_iron_24 : decode b_Mod_iron 24 = .ok (.ireturn, 1) := dc_172 (by decide +kernel)
theorem d_Mod_odd_0 : decode b_Mod_odd 0 = .ok (.aload_n 0, 1) := dc_42 (by decide +kernel)
theorem d_Mod_odd_1 : decode b_Mod_odd 1 = .ok (.iload_n 1, 1) := dc_27 (by decide +kernel)
theorem d_Mod_odd_2 : decode b_Mod_odd 2 = .ok (.invokevirtual 200, 3) := dc_182 (a := 0) (b := 200) (by decide +kernel) rfl
theorem d_Mod_odd_5 : decode b_Mod_odd 5 = .ok (.ifCond .eq 27, 3) := dc_153 (a := 0) (b := 27) (by decide +kernel) rfl
theorem d_Mod_odd_8 : decode b_Mod_odd 8 = .ok (.iload_n 2, 1) := dc_28 (by decide +kernel)
theorem d_Mod_odd_9 : decode b_Mod_odd 9 = .ok (.i2l, 1) := dc_133 (by decide +kernel)
theorem d_Mod_odd_10 : decode b_Mod_odd 10 = .ok (.lconst 0, 1) := dc_9 (by decide +kernel)
theorem d_Mod_odd_11 : decode b_Mod_odd 11 = .ok (.ldc2_w 213, 3) := dc_20 (a := 0) (b := 213) (by decide +kernel) rfl
theorem d_Mod_odd_14 : decode b_Mod_odd 14 = .ok (.invokestatic 95, 3) := dc_184 (a := 0) (b := 95) (by decide +kernel) rfl
theorem d_Mod_odd_17 : decode b_Mod_odd 17 = .ok (.ifCond .eq 15, 3) := dc_153 (a := 0) (b := 15) (by decide +kernel) rfl
theorem d_Mod_odd_20 : decode b_Mod_odd 20 = .ok (.aload_n 0, 1) := dc_42 (by decide +kernel)
theorem d_Mod_odd_21 : decode b_Mod_odd 21 = .ok (.bipush 32, 2) := dc_16 (a := 32) (by decide +kernel) rfl
theorem d_Mod_odd_23 : decode b_Mod_odd 23 = .ok (.iload_n 1, 1) := dc_27 (by decide +kernel)
theorem d_Mod_odd_24 : decode b_Mod_odd 24 = .ok (.iadd, 1) := dc_96 (by decide +kernel)
theorem d_Mod_odd_25 : decode b_Mod_odd 25 = .ok (.iload_n 2, 1) := dc_28 (by decide +kernel)
theorem d_Mod_odd_26 : decode b_Mod_odd 26 = .ok (.invokevirtual 210, 3) := dc_182 (a := 0) (b := 210) (by decide +kernel) rfl
theorem d_Mod_odd_29 : decode b_Mod_odd 29 = .ok (.goto 4, 3) := dc_167 (a := 0) (b := 4) (by decide +kernel) rfl
theorem d_Mod_odd_32 : decode b_Mod_odd 32 = .ok (.iconst (-1), 1) := dc_2 (by decide +kernel)
theorem d_Mod_odd_33 : decode b_Mod_odd 33 = .ok (.ireturn, 1) := dc_172 (by decide +kernel)
theorem d_Mod_claim_0 : decode b_Mod_claim 0 = .ok (.aload_n 0, 1) := dc_42 (by decide +kernel)
theorem d_Mod_claim_1 : decode b_Mod_claim 1 = .ok (.iload_n 1, 1) := dc_27 (by decide +kernel)
theorem d_Mod_claim_2 : decode b_Mod_claim 2 = .ok (.invokevirtual 200, 3) := dc_182 (a := 0) (b := 200) (by decide +kernel) rfl
theorem d_Mod_claim_5 : decode b_Mod_claim 5 = .ok (.ifCond .eq 28, 3) := dc_153 (a := 0) (b := 28) (by decide +kernel) rfl
theorem d_Mod_claim_8 : decode b_Mod_claim 8 = .ok (.iload_n 2, 1) := dc_28 (by decide +kernel)
theorem d_Mod_claim_9 : decode b_Mod_claim 9 = .ok (.bipush (-4), 2) := dc_16 (a := 252) (by decide +kernel) rfl
theorem d_Mod_claim_11 : decode b_Mod_claim 11 = .ok (.if_icmp .eq 10, 3) := dc_159 (a := 0) (b := 10) (by decide +kernel) rfl
theorem d_Mod_claim_14 : decode b_Mod_claim 14 = .ok (.iload_n 2, 1) := dc_28 (by decide +kernel)
theorem d_Mod_claim_15 : decode b_Mod_claim 15 = .ok (.invokestatic 205, 3) := dc_184 (a := 0) (b := 205) (by decide +kernel) rfl
theorem d_Mod_claim_18 : decode b_Mod_claim 18 = .ok (.ifCond .eq 15, 3) := dc_153 (a := 0) (b := 15) (by decide +kernel) rfl
theorem d_Mod_claim_21 : decode b_Mod_claim 21 = .ok (.aload_n 0, 1) := dc_42 (by decide +kernel)
theorem d_Mod_claim_22 : decode b_Mod_claim 22 = .ok (.bipush 48, 2) := dc_16 (a := 48) (by decide +kernel) rfl
theorem d_Mod_claim_24 : decode b_Mod_claim 24 = .ok (.iload_n 1, 1) := dc_27 (by decide +kernel)
theorem d_Mod_claim_25 : decode b_Mod_claim 25 = .ok (.iadd, 1) := dc_96 (by decide +kernel)
theorem d_Mod_claim_26 : decode b_Mod_claim 26 = .ok (.iload_n 2, 1) := dc_28 (by decide +kernel)
theorem d_Mod_claim_27 : decode b_Mod_claim 27 = .ok (.invokevirtual 210, 3) := dc_182 (a := 0) (b := 210) (by decide +kernel) rfl
theorem d_Mod_claim_30 : decode b_Mod_claim 30 = .ok (.goto 4, 3) := dc_167 (a := 0) (b := 4) (by decide +kernel) rfl
theorem d_Mod_claim_33 : decode b_Mod_claim 33 = .ok (.iconst (-1), 1) := dc_2 (by decide +kernel)
theorem d_Mod_claim_34 : decode b_Mod_claim 34 = .ok (.ireturn, 1) := dc_172 (by decide +kernel)
theorem d_Mod_fund_0 : decode b_Mod_fund 0 = .ok (.iload_n 1, 1) := dc_27 (by decide +kernel)
theorem d_Mod_fund_1 : decode b_Mod_fund 1 = .ok (.invokestatic 205, 3) := dc_184 (a := 0) (b := 205) (by decide +kernel) rfl
theorem d_Mod_fund_4 : decode b_Mod_fund 4 = .ok (.ifCond .eq 27, 3) := dc_153 (a := 0) (b := 27) (by decide +kernel) rfl
theorem d_Mod_fund_7 : decode b_Mod_fund 7 = .ok (.iload_n 2, 1) := dc_28 (by decide +kernel)
theorem d_Mod_fund_8 : decode b_Mod_fund 8 = .ok (.i2l, 1) := dc_133 (by decide +kernel)
theorem d_Mod_fund_9 : decode b_Mod_fund 9 = .ok (.lconst 0, 1) := dc_9 (by decide +kernel)
theorem d_Mod_fund_10 : decode b_Mod_fund 10 = .ok (.ldc2_w 215, 3) := dc_20 (a := 0) (b := 215) (by decide +kernel) rfl
theorem d_Mod_fund_13 : decode b_Mod_fund 13 = .ok (.invokestatic 95, 3) := dc_184 (a := 0) (b := 95) (by decide +kernel) rfl
theorem d_Mod_fund_16 : decode b_Mod_fund 16 = .ok (.ifCond .eq 15, 3) := dc_153 (a := 0) (b := 15) (by decide +kernel) rfl
theorem d_Mod_fund_19 : decode b_Mod_fund 19 = .ok (.aload_n 0, 1) := dc_42 (by decide +kernel)
theorem d_Mod_fund_20 : decode b_Mod_fund 20 = .ok (.bipush 80, 2) := dc_16 (a := 80) (by decide +kernel) rfl
theorem d_Mod_fund_22 : decode b_Mod_fund 22 = .ok (.iload_n 1, 1) := dc_27 (by decide +kernel)
theorem d_Mod_fund_23 : decode b_Mod_fund 23 = .ok (.iadd, 1) := dc_96 (by decide +kernel)
theorem d_Mod_fund_24 : decode b_Mod_fund 24 = .ok (.iload_n 2, 1) := dc_28 (by decide +kernel)
theorem d_Mod_fund_25 : decode b_Mod_fund 25 = .ok (.invokevirtual 210, 3) := dc_182 (a := 0) (b := 210) (by decide +kernel) rfl
theorem d_Mod_fund_28 : decode b_Mod_fund 28 = .ok (.goto 4, 3) := dc_167 (a := 0) (b := 4) (by decide +kernel) rfl
theorem d_Mod_fund_31 : decode b_Mod_fund 31 = .ok (.iconst (-1), 1) := dc_2 (by decide +kernel)
theorem d_Mod_fund_32 : decode b_Mod_fund 32 = .ok (.ireturn, 1) := dc_172 (by decide +kernel)
theorem d_Mod_cut_0 : decode b_Mod_cut 0 = .ok (.iload_n 1, 1) := dc_27 (by decide +kernel)
theorem d_Mod_cut_1 : decode b_Mod_cut 1 = .ok (.i2l, 1) := dc_133 (by decide +kernel)
theorem d_Mod_cut_2 : decode b_Mod_cut 2 = .ok (.lconst 0, 1) := dc_9 (by decide +kernel)
theorem d_Mod_cut_3 : decode b_Mod_cut 3 = .ok (.ldc2_w 217, 3) := dc_20 (a := 0) (b := 217) (by decide +kernel) rfl
theorem d_Mod_cut_6 : decode b_Mod_cut 6 = .ok (.invokestatic 95, 3) := dc_184 (a := 0) (b := 95) (by decide +kernel) rfl
theorem d_Mod_cut_9 : decode b_Mod_cut 9 = .ok (.ifCond .eq 15, 3) := dc_153 (a := 0) (b := 15) (by decide +kernel) rfl
theorem d_Mod_cut_12 : decode b_Mod_cut 12 = .ok (.iload_n 2, 1) := dc_28 (by decide +kernel)
theorem d_Mod_cut_13 : decode b_Mod_cut 13 = .ok (.i2l, 1) := dc_133 (by decide +kernel)
theorem d_Mod_cut_14 : decode b_Mod_cut 14 = .ok (.lconst 1, 1) := dc_10 (by decide +kernel)
theorem d_Mod_cut_15 : decode b_Mod_cut 15 = .ok (.ldc2_w 208, 3) := dc_20 (a := 0) (b := 208) (by decide +kernel) rfl
theorem d_Mod_cut_18 : decode b_Mod_cut 18 = .ok (.invokestatic 95, 3) := dc_184 (a := 0) (b := 95) (by decide +kernel) rfl
theorem d_Mod_cut_21 : decode b_Mod_cut 21 = .ok (.ifCond .ne 5, 3) := dc_154 (a := 0) (b := 5) (by decide +kernel) rfl
theorem d_Mod_cut_24 : decode b_Mod_cut 24 = .ok (.iconst (-1), 1) := dc_2 (by decide +kernel)
theorem d_Mod_cut_25 : decode b_Mod_cut 25 = .ok (.ireturn, 1) := dc_172 (by decide +kernel)
theorem d_Mod_cut_26 : decode b_Mod_cut 26 = .ok (.aload_n 0, 1) := dc_42 (by decide +kernel)
theorem d_Mod_cut_27 : decode b_Mod_cut 27 = .ok (.getfield 7, 3) := dc_180 (a := 0) (b := 7) (by decide +kernel) rfl
theorem d_Mod_cut_30 : decode b_Mod_cut 30 = .ok (.bipush 85, 2) := dc_16 (a := 85) (by decide +kernel) rfl
theorem d_Mod_cut_32 : decode b_Mod_cut 32 = .ok (.iload_n 2, 1) := dc_28 (by decide +kernel)
theorem d_Mod_cut_33 : decode b_Mod_cut 33 = .ok (.iastore, 1) := dc_79 (by decide +kernel)
theorem d_Mod_cut_34 : decode b_Mod_cut 34 = .ok (.aload_n 0, 1) := dc_42 (by decide +kernel)
theorem d_Mod_cut_35 : decode b_Mod_cut 35 = .ok (.bipush 84, 2) := dc_16 (a := 84) (by decide +kernel) rfl
theorem d_Mod_cut_37 : decode b_Mod_cut 37 = .ok (.iload_n 1, 1) := dc_27 (by decide +kernel)
theorem d_Mod_cut_38 : decode b_Mod_cut 38 = .ok (.invokevirtual 210, 3) := dc_182 (a := 0) (b := 210) (by decide +kernel) rfl
theorem d_Mod_cut_41 : decode b_Mod_cut 41 = .ok (.ireturn, 1) := dc_172 (by decide +kernel)
theorem d_Mod_owe_0 : decode b_Mod_owe 0 = .ok (.iload_n 1, 1) := dc_27 (by decide +kernel)
theorem d_Mod_owe_1 : decode b_Mod_owe 1 = .ok (.invokestatic 205, 3) := dc_184 (a := 0) (b := 205) (by decide +kernel) rfl
theorem d_Mod_owe_4 : decode b_Mod_owe 4 = .ok (.ifCond .eq 27, 3) := dc_153 (a := 0) (b := 27) (by decide +kernel) rfl
theorem d_Mod_owe_7 : decode b_Mod_owe 7 = .ok (.iload_n 2, 1) := dc_28 (by decide +kernel)
theorem d_Mod_owe_8 : decode b_Mod_owe 8 = .ok (.invokestatic 205, 3) := dc_184 (a := 0) (b := 205) (by decide +kernel) rfl
theorem d_Mod_owe_11 : decode b_Mod_owe 11 = .ok (.ifCond .eq 20, 3) := dc_153 (a := 0) (b := 20) (by decide +kernel) rfl
theorem d_Mod_owe_14 : decode b_Mod_owe 14 = .ok (.iload_n 1, 1) := dc_27 (by decide +kernel)
theorem d_Mod_owe_15 : decode b_Mod_owe 15 = .ok (.iload_n 2, 1) := dc_28 (by decide +kernel)
theorem d_Mod_owe_16 : decode b_Mod_owe 16 = .ok (.if_icmp .eq 15, 3) := dc_159 (a := 0) (b := 15) (by decide +kernel) rfl
theorem d_Mod_owe_19 : decode b_Mod_owe 19 = .ok (.iload_n 3, 1) := dc_29 (by decide +kernel)
theorem d_Mod_owe_20 : decode b_Mod_owe 20 = .ok (.i2l, 1) := dc_133 (by decide +kernel)
theorem d_Mod_owe_21 : decode b_Mod_owe 21 = .ok (.lconst 1, 1) := dc_10 (by decide +kernel)
theorem d_Mod_owe_22 : decode b_Mod_owe 22 = .ok (.ldc2_w 219, 3) := dc_20 (a := 0) (b := 219) (by decide +kernel) rfl
theorem d_Mod_owe_25 : decode b_Mod_owe 25 = .ok (.invokestatic 95, 3) := dc_184 (a := 0) (b := 95) (by decide +kernel) rfl
theorem d_Mod_owe_28 : decode b_Mod_owe 28 = .ok (.ifCond .ne 5, 3) := dc_154 (a := 0) (b := 5) (by decide +kernel) rfl
theorem d_Mod_owe_31 : decode b_Mod_owe 31 = .ok (.iconst (-1), 1) := dc_2 (by decide +kernel)
theorem d_Mod_owe_32 : decode b_Mod_owe 32 = .ok (.ireturn, 1) := dc_172 (by decide +kernel)
theorem d_Mod_owe_33 : decode b_Mod_owe 33 = .ok (.aload_n 0, 1) := dc_42 (by decide +kernel)
theorem d_Mod_owe_34 : decode b_Mod_owe 34 = .ok (.getfield 7, 3) := dc_180 (a := 0) (b := 7) (by decide +kernel) rfl
theorem d_Mod_owe_37 : decode b_Mod_owe 37 = .ok (.bipush 86, 2) := dc_16 (a := 86) (by decide +kernel) rfl
theorem d_Mod_owe_39 : decode b_Mod_owe 39 = .ok (.iaload, 1) := dc_46 (by decide +kernel)
theorem d_Mod_owe_40 : decode b_Mod_owe 40 = .ok (.bipush 8, 2) := dc_16 (a := 8) (by decide +kernel) rfl
theorem d_Mod_owe_42 : decode b_Mod_owe 42 = .ok (.if_icmp .ne 6, 3) := dc_160 (a := 0) (b := 6) (by decide +kernel) rfl
theorem d_Mod_owe_45 : decode b_Mod_owe 45 = .ok (.bipush (-3), 2) := dc_16 (a := 253) (by decide +kernel) rfl
theorem d_Mod_owe_47 : decode b_Mod_owe 47 = .ok (.ireturn, 1) := dc_172 (by decide +kernel)
theorem d_Mod_owe_48 : decode b_Mod_owe 48 = .ok (.bipush 87, 2) := dc_16 (a := 87) (by decide +kernel) rfl
theorem d_Mod_owe_50 : decode b_Mod_owe 50 = .ok (.iconst 3, 1) := dc_6 (by decide +kernel)
theorem d_Mod_owe_51 : decode b_Mod_owe 51 = .ok (.aload_n 0, 1) := dc_42 (by decide +kernel)
theorem d_Mod_owe_52 : decode b_Mod_owe 52 = .ok (.getfield 7, 3) := dc_180 (a := 0) (b := 7) (by decide +kernel) rfl
theorem d_Mod_owe_55 : decode b_Mod_owe 55 = .ok (.bipush 86, 2) := dc_16 (a := 86) (by decide +kernel) rfl
theorem d_Mod_owe_57 : decode b_Mod_owe 57 = .ok (.iaload, 1) := dc_46 (by decide +kernel)
theorem d_Mod_owe_58 : decode b_Mod_owe 58 = .ok (.imul, 1) := dc_104 (by decide +kernel)
theorem d_Mod_owe_59 : decode b_Mod_owe 59 = .ok (.iadd, 1) := dc_96 (by decide +kernel)
theorem d_Mod_owe_60 : decode b_Mod_owe 60 = .ok (.istore 4, 2) := dc_54 (a := 4) (by decide +kernel) rfl
theorem d_Mod_owe_62 : decode b_Mod_owe 62 = .ok (.aload_n 0, 1) := dc_42 (by decide +kernel)
theorem d_Mod_owe_63 : decode b_Mod_owe 63 = .ok (.getfield 7, 3) := dc_180 (a := 0) (b := 7) (by decide +kernel) rfl
theorem d_Mod_owe_66 : decode b_Mod_owe 66 = .ok (.iload 4, 2) := dc_21 (a := 4) (by decide +kernel) rfl
theorem d_Mod_owe_68 : decode b_Mod_owe 68 = .ok (.iload_n 1, 1) := dc_27 (by decide +kernel)
theorem d_Mod_owe_69 : decode b_Mod_owe 69 = .ok (.iastore, 1) := dc_79 (by decide +kernel)
theorem d_Mod_owe_70 : decode b_Mod_owe 70 = .ok (.aload_n 0, 1) := dc_42 (by decide +kernel)
theorem d_Mod_owe_71 : decode b_Mod_owe 71 = .ok (.getfield 7, 3) := dc_180 (a := 0) (b := 7) (by decide +kernel) rfl
theorem d_Mod_owe_74 : decode b_Mod_owe 74 = .ok (.iload 4, 2) := dc_21 (a := 4) (by decide +kernel) rfl
theorem d_Mod_owe_76 : decode b_Mod_owe 76 = .ok (.iconst 1, 1) := dc_4 (by decide +kernel)
theorem d_Mod_owe_77 : decode b_Mod_owe 77 = .ok (.iadd, 1) := dc_96 (by decide +kernel)
theorem d_Mod_owe_78 : decode b_Mod_owe 78 = .ok (.iload_n 2, 1) := dc_28 (by decide +kernel)
theorem d_Mod_owe_79 : decode b_Mod_owe 79 = .ok (.iastore, 1) := dc_79 (by decide +kernel)
theorem d_Mod_owe_80 : decode b_Mod_owe 80 = .ok (.aload_n 0, 1) := dc_42 (by decide +kernel)
theorem d_Mod_owe_81 : decode b_Mod_owe 81 = .ok (.getfield 7, 3) := dc_180 (a := 0) (b := 7) (by decide +kernel) rfl
theorem d_Mod_owe_84 : decode b_Mod_owe 84 = .ok (.iload 4, 2) := dc_21 (a := 4) (by decide +kernel) rfl
theorem d_Mod_owe_86 : decode b_Mod_owe 86 = .ok (.iconst 2, 1) := dc_5 (by decide +kernel)
theorem d_Mod_owe_87 : decode b_Mod_owe 87 = .ok (.iadd, 1) := dc_96 (by decide +kernel)
theorem d_Mod_owe_88 : decode b_Mod_owe 88 = .ok (.iload_n 3, 1) := dc_29 (by decide +kernel)
theorem d_Mod_owe_89 : decode b_Mod_owe 89 = .ok (.iastore, 1) := dc_79 (by decide +kernel)
theorem d_Mod_owe_90 : decode b_Mod_owe 90 = .ok (.aload_n 0, 1) := dc_42 (by decide +kernel)
theorem d_Mod_owe_91 : decode b_Mod_owe 91 = .ok (.getfield 7, 3) := dc_180 (a := 0) (b := 7) (by decide +kernel) rfl
theorem d_Mod_owe_94 : decode b_Mod_owe 94 = .ok (.bipush 86, 2) := dc_16 (a := 86) (by decide +kernel) rfl
theorem d_Mod_owe_96 : decode b_Mod_owe 96 = .ok (.dup2, 1) := dc_92 (by decide +kernel)
theorem d_Mod_owe_97 : decode b_Mod_owe 97 = .ok (.iaload, 1) := dc_46 (by decide +kernel)
theorem d_Mod_owe_98 : decode b_Mod_owe 98 = .ok (.iconst 1, 1) := dc_4 (by decide +kernel)
theorem d_Mod_owe_99 : decode b_Mod_owe 99 = .ok (.iadd, 1) := dc_96 (by decide +kernel)
theorem d_Mod_owe_100 : decode b_Mod_owe 100 = .ok (.iastore, 1) := dc_79 (by decide +kernel)
theorem d_Mod_owe_101 : decode b_Mod_owe 101 = .ok (.aload_n 0, 1) := dc_42 (by decide +kernel)
theorem d_Mod_owe_102 : decode b_Mod_owe 102 = .ok (.getfield 7, 3) := dc_180 (a := 0) (b := 7) (by decide +kernel) rfl
theorem d_Mod_owe_105 : decode b_Mod_owe 105 = .ok (.bipush 86, 2) := dc_16 (a := 86) (by decide +kernel) rfl
theorem d_Mod_owe_107 : decode b_Mod_owe 107 = .ok (.iaload, 1) := dc_46 (by decide +kernel)
theorem d_Mod_owe_108 : decode b_Mod_owe 108 = .ok (.ireturn, 1) := dc_172 (by decide +kernel)
theorem d_Mod_pay_0 : decode b_Mod_pay 0 = .ok (.iload_n 1, 1) := dc_27 (by decide +kernel)
theorem d_Mod_pay_1 : decode b_Mod_pay 1 = .ok (.i2l, 1) := dc_133 (by decide +kernel)
theorem d_Mod_pay_2 : decode b_Mod_pay 2 = .ok (.lconst 0, 1) := dc_9 (by decide +kernel)
theorem d_Mod_pay_3 : decode b_Mod_pay 3 = .ok (.aload_n 0, 1) := dc_42 (by decide +kernel)
theorem d_Mod_pay_4 : decode b_Mod_pay 4 = .ok (.getfield 7, 3) := dc_180 (a := 0) (b := 7) (by decide +kernel) rfl
theorem d_Mod_pay_7 : decode b_Mod_pay 7 = .ok (.bipush 86, 2) := dc_16 (a := 86) (by decide +kernel) rfl
theorem d_Mod_pay_9 : decode b_Mod_pay 9 = .ok (.iaload, 1) := dc_46 (by decide +kernel)
theorem d_Mod_pay_10 : decode b_Mod_pay 10 = .ok (.i2l, 1) := dc_133 (by decide +kernel)
theorem d_Mod_pay_11 : decode b_Mod_pay 11 = .ok (.invokestatic 95, 3) := dc_184 (a := 0) (b := 95) (by decide +kernel) rfl
theorem d_Mod_pay_14 : decode b_Mod_pay 14 = .ok (.ifCond .eq 13, 3) := dc_153 (a := 0) (b := 13) (by decide +kernel) rfl
theorem d_Mod_pay_17 : decode b_Mod_pay 17 = .ok (.aload_n 0, 1) := dc_42 (by decide +kernel)
theorem d_Mod_pay_18 : decode b_Mod_pay 18 = .ok (.bipush 86, 2) := dc_16 (a := 86) (by decide +kernel) rfl
theorem d_Mod_pay_20 : decode b_Mod_pay 20 = .ok (.iload_n 1, 1) := dc_27 (by decide +kernel)
theorem d_Mod_pay_21 : decode b_Mod_pay 21 = .ok (.invokevirtual 210, 3) := dc_182 (a := 0) (b := 210) (by decide +kernel) rfl
theorem d_Mod_pay_24 : decode b_Mod_pay 24 = .ok (.goto 4, 3) := dc_167 (a := 0) (b := 4) (by decide +kernel) rfl
theorem d_Mod_pay_27 : decode b_Mod_pay 27 = .ok (.iconst (-1), 1) := dc_2 (by decide +kernel)
theorem d_Mod_pay_28 : decode b_Mod_pay 28 = .ok (.ireturn, 1) := dc_172 (by decide +kernel)
theorem d_Mod_rain_0 : decode b_Mod_rain 0 = .ok (.iload_n 1, 1) := dc_27 (by decide +kernel)
theorem d_Mod_rain_1 : decode b_Mod_rain 1 = .ok (.i2l, 1) := dc_133 (by decide +kernel)
theorem d_Mod_rain_2 : decode b_Mod_rain 2 = .ok (.lconst 0, 1) := dc_9 (by decide +kernel)
theorem d_Mod_rain_3 : decode b_Mod_rain 3 = .ok (.ldc2_w 221, 3) := dc_20 (a := 0) (b := 221) (by decide +kernel) rfl
theorem d_Mod_rain_6 : decode b_Mod_rain 6 = .ok (.invokestatic 95, 3) := dc_184 (a := 0) (b := 95) (by decide +kernel) rfl
theorem d_Mod_rain_9 : decode b_Mod_rain 9 = .ok (.ifCond .ne 5, 3) := dc_154 (a := 0) (b := 5) (by decide +kernel) rfl
theorem d_Mod_rain_12 : decode b_Mod_rain 12 = .ok (.iconst (-1), 1) := dc_2 (by decide +kernel)
theorem d_Mod_rain_13 : decode b_Mod_rain 13 = .ok (.ireturn, 1) := dc_172 (by decide +kernel)
theorem d_Mod_rain_14 : decode b_Mod_rain 14 = .ok (.iconst 0, 1) := dc_3 (by decide +kernel)
theorem d_Mod_rain_15 : decode b_Mod_rain 15 = .ok (.istore_n 2, 1) := dc_61 (by decide +kernel)
theorem d_Mod_rain_16 : decode b_Mod_rain 16 = .ok (.iload_n 2, 1) := dc_28 (by decide +kernel)
theorem d_Mod_rain_17 : decode b_Mod_rain 17 = .ok (.aload_n 0, 1) := dc_42 (by decide +kernel)
theorem d_Mod_rain_18 : decode b_Mod_rain 18 = .ok (.invokevirtual 183, 3) := dc_182 (a := 0) (b := 183) (by decide +kernel) rfl
theorem d_Mod_rain_21 : decode b_Mod_rain 21 = .ok (.if_icmp .ge 48, 3) := dc_162 (a := 0) (b := 48) (by decide +kernel) rfl
theorem d_Mod_rain_24 : decode b_Mod_rain 24 = .ok (.aload_n 0, 1) := dc_42 (by decide +kernel)
theorem d_Mod_rain_25 : decode b_Mod_rain 25 = .ok (.getfield 7, 3) := dc_180 (a := 0) (b := 7) (by decide +kernel) rfl
theorem d_Mod_rain_28 : decode b_Mod_rain 28 = .ok (.iconst 0, 1) := dc_3 (by decide +kernel)
theorem d_Mod_rain_29 : decode b_Mod_rain 29 = .ok (.iload_n 2, 1) := dc_28 (by decide +kernel)
theorem d_Mod_rain_30 : decode b_Mod_rain 30 = .ok (.iadd, 1) := dc_96 (by decide +kernel)
theorem d_Mod_rain_31 : decode b_Mod_rain 31 = .ok (.iaload, 1) := dc_46 (by decide +kernel)
theorem d_Mod_rain_32 : decode b_Mod_rain 32 = .ok (.istore_n 3, 1) := dc_62 (by decide +kernel)
theorem d_Mod_rain_33 : decode b_Mod_rain 33 = .ok (.aload_n 0, 1) := dc_42 (by decide +kernel)
theorem d_Mod_rain_34 : decode b_Mod_rain 34 = .ok (.getfield 7, 3) := dc_180 (a := 0) (b := 7) (by decide +kernel) rfl
theorem d_Mod_rain_37 : decode b_Mod_rain 37 = .ok (.iconst 0, 1) := dc_3 (by decide +kernel)
theorem d_Mod_rain_38 : decode b_Mod_rain 38 = .ok (.iload_n 2, 1) := dc_28 (by decide +kernel)
theorem d_Mod_rain_39 : decode b_Mod_rain 39 = .ok (.iadd, 1) := dc_96 (by decide +kernel)
theorem d_Mod_rain_40 : decode b_Mod_rain 40 = .ok (.iload_n 3, 1) := dc_29 (by decide +kernel)
theorem d_Mod_rain_41 : decode b_Mod_rain 41 = .ok (.ifCond .ne 7, 3) := dc_154 (a := 0) (b := 7) (by decide +kernel) rfl
theorem d_Mod_rain_44 : decode b_Mod_rain 44 = .ok (.iconst 0, 1) := dc_3 (by decide +kernel)
theorem d_Mod_rain_45 : decode b_Mod_rain 45 = .ok (.goto 17, 3) := dc_167 (a := 0) (b := 17) (by decide +kernel) rfl
theorem d_Mod_rain_48 : decode b_Mod_rain 48 = .ok (.iload_n 3, 1) := dc_29 (by decide +kernel)
theorem d_Mod_rain_49 : decode b_Mod_rain 49 = .ok (.iload_n 1, 1) := dc_27 (by decide +kernel)
theorem d_Mod_rain_50 : decode b_Mod_rain 50 = .ok (.isub, 1) := dc_100 (by decide +kernel)
theorem d_Mod_rain_51 : decode b_Mod_rain 51 = .ok (.iconst 1, 1) := dc_4 (by decide +kernel)
theorem d_Mod_rain_52 : decode b_Mod_rain 52 = .ok (.if_icmp .ge 7, 3) := dc_162 (a := 0) (b := 7) (by decide +kernel) rfl
theorem d_Mod_rain_55 : decode b_Mod_rain 55 = .ok (.iconst 1, 1) := dc_4 (by decide +kernel)
theorem d_Mod_rain_56 : decode b_Mod_rain 56 = .ok (.goto 6, 3) := dc_167 (a := 0) (b := 6) (by decide +kernel) rfl
theorem d_Mod_rain_59 : decode b_Mod_rain 59 = .ok (.iload_n 3, 1) := dc_29 (by decide +kernel)
theorem d_Mod_rain_60 : decode b_Mod_rain 60 = .ok (.iload_n 1, 1) := dc_27 (by decide +kernel)
theorem d_Mod_rain_61 : decode b_Mod_rain 61 = .ok (.isub, 1) := dc_100 (by decide +kernel)
theorem d_Mod_rain_62 : decode b_Mod_rain 62 = .ok (.iastore, 1) := dc_79 (by decide +kernel)
theorem d_Mod_rain_63 : decode b_Mod_rain 63 = .ok (.iinc 2 1, 3) := dc_132 (a := 2) (b := 1) (by decide +kernel) rfl
theorem d_Mod_rain_66 : decode b_Mod_rain 66 = .ok (.goto (-50), 3) := dc_167 (a := 255) (b := 206) (by decide +kernel) rfl
theorem d_Mod_rain_69 : decode b_Mod_rain 69 = .ok (.aload_n 0, 1) := dc_42 (by decide +kernel)
theorem d_Mod_rain_70 : decode b_Mod_rain 70 = .ok (.invokevirtual 223, 3) := dc_182 (a := 0) (b := 223) (by decide +kernel) rfl
theorem d_Mod_rain_73 : decode b_Mod_rain 73 = .ok (.ireturn, 1) := dc_172 (by decide +kernel)
theorem d_Mod_doesTwitch_0 : decode b_Mod_doesTwitch 0 = .ok (.aload_n 0, 1) := dc_42 (by decide +kernel)
theorem d_Mod_doesTwitch_1 : decode b_Mod_doesTwitch 1 = .ok (.getfield 7, 3) := dc_180 (a := 0) (b := 7) (by decide +kernel) rfl
theorem d_Mod_doesTwitch_4 : decode b_Mod_doesTwitch 4 = .ok (.iconst 0, 1) := dc_3 (by decide +kernel)
theorem d_Mod_doesTwitch_5 : decode b_Mod_doesTwitch 5 = .ok (.iload_n 3, 1) := dc_29 (by decide +kernel)
theorem d_Mod_doesTwitch_6 : decode b_Mod_doesTwitch 6 = .ok (.iadd, 1) := dc_96 (by decide +kernel)
theorem d_Mod_doesTwitch_7 : decode b_Mod_doesTwitch 7 = .ok (.iaload, 1) := dc_46 (by decide +kernel)
theorem d_Mod_doesTwitch_8 : decode b_Mod_doesTwitch 8 = .ok (.ifCond .le 19, 3) := dc_158 (a := 0) (b := 19) (by decide +kernel) rfl
theorem d_Mod_doesTwitch_11 : decode b_Mod_doesTwitch 11 = .ok (.aload_n 0, 1) := dc_42 (by decide +kernel)
theorem d_Mod_doesTwitch_12 : decode b_Mod_doesTwitch 12 = .ok (.getfield 7, 3) := dc_180 (a := 0) (b := 7) (by decide +kernel) rfl
theorem d_Mod_doesTwitch_15 : decode b_Mod_doesTwitch 15 = .ok (.iconst 0, 1) := dc_3 (by decide +kernel)
theorem d_Mod_doesTwitch_16 : decode b_Mod_doesTwitch 16 = .ok (.iload_n 3, 1) := dc_29 (by decide +kernel)
theorem d_Mod_doesTwitch_17 : decode b_Mod_doesTwitch 17 = .ok (.iadd, 1) := dc_96 (by decide +kernel)
theorem d_Mod_doesTwitch_18 : decode b_Mod_doesTwitch 18 = .ok (.iaload, 1) := dc_46 (by decide +kernel)
theorem d_Mod_doesTwitch_19 : decode b_Mod_doesTwitch 19 = .ok (.iload_n 2, 1) := dc_28 (by decide +kernel)
theorem d_Mod_doesTwitch_20 : decode b_Mod_doesTwitch 20 = .ok (.if_icmp .gt 7, 3) := dc_163 (a := 0) (b := 7) (by decide +kernel) rfl
theorem d_Mod_doesTwitch_23 : decode b_Mod_doesTwitch 23 = .ok (.iconst 1, 1) := dc_4 (by decide +kernel)
theorem d_Mod_doesTwitch_24 : decode b_Mod_doesTwitch 24 = .ok (.goto 4, 3) := dc_167 (a := 0) (b := 4) (by decide +kernel) rfl
theorem d_Mod_doesTwitch_27 : decode b_Mod_doesTwitch 27 = .ok (.iconst 0, 1) := dc_3 (by decide +kernel)
theorem d_Mod_doesTwitch_28 : decode b_Mod_doesTwitch 28 = .ok (.istore 6, 2) := dc_54 (a := 6) (by decide +kernel) rfl
theorem d_Mod_doesTwitch_30 : decode b_Mod_doesTwitch 30 = .ok (.aload_n 0, 1) := dc_42 (by decide +kernel)
theorem d_Mod_doesTwitch_31 : decode b_Mod_doesTwitch 31 = .ok (.getfield 7, 3) := dc_180 (a := 0) (b := 7) (by decide +kernel) rfl
theorem d_Mod_doesTwitch_34 : decode b_Mod_doesTwitch 34 = .ok (.bipush 16, 2) := dc_16 (a := 16) (by decide +kernel) rfl
theorem d_Mod_doesTwitch_36 : decode b_Mod_doesTwitch 36 = .ok (.iload_n 3, 1) := dc_29 (by decide +kernel)
theorem d_Mod_doesTwitch_37 : decode b_Mod_doesTwitch 37 = .ok (.iadd, 1) := dc_96 (by decide +kernel)
theorem d_Mod_doesTwitch_38 : decode b_Mod_doesTwitch 38 = .ok (.iaload, 1) := dc_46 (by decide +kernel)
theorem d_Mod_doesTwitch_39 : decode b_Mod_doesTwitch 39 = .ok (.iconst 1, 1) := dc_4 (by decide +kernel)
theorem d_Mod_doesTwitch_40 : decode b_Mod_doesTwitch 40 = .ok (.if_icmp .ne 7, 3) := dc_160 (a := 0) (b := 7) (by decide +kernel) rfl
theorem d_Mod_doesTwitch_43 : decode b_Mod_doesTwitch 43 = .ok (.iconst 1, 1) := dc_4 (by decide +kernel)
theorem d_Mod_doesTwitch_44 : decode b_Mod_doesTwitch 44 = .ok (.goto 4, 3) := dc_167 (a := 0) (b := 4) (by decide +kernel) rfl
theorem d_Mod_doesTwitch_47 : decode b_Mod_doesTwitch 47 = .ok (.iconst 0, 1) := dc_3 (by decide +kernel)
theorem d_Mod_doesTwitch_48 : decode b_Mod_doesTwitch 48 = .ok (.istore 7, 2) := dc_54 (a := 7) (by decide +kernel) rfl
theorem d_Mod_doesTwitch_50 : decode b_Mod_doesTwitch 50 = .ok (.iload_n 1, 1) := dc_27 (by decide +kernel)
theorem d_Mod_doesTwitch_51 : decode b_Mod_doesTwitch 51 = .ok (.tableswitch 69 0 3 #[29, 32, 35, 49], 29) := by decide +kernel
theorem d_Mod_doesTwitch_80 : decode b_Mod_doesTwitch 80 = .ok (.iload 6, 2) := dc_21 (a := 6) (by decide +kernel) rfl
theorem d_Mod_doesTwitch_82 : decode b_Mod_doesTwitch 82 = .ok (.ireturn, 1) := dc_172 (by decide +kernel)
theorem d_Mod_doesTwitch_83 : decode b_Mod_doesTwitch 83 = .ok (.iload 7, 2) := dc_21 (a := 7) (by decide +kernel) rfl
theorem d_Mod_doesTwitch_85 : decode b_Mod_doesTwitch 85 = .ok (.ireturn, 1) := dc_172 (by decide +kernel)
theorem d_Mod_doesTwitch_86 : decode b_Mod_doesTwitch 86 = .ok (.iload 5, 2) := dc_21 (a := 5) (by decide +kernel) rfl
theorem d_Mod_doesTwitch_88 : decode b_Mod_doesTwitch 88 = .ok (.iconst 2, 1) := dc_5 (by decide +kernel)
theorem d_Mod_doesTwitch_89 : decode b_Mod_doesTwitch 89 = .ok (.irem, 1) := dc_112 (by decide +kernel)
theorem d_Mod_doesTwitch_90 : decode b_Mod_doesTwitch 90 = .ok (.iconst 1, 1) := dc_4 (by decide +kernel)
theorem d_Mod_doesTwitch_91 : decode b_Mod_doesTwitch 91 = .ok (.if_icmp .ne 7, 3) := dc_160 (a := 0) (b := 7) (by decide +kernel) rfl
theorem d_Mod_doesTwitch_94 : decode b_Mod_doesTwitch 94 = .ok (.iconst 1, 1) := dc_4 (by decide +kernel)
theorem d_Mod_doesTwitch_95 : decode b_Mod_doesTwitch 95 = .ok (.goto 4, 3) := dc_167 (a := 0) (b := 4) (by decide +kernel) rfl
theorem d_Mod_doesTwitch_98 : decode b_Mod_doesTwitch 98 = .ok (.iconst 0, 1) := dc_3 (by decide +kernel)
theorem d_Mod_doesTwitch_99 : decode b_Mod_doesTwitch 99 = .ok (.ireturn, 1) := dc_172 (by decide +kernel)
theorem d_Mod_doesTwitch_100 : decode b_Mod_doesTwitch 100 = .ok (.aload_n 0, 1) := dc_42 (by decide +kernel)
theorem d_Mod_doesTwitch_101 : decode b_Mod_doesTwitch 101 = .ok (.getfield 7, 3) := dc_180 (a := 0) (b := 7) (by decide +kernel) rfl
theorem d_Mod_doesTwitch_104 : decode b_Mod_doesTwitch 104 = .ok (.bipush 48, 2) := dc_16 (a := 48) (by decide +kernel) rfl
theorem d_Mod_doesTwitch_106 : decode b_Mod_doesTwitch 106 = .ok (.iload_n 3, 1) := dc_29 (by decide +kernel)
theorem d_Mod_doesTwitch_107 : decode b_Mod_doesTwitch 107 = .ok (.iadd, 1) := dc_96 (by decide +kernel)
theorem d_Mod_doesTwitch_108 : decode b_Mod_doesTwitch 108 = .ok (.iaload, 1) := dc_46 (by decide +kernel)
theorem d_Mod_doesTwitch_109 : decode b_Mod_doesTwitch 109 = .ok (.iload 4, 2) := dc_21 (a := 4) (by decide +kernel) rfl
theorem d_Mod_doesTwitch_111 : decode b_Mod_doesTwitch 111 = .ok (.if_icmp .ne 7, 3) := dc_160 (a := 0) (b := 7) (by decide +kernel) rfl
theorem d_Mod_doesTwitch_114 : decode b_Mod_doesTwitch 114 = .ok (.iconst 1, 1) := dc_4 (by decide +kernel)
theorem d_Mod_doesTwitch_115 : decode b_Mod_doesTwitch 115 = .ok (.goto 4, 3) := dc_167 (a := 0) (b := 4) (by decide +kernel) rfl
theorem d_Mod_doesTwitch_118 : decode b_Mod_doesTwitch 118 = .ok (.iconst 0, 1) := dc_3 (by decide +kernel)
theorem d_Mod_doesTwitch_119 : decode b_Mod_doesTwitch 119 = .ok (.ireturn, 1) := dc_172 (by decide +kernel)
theorem d_Mod_doesTwitch_120 : decode b_Mod_doesTwitch 120 = .ok (.iload 6, 2) := dc_21 (a := 6) (by decide +kernel) rfl
theorem d_Mod_doesTwitch_122 : decode b_Mod_doesTwitch 122 = .ok (.ifCond .ne 8, 3) := dc_154 (a := 0) (b := 8) (by decide +kernel) rfl
theorem d_Mod_doesTwitch_125 : decode b_Mod_doesTwitch 125 = .ok (.iload 7, 2) := dc_21 (a := 7) (by decide +kernel) rfl
theorem d_Mod_doesTwitch_127 : decode b_Mod_doesTwitch 127 = .ok (.ifCond .eq 7, 3) := dc_153 (a := 0) (b := 7) (by decide +kernel) rfl
theorem d_Mod_doesTwitch_130 : decode b_Mod_doesTwitch 130 = .ok (.iconst 1, 1) := dc_4 (by decide +kernel)
theorem d_Mod_doesTwitch_131 : decode b_Mod_doesTwitch 131 = .ok (.goto 4, 3) := dc_167 (a := 0) (b := 4) (by decide +kernel) rfl
theorem d_Mod_doesTwitch_134 : decode b_Mod_doesTwitch 134 = .ok (.iconst 0, 1) := dc_3 (by decide +kernel)
theorem d_Mod_doesTwitch_135 : decode b_Mod_doesTwitch 135 = .ok (.ireturn, 1) := dc_172 (by decide +kernel)
theorem d_Mod_isSeen_0 : decode b_Mod_isSeen 0 = .ok (.aload_n 0, 1) := dc_42 (by decide +kernel)
theorem d_Mod_isSeen_1 : decode b_Mod_isSeen 1 = .ok (.iload_n 1, 1) := dc_27 (by decide +kernel)
theorem d_Mod_isSeen_2 : decode b_Mod_isSeen 2 = .ok (.invokevirtual 200, 3) := dc_182 (a := 0) (b := 200) (by decide +kernel) rfl
theorem d_Mod_isSeen_5 : decode b_Mod_isSeen 5 = .ok (.ifCond .eq 26, 3) := dc_153 (a := 0) (b := 26) (by decide +kernel) rfl
theorem d_Mod_isSeen_8 : decode b_Mod_isSeen 8 = .ok (.iload_n 2, 1) := dc_28 (by decide +kernel)
theorem d_Mod_isSeen_9 : decode b_Mod_isSeen 9 = .ok (.invokestatic 205, 3) := dc_184 (a := 0) (b := 205) (by decide +kernel) rfl
theorem d_Mod_isSeen_12 : decode b_Mod_isSeen 12 = .ok (.ifCond .eq 19, 3) := dc_153 (a := 0) (b := 19) (by decide +kernel) rfl
theorem d_Mod_isSeen_15 : decode b_Mod_isSeen 15 = .ok (.iload_n 3, 1) := dc_29 (by decide +kernel)
theorem d_Mod_isSeen_16 : decode b_Mod_isSeen 16 = .ok (.i2l, 1) := dc_133 (by decide +kernel)
theorem d_Mod_isSeen_17 : decode b_Mod_isSeen 17 = .ok (.lconst 1, 1) := dc_10 (by decide +kernel)
theorem d_Mod_isSeen_18 : decode b_Mod_isSeen 18 = .ok (.ldc2_w 208, 3) := dc_20 (a := 0) (b := 208) (by decide +kernel) rfl
theorem d_Mod_isSeen_21 : decode b_Mod_isSeen 21 = .ok (.invokestatic 95, 3) := dc_184 (a := 0) (b := 95) (by decide +kernel) rfl
theorem d_Mod_isSeen_24 : decode b_Mod_isSeen 24 = .ok (.ifCond .eq 7, 3) := dc_153 (a := 0) (b := 7) (by decide +kernel) rfl
theorem d_Mod_isSeen_27 : decode b_Mod_isSeen 27 = .ok (.iconst 1, 1) := dc_4 (by decide +kernel)
theorem d_Mod_isSeen_28 : decode b_Mod_isSeen 28 = .ok (.goto 4, 3) := dc_167 (a := 0) (b := 4) (by decide +kernel) rfl
theorem d_Mod_isSeen_31 : decode b_Mod_isSeen 31 = .ok (.iconst 0, 1) := dc_3 (by decide +kernel)
theorem d_Mod_isSeen_32 : decode b_Mod_isSeen 32 = .ok (.ireturn, 1) := dc_172 (by decide +kernel)
theorem d_Mod_twitch_0 : decode b_Mod_twitch 0 = .ok (.aload_n 0, 1) := dc_42 (by decide +kernel)
theorem d_Mod_twitch_1 : decode b_Mod_twitch 1 = .ok (.iload_n 1, 1) := dc_27 (by decide +kernel)
theorem d_Mod_twitch_2 : decode b_Mod_twitch 2 = .ok (.iload_n 2, 1) := dc_28 (by decide +kernel)
theorem d_Mod_twitch_3 : decode b_Mod_twitch 3 = .ok (.iload_n 3, 1) := dc_29 (by decide +kernel)
theorem d_Mod_twitch_4 : decode b_Mod_twitch 4 = .ok (.invokevirtual 226, 3) := dc_182 (a := 0) (b := 226) (by decide +kernel) rfl
theorem d_Mod_twitch_7 : decode b_Mod_twitch 7 = .ok (.ifCond .eq 30, 3) := dc_153 (a := 0) (b := 30) (by decide +kernel) rfl
theorem d_Mod_twitch_10 : decode b_Mod_twitch 10 = .ok (.aload_n 0, 1) := dc_42 (by decide +kernel)
theorem d_Mod_twitch_11 : decode b_Mod_twitch 11 = .ok (.aload_n 0, 1) := dc_42 (by decide +kernel)
theorem d_Mod_twitch_12 : decode b_Mod_twitch 12 = .ok (.getfield 7, 3) := dc_180 (a := 0) (b := 7) (by decide +kernel) rfl
theorem d_Mod_twitch_15 : decode b_Mod_twitch 15 = .ok (.bipush 84, 2) := dc_16 (a := 84) (by decide +kernel) rfl
theorem d_Mod_twitch_17 : decode b_Mod_twitch 17 = .ok (.iaload, 1) := dc_46 (by decide +kernel)
theorem d_Mod_twitch_18 : decode b_Mod_twitch 18 = .ok (.aload_n 0, 1) := dc_42 (by decide +kernel)
theorem d_Mod_twitch_19 : decode b_Mod_twitch 19 = .ok (.getfield 7, 3) := dc_180 (a := 0) (b := 7) (by decide +kernel) rfl
theorem d_Mod_twitch_22 : decode b_Mod_twitch 22 = .ok (.bipush 85, 2) := dc_16 (a := 85) (by decide +kernel) rfl
theorem d_Mod_twitch_24 : decode b_Mod_twitch 24 = .ok (.iaload, 1) := dc_46 (by decide +kernel)
theorem d_Mod_twitch_25 : decode b_Mod_twitch 25 = .ok (.iload_n 1, 1) := dc_27 (by decide +kernel)
theorem d_Mod_twitch_26 : decode b_Mod_twitch 26 = .ok (.iload_n 2, 1) := dc_28 (by decide +kernel)
theorem d_Mod_twitch_27 : decode b_Mod_twitch 27 = .ok (.iload_n 3, 1) := dc_29 (by decide +kernel)
theorem d_Mod_twitch_28 : decode b_Mod_twitch 28 = .ok (.invokevirtual 229, 3) := dc_182 (a := 0) (b := 229) (by decide +kernel) rfl
theorem d_Mod_twitch_31 : decode b_Mod_twitch 31 = .ok (.invokestatic 196, 3) := dc_184 (a := 0) (b := 196) (by decide +kernel) rfl
theorem d_Mod_twitch_34 : decode b_Mod_twitch 34 = .ok (.goto 4, 3) := dc_167 (a := 0) (b := 4) (by decide +kernel) rfl
theorem d_Mod_twitch_37 : decode b_Mod_twitch 37 = .ok (.iconst (-1), 1) := dc_2 (by decide +kernel)
theorem d_Mod_twitch_38 : decode b_Mod_twitch 38 = .ok (.ireturn, 1) := dc_172 (by decide +kernel)
theorem d_Mod_see_0 : decode b_Mod_see 0 = .ok (.aload_n 0, 1) := dc_42 (by decide +kernel)
theorem d_Mod_see_1 : decode b_Mod_see 1 = .ok (.iload_n 1, 1) := dc_27 (by decide +kernel)
theorem d_Mod_see_2 : decode b_Mod_see 2 = .ok (.iload_n 2, 1) := dc_28 (by decide +kernel)
theorem d_Mod_see_3 : decode b_Mod_see 3 = .ok (.iload_n 3, 1) := dc_29 (by decide +kernel)
theorem d_Mod_see_4 : decode b_Mod_see 4 = .ok (.invokevirtual 226, 3) := dc_182 (a := 0) (b := 226) (by decide +kernel) rfl
theorem d_Mod_see_7 : decode b_Mod_see 7 = .ok (.ifCond .ne 5, 3) := dc_154 (a := 0) (b := 5) (by decide +kernel) rfl
theorem d_Mod_see_10 : decode b_Mod_see 10 = .ok (.iconst (-1), 1) := dc_2 (by decide +kernel)
theorem d_Mod_see_11 : decode b_Mod_see 11 = .ok (.ireturn, 1) := dc_172 (by decide +kernel)
theorem d_Mod_see_12 : decode b_Mod_see 12 = .ok (.aload_n 0, 1) := dc_42 (by decide +kernel)
theorem d_Mod_see_13 : decode b_Mod_see 13 = .ok (.getfield 7, 3) := dc_180 (a := 0) (b := 7) (by decide +kernel) rfl
theorem d_Mod_see_16 : decode b_Mod_see 16 = .ok (.bipush 111, 2) := dc_16 (a := 111) (by decide +kernel) rfl
theorem d_Mod_see_18 : decode b_Mod_see 18 = .ok (.iaload, 1) := dc_46 (by decide +kernel)
theorem d_Mod_see_19 : decode b_Mod_see 19 = .ok (.bipush 8, 2) := dc_16 (a := 8) (by decide +kernel) rfl
theorem d_Mod_see_21 : decode b_Mod_see 21 = .ok (.if_icmp .ne 6, 3) := dc_160 (a := 0) (b := 6) (by decide +kernel) rfl
theorem d_Mod_see_24 : decode b_Mod_see 24 = .ok (.bipush (-3), 2) := dc_16 (a := 253) (by decide +kernel) rfl
theorem d_Mod_see_26 : decode b_Mod_see 26 = .ok (.ireturn, 1) := dc_172 (by decide +kernel)
theorem d_Mod_see_27 : decode b_Mod_see 27 = .ok (.bipush 112, 2) := dc_16 (a := 112) (by decide +kernel) rfl
theorem d_Mod_see_29 : decode b_Mod_see 29 = .ok (.iconst 4, 1) := dc_7 (by decide +kernel)
theorem d_Mod_see_30 : decode b_Mod_see 30 = .ok (.aload_n 0, 1) := dc_42 (by decide +kernel)
theorem d_Mod_see_31 : decode b_Mod_see 31 = .ok (.getfield 7, 3) := dc_180 (a := 0) (b := 7) (by decide +kernel) rfl
theorem d_Mod_see_34 : decode b_Mod_see 34 = .ok (.bipush 111, 2) := dc_16 (a := 111) (by decide +kernel) rfl
theorem d_Mod_see_36 : decode b_Mod_see 36 = .ok (.iaload, 1) := dc_46 (by decide +kernel)
theorem d_Mod_see_37 : decode b_Mod_see 37 = .ok (.imul, 1) := dc_104 (by decide +kernel)
theorem d_Mod_see_38 : decode b_Mod_see 38 = .ok (.iadd, 1) := dc_96 (by decide +kernel)
theorem d_Mod_see_39 : decode b_Mod_see 39 = .ok (.istore 5, 2) := dc_54 (a := 5) (by decide +kernel) rfl
theorem d_Mod_see_41 : decode b_Mod_see 41 = .ok (.aload_n 0, 1) := dc_42 (by decide +kernel)
theorem d_Mod_see_42 : decode b_Mod_see 42 = .ok (.getfield 7, 3) := dc_180 (a := 0) (b := 7) (by decide +kernel) rfl
theorem d_Mod_see_45 : decode b_Mod_see 45 = .ok (.iload 5, 2) := dc_21 (a := 5) (by decide +kernel) rfl
theorem d_Mod_see_47 : decode b_Mod_see 47 = .ok (.iload_n 1, 1) := dc_27 (by decide +kernel)
theorem d_Mod_see_48 : decode b_Mod_see 48 = .ok (.iastore, 1) := dc_79 (by decide +kernel)
theorem d_Mod_see_49 : decode b_Mod_see 49 = .ok (.aload_n 0, 1) := dc_42 (by decide +kernel)
theorem d_Mod_see_50 : decode b_Mod_see 50 = .ok (.getfield 7, 3) := dc_180 (a := 0) (b := 7) (by decide +kernel) rfl
theorem d_Mod_see_53 : decode b_Mod_see 53 = .ok (.iload 5, 2) := dc_21 (a := 5) (by decide +kernel) rfl
theorem d_Mod_see_55 : decode b_Mod_see 55 = .ok (.iconst 1, 1) := dc_4 (by decide +kernel)
theorem d_Mod_see_56 : decode b_Mod_see 56 = .ok (.iadd, 1) := dc_96 (by decide +kernel)
theorem d_Mod_see_57 : decode b_Mod_see 57 = .ok (.iload_n 2, 1) := dc_28 (by decide +kernel)
theorem d_Mod_see_58 : decode b_Mod_see 58 = .ok (.iastore, 1) := dc_79 (by decide +kernel)
theorem d_Mod_see_59 : decode b_Mod_see 59 = .ok (.aload_n 0, 1) := dc_42 (by decide +kernel)
theorem d_Mod_see_60 : decode b_Mod_see 60 = .ok (.getfield 7, 3) := dc_180 (a := 0) (b := 7) (by decide +kernel) rfl
theorem d_Mod_see_63 : decode b_Mod_see 63 = .ok (.iload 5, 2) := dc_21 (a := 5) (by decide +kernel) rfl
theorem d_Mod_see_65 : decode b_Mod_see 65 = .ok (.iconst 2, 1) := dc_5 (by decide +kernel)
theorem d_Mod_see_66 : decode b_Mod_see 66 = .ok (.iadd, 1) := dc_96 (by decide +kernel)
theorem d_Mod_see_67 : decode b_Mod_see 67 = .ok (.iload_n 3, 1) := dc_29 (by decide +kernel)
theorem d_Mod_see_68 : decode b_Mod_see 68 = .ok (.iastore, 1) := dc_79 (by decide +kernel)
theorem d_Mod_see_69 : decode b_Mod_see 69 = .ok (.aload_n 0, 1) := dc_42 (by decide +kernel)
theorem d_Mod_see_70 : decode b_Mod_see 70 = .ok (.getfield 7, 3) := dc_180 (a := 0) (b := 7) (by decide +kernel) rfl
theorem d_Mod_see_73 : decode b_Mod_see 73 = .ok (.iload 5, 2) := dc_21 (a := 5) (by decide +kernel) rfl
theorem d_Mod_see_75 : decode b_Mod_see 75 = .ok (.iconst 3, 1) := dc_6 (by decide +kernel)
theorem d_Mod_see_76 : decode b_Mod_see 76 = .ok (.iadd, 1) := dc_96 (by decide +kernel)
theorem d_Mod_see_77 : decode b_Mod_see 77 = .ok (.iload 4, 2) := dc_21 (a := 4) (by decide +kernel) rfl
theorem d_Mod_see_79 : decode b_Mod_see 79 = .ok (.invokestatic 196, 3) := dc_184 (a := 0) (b := 196) (by decide +kernel) rfl
theorem d_Mod_see_82 : decode b_Mod_see 82 = .ok (.iastore, 1) := dc_79 (by decide +kernel)
theorem d_Mod_see_83 : decode b_Mod_see 83 = .ok (.aload_n 0, 1) := dc_42 (by decide +kernel)
theorem d_Mod_see_84 : decode b_Mod_see 84 = .ok (.getfield 7, 3) := dc_180 (a := 0) (b := 7) (by decide +kernel) rfl
theorem d_Mod_see_87 : decode b_Mod_see 87 = .ok (.bipush 111, 2) := dc_16 (a := 111) (by decide +kernel) rfl
theorem d_Mod_see_89 : decode b_Mod_see 89 = .ok (.dup2, 1) := dc_92 (by decide +kernel)
theorem d_Mod_see_90 : decode b_Mod_see 90 = .ok (.iaload, 1) := dc_46 (by decide +kernel)
theorem d_Mod_see_91 : decode b_Mod_see 91 = .ok (.iconst 1, 1) := dc_4 (by decide +kernel)
theorem d_Mod_see_92 : decode b_Mod_see 92 = .ok (.iadd, 1) := dc_96 (by decide +kernel)
theorem d_Mod_see_93 : decode b_Mod_see 93 = .ok (.iastore, 1) := dc_79 (by decide +kernel)
theorem d_Mod_see_94 : decode b_Mod_see 94 = .ok (.aload_n 0, 1) := dc_42 (by decide +kernel)
theorem d_Mod_see_95 : decode b_Mod_see 95 = .ok (.getfield 7, 3) := dc_180 (a := 0) (b := 7) (by decide +kernel) rfl
theorem d_Mod_see_98 : decode b_Mod_see 98 = .ok (.bipush 111, 2) := dc_16 (a := 111) (by decide +kernel) rfl
theorem d_Mod_see_100 : decode b_Mod_see 100 = .ok (.iaload, 1) := dc_46 (by decide +kernel)
theorem d_Mod_see_101 : decode b_Mod_see 101 = .ok (.ireturn, 1) := dc_172 (by decide +kernel)
theorem d_Mod_forget_0 : decode b_Mod_forget 0 = .ok (.iload_n 1, 1) := dc_27 (by decide +kernel)
theorem d_Mod_forget_1 : decode b_Mod_forget 1 = .ok (.i2l, 1) := dc_133 (by decide +kernel)
theorem d_Mod_forget_2 : decode b_Mod_forget 2 = .ok (.lconst 0, 1) := dc_9 (by decide +kernel)
theorem d_Mod_forget_3 : decode b_Mod_forget 3 = .ok (.aload_n 0, 1) := dc_42 (by decide +kernel)
theorem d_Mod_forget_4 : decode b_Mod_forget 4 = .ok (.getfield 7, 3) := dc_180 (a := 0) (b := 7) (by decide +kernel) rfl
theorem d_Mod_forget_7 : decode b_Mod_forget 7 = .ok (.bipush 111, 2) := dc_16 (a := 111) (by decide +kernel) rfl
theorem d_Mod_forget_9 : decode b_Mod_forget 9 = .ok (.iaload, 1) := dc_46 (by decide +kernel)
theorem d_Mod_forget_10 : decode b_Mod_forget 10 = .ok (.i2l, 1) := dc_133 (by decide +kernel)
theorem d_Mod_forget_11 : decode b_Mod_forget 11 = .ok (.invokestatic 95, 3) := dc_184 (a := 0) (b := 95) (by decide +kernel) rfl
theorem d_Mod_forget_14 : decode b_Mod_forget 14 = .ok (.ifCond .eq 13, 3) := dc_153 (a := 0) (b := 13) (by decide +kernel) rfl
theorem d_Mod_forget_17 : decode b_Mod_forget 17 = .ok (.aload_n 0, 1) := dc_42 (by decide +kernel)
theorem d_Mod_forget_18 : decode b_Mod_forget 18 = .ok (.bipush 111, 2) := dc_16 (a := 111) (by decide +kernel) rfl
theorem d_Mod_forget_20 : decode b_Mod_forget 20 = .ok (.iload_n 1, 1) := dc_27 (by decide +kernel)
theorem d_Mod_forget_21 : decode b_Mod_forget 21 = .ok (.invokevirtual 210, 3) := dc_182 (a := 0) (b := 210) (by decide +kernel) rfl
theorem d_Mod_forget_24 : decode b_Mod_forget 24 = .ok (.goto 4, 3) := dc_167 (a := 0) (b := 4) (by decide +kernel) rfl
theorem d_Mod_forget_27 : decode b_Mod_forget 27 = .ok (.iconst (-1), 1) := dc_2 (by decide +kernel)
theorem d_Mod_forget_28 : decode b_Mod_forget 28 = .ok (.ireturn, 1) := dc_172 (by decide +kernel)
theorem d_Mod_doesFit_0 : decode b_Mod_doesFit 0 = .ok (.iconst 1, 1) := dc_4 (by decide +kernel)
theorem d_Mod_doesFit_1 : decode b_Mod_doesFit 1 = .ok (.istore_n 3, 1) := dc_62 (by decide +kernel)
theorem d_Mod_doesFit_2 : decode b_Mod_doesFit 2 = .ok (.iconst 0, 1) := dc_3 (by decide +kernel)
theorem d_Mod_doesFit_3 : decode b_Mod_doesFit 3 = .ok (.istore 4, 2) := dc_54 (a := 4) (by decide +kernel) rfl
theorem d_Mod_doesFit_5 : decode b_Mod_doesFit 5 = .ok (.iload 4, 2) := dc_21 (a := 4) (by decide +kernel) rfl
theorem d_Mod_doesFit_7 : decode b_Mod_doesFit 7 = .ok (.aload_n 0, 1) := dc_42 (by decide +kernel)
theorem d_Mod_doesFit_8 : decode b_Mod_doesFit 8 = .ok (.getfield 7, 3) := dc_180 (a := 0) (b := 7) (by decide +kernel) rfl
theorem d_Mod_doesFit_11 : decode b_Mod_doesFit 11 = .ok (.bipush 111, 2) := dc_16 (a := 111) (by decide +kernel) rfl
theorem d_Mod_doesFit_13 : decode b_Mod_doesFit 13 = .ok (.iaload, 1) := dc_46 (by decide +kernel)
theorem d_Mod_doesFit_14 : decode b_Mod_doesFit 14 = .ok (.if_icmp .ge 74, 3) := dc_162 (a := 0) (b := 74) (by decide +kernel) rfl
theorem d_Mod_doesFit_17 : decode b_Mod_doesFit 17 = .ok (.bipush 112, 2) := dc_16 (a := 112) (by decide +kernel) rfl
theorem d_Mod_doesFit_19 : decode b_Mod_doesFit 19 = .ok (.iconst 4, 1) := dc_7 (by decide +kernel)
theorem d_Mod_doesFit_20 : decode b_Mod_doesFit 20 = .ok (.iload 4, 2) := dc_21 (a := 4) (by decide +kernel) rfl
theorem d_Mod_doesFit_22 : decode b_Mod_doesFit 22 = .ok (.imul, 1) := dc_104 (by decide +kernel)
theorem d_Mod_doesFit_23 : decode b_Mod_doesFit 23 = .ok (.iadd, 1) := dc_96 (by decide +kernel)
theorem d_Mod_doesFit_24 : decode b_Mod_doesFit 24 = .ok (.istore 5, 2) := dc_54 (a := 5) (by decide +kernel) rfl
theorem d_Mod_doesFit_26 : decode b_Mod_doesFit 26 = .ok (.iload_n 3, 1) := dc_29 (by decide +kernel)
theorem d_Mod_doesFit_27 : decode b_Mod_doesFit 27 = .ok (.ifCond .eq 53, 3) := dc_153 (a := 0) (b := 53) (by decide +kernel) rfl
theorem d_Mod_doesFit_30 : decode b_Mod_doesFit 30 = .ok (.aload_n 0, 1) := dc_42 (by decide +kernel)
theorem d_Mod_doesFit_31 : decode b_Mod_doesFit 31 = .ok (.iload_n 1, 1) := dc_27 (by decide +kernel)
theorem d_Mod_doesFit_32 : decode b_Mod_doesFit 32 = .ok (.iload_n 2, 1) := dc_28 (by decide +kernel)
theorem d_Mod_doesFit_33 : decode b_Mod_doesFit 33 = .ok (.aload_n 0, 1) := dc_42 (by decide +kernel)
theorem d_Mod_doesFit_34 : decode b_Mod_doesFit 34 = .ok (.getfield 7, 3) := dc_180 (a := 0) (b := 7) (by decide +kernel) rfl
theorem d_Mod_doesFit_37 : decode b_Mod_doesFit 37 = .ok (.iload 5, 2) := dc_21 (a := 5) (by decide +kernel) rfl
theorem d_Mod_doesFit_39 : decode b_Mod_doesFit 39 = .ok (.iaload, 1) := dc_46 (by decide +kernel)
theorem d_Mod_doesFit_40 : decode b_Mod_doesFit 40 = .ok (.aload_n 0, 1) := dc_42 (by decide +kernel)
theorem d_Mod_doesFit_41 : decode b_Mod_doesFit 41 = .ok (.getfield 7, 3) := dc_180 (a := 0) (b := 7) (by decide +kernel) rfl
theorem d_Mod_doesFit_44 : decode b_Mod_doesFit 44 = .ok (.iload 5, 2) := dc_21 (a := 5) (by decide +kernel) rfl
theorem d_Mod_doesFit_46 : decode b_Mod_doesFit 46 = .ok (.iconst 1, 1) := dc_4 (by decide +kernel)
theorem d_Mod_doesFit_47 : decode b_Mod_doesFit 47 = .ok (.iadd, 1) := dc_96 (by decide +kernel)
theorem d_Mod_doesFit_48 : decode b_Mod_doesFit 48 = .ok (.iaload, 1) := dc_46 (by decide +kernel)
theorem d_Mod_doesFit_49 : decode b_Mod_doesFit 49 = .ok (.aload_n 0, 1) := dc_42 (by decide +kernel)
theorem d_Mod_doesFit_50 : decode b_Mod_doesFit 50 = .ok (.getfield 7, 3) := dc_180 (a := 0) (b := 7) (by decide +kernel) rfl
theorem d_Mod_doesFit_53 : decode b_Mod_doesFit 53 = .ok (.iload 5, 2) := dc_21 (a := 5) (by decide +kernel) rfl
theorem d_Mod_doesFit_55 : decode b_Mod_doesFit 55 = .ok (.iconst 2, 1) := dc_5 (by decide +kernel)
theorem d_Mod_doesFit_56 : decode b_Mod_doesFit 56 = .ok (.iadd, 1) := dc_96 (by decide +kernel)
theorem d_Mod_doesFit_57 : decode b_Mod_doesFit 57 = .ok (.iaload, 1) := dc_46 (by decide +kernel)
theorem d_Mod_doesFit_58 : decode b_Mod_doesFit 58 = .ok (.invokevirtual 229, 3) := dc_182 (a := 0) (b := 229) (by decide +kernel) rfl
theorem d_Mod_doesFit_61 : decode b_Mod_doesFit 61 = .ok (.invokestatic 196, 3) := dc_184 (a := 0) (b := 196) (by decide +kernel) rfl
theorem d_Mod_doesFit_64 : decode b_Mod_doesFit 64 = .ok (.aload_n 0, 1) := dc_42 (by decide +kernel)
theorem d_Mod_doesFit_65 : decode b_Mod_doesFit 65 = .ok (.getfield 7, 3) := dc_180 (a := 0) (b := 7) (by decide +kernel) rfl
theorem d_Mod_doesFit_68 : decode b_Mod_doesFit 68 = .ok (.iload 5, 2) := dc_21 (a := 5) (by decide +kernel) rfl
theorem d_Mod_doesFit_70 : decode b_Mod_doesFit 70 = .ok (.iconst 3, 1) := dc_6 (by decide +kernel)
theorem d_Mod_doesFit_71 : decode b_Mod_doesFit 71 = .ok (.iadd, 1) := dc_96 (by decide +kernel)
theorem d_Mod_doesFit_72 : decode b_Mod_doesFit 72 = .ok (.iaload, 1) := dc_46 (by decide +kernel)
theorem d_Mod_doesFit_73 : decode b_Mod_doesFit 73 = .ok (.if_icmp .ne 7, 3) := dc_160 (a := 0) (b := 7) (by decide +kernel) rfl
theorem d_Mod_doesFit_76 : decode b_Mod_doesFit 76 = .ok (.iconst 1, 1) := dc_4 (by decide +kernel)
theorem d_Mod_doesFit_77 : decode b_Mod_doesFit 77 = .ok (.goto 4, 3) := dc_167 (a := 0) (b := 4) (by decide +kernel) rfl
theorem d_Mod_doesFit_80 : decode b_Mod_doesFit 80 = .ok (.iconst 0, 1) := dc_3 (by decide +kernel)
theorem d_Mod_doesFit_81 : decode b_Mod_doesFit 81 = .ok (.istore_n 3, 1) := dc_62 (by decide +kernel)
theorem d_Mod_doesFit_82 : decode b_Mod_doesFit 82 = .ok (.iinc 4 1, 3) := dc_132 (a := 4) (b := 1) (by decide +kernel) rfl
theorem d_Mod_doesFit_85 : decode b_Mod_doesFit 85 = .ok (.goto (-80), 3) := dc_167 (a := 255) (b := 176) (by decide +kernel) rfl
theorem d_Mod_doesFit_88 : decode b_Mod_doesFit 88 = .ok (.iload_n 3, 1) := dc_29 (by decide +kernel)
theorem d_Mod_doesFit_89 : decode b_Mod_doesFit 89 = .ok (.ireturn, 1) := dc_172 (by decide +kernel)
theorem d_Mod_reachesOf_0 : decode b_Mod_reachesOf 0 = .ok (.iload_n 0, 1) := dc_26 (by decide +kernel)
theorem d_Mod_reachesOf_1 : decode b_Mod_reachesOf 1 = .ok (.ifCond .eq 8, 3) := dc_153 (a := 0) (b := 8) (by decide +kernel) rfl
theorem d_Mod_reachesOf_4 : decode b_Mod_reachesOf 4 = .ok (.iload_n 0, 1) := dc_26 (by decide +kernel)
theorem d_Mod_reachesOf_5 : decode b_Mod_reachesOf 5 = .ok (.iconst 4, 1) := dc_7 (by decide +kernel)
theorem d_Mod_reachesOf_6 : decode b_Mod_reachesOf 6 = .ok (.if_icmp .ne 8, 3) := dc_160 (a := 0) (b := 8) (by decide +kernel) rfl
theorem d_Mod_reachesOf_9 : decode b_Mod_reachesOf 9 = .ok (.bipush 9, 2) := dc_16 (a := 9) (by decide +kernel) rfl
theorem d_Mod_reachesOf_11 : decode b_Mod_reachesOf 11 = .ok (.goto 4, 3) := dc_167 (a := 0) (b := 4) (by decide +kernel) rfl
theorem d_Mod_reachesOf_14 : decode b_Mod_reachesOf 14 = .ok (.iconst 1, 1) := dc_4 (by decide +kernel)
theorem d_Mod_reachesOf_15 : decode b_Mod_reachesOf 15 = .ok (.ireturn, 1) := dc_172 (by decide +kernel)
theorem d_Mod_natures_0 : decode b_Mod_natures 0 = .ok (.iconst 0, 1) := dc_3 (by decide +kernel)
theorem d_Mod_natures_1 : decode b_Mod_natures 1 = .ok (.istore_n 1, 1) := dc_60 (by decide +kernel)
theorem d_Mod_natures_2 : decode b_Mod_natures 2 = .ok (.iconst 0, 1) := dc_3 (by decide +kernel)
theorem d_Mod_natures_3 : decode b_Mod_natures 3 = .ok (.istore_n 2, 1) := dc_61 (by decide +kernel)
theorem d_Mod_natures_4 : decode b_Mod_natures 4 = .ok (.iload_n 2, 1) := dc_28 (by decide +kernel)
theorem d_Mod_natures_5 : decode b_Mod_natures 5 = .ok (.iconst 4, 1) := dc_7 (by decide +kernel)
theorem d_Mod_natures_6 : decode b_Mod_natures 6 = .ok (.if_icmp .gt 39, 3) := dc_163 (a := 0) (b := 39) (by decide +kernel) rfl
theorem d_Mod_natures_9 : decode b_Mod_natures 9 = .ok (.iconst 1, 1) := dc_4 (by decide +kernel)
theorem d_Mod_natures_10 : decode b_Mod_natures 10 = .ok (.istore_n 3, 1) := dc_62 (by decide +kernel)
theorem d_Mod_natures_11 : decode b_Mod_natures 11 = .ok (.iload_n 3, 1) := dc_29 (by decide +kernel)
theorem d_Mod_natures_12 : decode b_Mod_natures 12 = .ok (.iload_n 2, 1) := dc_28 (by decide +kernel)
theorem d_Mod_natures_13 : decode b_Mod_natures 13 = .ok (.invokestatic 233, 3) := dc_184 (a := 0) (b := 233) (by decide +kernel) rfl
theorem d_Mod_natures_16 : decode b_Mod_natures 16 = .ok (.if_icmp .gt 23, 3) := dc_163 (a := 0) (b := 23) (by decide +kernel) rfl
theorem d_Mod_natures_19 : decode b_Mod_natures 19 = .ok (.iload_n 1, 1) := dc_27 (by decide +kernel)
theorem d_Mod_natures_20 : decode b_Mod_natures 20 = .ok (.aload_n 0, 1) := dc_42 (by decide +kernel)
theorem d_Mod_natures_21 : decode b_Mod_natures 21 = .ok (.iload_n 2, 1) := dc_28 (by decide +kernel)
theorem d_Mod_natures_22 : decode b_Mod_natures 22 = .ok (.iload_n 3, 1) := dc_29 (by decide +kernel)
theorem d_Mod_natures_23 : decode b_Mod_natures 23 = .ok (.invokevirtual 236, 3) := dc_182 (a := 0) (b := 236) (by decide +kernel) rfl
theorem d_Mod_natures_26 : decode b_Mod_natures 26 = .ok (.invokestatic 196, 3) := dc_184 (a := 0) (b := 196) (by decide +kernel) rfl
theorem d_Mod_natures_29 : decode b_Mod_natures 29 = .ok (.iload_n 2, 1) := dc_28 (by decide +kernel)
theorem d_Mod_natures_30 : decode b_Mod_natures 30 = .ok (.ishl, 1) := dc_120 (by decide +kernel)
theorem d_Mod_natures_31 : decode b_Mod_natures 31 = .ok (.ior, 1) := dc_128 (by decide +kernel)
theorem d_Mod_natures_32 : decode b_Mod_natures 32 = .ok (.istore_n 1, 1) := dc_60 (by decide +kernel)
theorem d_Mod_natures_33 : decode b_Mod_natures 33 = .ok (.iinc 3 1, 3) := dc_132 (a := 3) (b := 1) (by decide +kernel) rfl
theorem d_Mod_natures_36 : decode b_Mod_natures 36 = .ok (.goto (-25), 3) := dc_167 (a := 255) (b := 231) (by decide +kernel) rfl
theorem d_Mod_natures_39 : decode b_Mod_natures 39 = .ok (.iinc 2 1, 3) := dc_132 (a := 2) (b := 1) (by decide +kernel) rfl
theorem d_Mod_natures_42 : decode b_Mod_natures 42 = .ok (.goto (-38), 3) := dc_167 (a := 255) (b := 218) (by decide +kernel) rfl
theorem d_Mod_natures_45 : decode b_Mod_natures 45 = .ok (.iload_n 1, 1) := dc_27 (by decide +kernel)
theorem d_Mod_natures_46 : decode b_Mod_natures 46 = .ok (.ireturn, 1) := dc_172 (by decide +kernel)
theorem d_Mod_reaches_0 : decode b_Mod_reaches 0 = .ok (.iload_n 1, 1) := dc_27 (by decide +kernel)
theorem d_Mod_reaches_1 : decode b_Mod_reaches 1 = .ok (.i2l, 1) := dc_133 (by decide +kernel)
theorem d_Mod_reaches_2 : decode b_Mod_reaches 2 = .ok (.lconst 0, 1) := dc_9 (by decide +kernel)
theorem d_Mod_reaches_3 : decode b_Mod_reaches 3 = .ok (.ldc2_w 217, 3) := dc_20 (a := 0) (b := 217) (by decide +kernel) rfl
theorem d_Mod_reaches_6 : decode b_Mod_reaches 6 = .ok (.invokestatic 95, 3) := dc_184 (a := 0) (b := 95) (by decide +kernel) rfl
theorem d_Mod_reaches_9 : decode b_Mod_reaches 9 = .ok (.ifCond .ne 5, 3) := dc_154 (a := 0) (b := 5) (by decide +kernel) rfl
theorem d_Mod_reaches_12 : decode b_Mod_reaches 12 = .ok (.iconst (-1), 1) := dc_2 (by decide +kernel)
theorem d_Mod_reaches_13 : decode b_Mod_reaches 13 = .ok (.ireturn, 1) := dc_172 (by decide +kernel)
theorem d_Mod_reaches_14 : decode b_Mod_reaches 14 = .ok (.iconst 0, 1) := dc_3 (by decide +kernel)
theorem d_Mod_reaches_15 : decode b_Mod_reaches 15 = .ok (.istore_n 2, 1) := dc_61 (by decide +kernel)
theorem d_Mod_reaches_16 : decode b_Mod_reaches 16 = .ok (.iconst 1, 1) := dc_4 (by decide +kernel)
theorem d_Mod_reaches_17 : decode b_Mod_reaches 17 = .ok (.istore_n 3, 1) := dc_62 (by decide +kernel)
theorem d_Mod_reaches_18 : decode b_Mod_reaches 18 = .ok (.iload_n 3, 1) := dc_29 (by decide +kernel)
theorem d_Mod_reaches_19 : decode b_Mod_reaches 19 = .ok (.bipush 9, 2) := dc_16 (a := 9) (by decide +kernel) rfl
theorem d_Mod_reaches_21 : decode b_Mod_reaches 21 = .ok (.if_icmp .gt 23, 3) := dc_163 (a := 0) (b := 23) (by decide +kernel) rfl
theorem d_Mod_reaches_24 : decode b_Mod_reaches 24 = .ok (.iload_n 2, 1) := dc_28 (by decide +kernel)
theorem d_Mod_reaches_25 : decode b_Mod_reaches 25 = .ok (.aload_n 0, 1) := dc_42 (by decide +kernel)
theorem d_Mod_reaches_26 : decode b_Mod_reaches 26 = .ok (.iload_n 1, 1) := dc_27 (by decide +kernel)
theorem d_Mod_reaches_27 : decode b_Mod_reaches 27 = .ok (.iload_n 3, 1) := dc_29 (by decide +kernel)
theorem d_Mod_reaches_28 : decode b_Mod_reaches 28 = .ok (.invokevirtual 236, 3) := dc_182 (a := 0) (b := 236) (by decide +kernel) rfl
theorem d_Mod_reaches_31 : decode b_Mod_reaches 31 = .ok (.invokestatic 196, 3) := dc_184 (a := 0) (b := 196) (by decide +kernel) rfl
theorem d_Mod_reaches_34 : decode b_Mod_reaches 34 = .ok (.iload_n 3, 1) := dc_29 (by decide +kernel)
theorem d_Mod_reaches_35 : decode b_Mod_reaches 35 = .ok (.ishl, 1) := dc_120 (by decide +kernel)
theorem d_Mod_reaches_36 : decode b_Mod_reaches 36 = .ok (.ior, 1) := dc_128 (by decide +kernel)
theorem d_Mod_reaches_37 : decode b_Mod_reaches 37 = .ok (.istore_n 2, 1) := dc_61 (by decide +kernel)
theorem d_Mod_reaches_38 : decode b_Mod_reaches 38 = .ok (.iinc 3 1, 3) := dc_132 (a := 3) (b := 1) (by decide +kernel) rfl
theorem d_Mod_reaches_41 : decode b_Mod_reaches 41 = .ok (.goto (-23), 3) := dc_167 (a := 255) (b := 233) (by decide +kernel) rfl
theorem d_Mod_reaches_44 : decode b_Mod_reaches 44 = .ok (.iload_n 2, 1) := dc_28 (by decide +kernel)
theorem d_Mod_reaches_45 : decode b_Mod_reaches 45 = .ok (.ireturn, 1) := dc_172 (by decide +kernel)
theorem d_Mod_rodsBy_0 : decode b_Mod_rodsBy 0 = .ok (.iconst 0, 1) := dc_3 (by decide +kernel)
theorem d_Mod_rodsBy_1 : decode b_Mod_rodsBy 1 = .ok (.istore 5, 2) := dc_54 (a := 5) (by decide +kernel) rfl
theorem d_Mod_rodsBy_3 : decode b_Mod_rodsBy 3 = .ok (.iconst 0, 1) := dc_3 (by decide +kernel)
theorem d_Mod_rodsBy_4 : decode b_Mod_rodsBy 4 = .ok (.istore 6, 2) := dc_54 (a := 6) (by decide +kernel) rfl
theorem d_Mod_rodsBy_6 : decode b_Mod_rodsBy 6 = .ok (.iload 6, 2) := dc_21 (a := 6) (by decide +kernel) rfl
theorem d_Mod_rodsBy_8 : decode b_Mod_rodsBy 8 = .ok (.iconst 4, 1) := dc_7 (by decide +kernel)
theorem d_Mod_rodsBy_9 : decode b_Mod_rodsBy 9 = .ok (.if_icmp .gt 68, 3) := dc_163 (a := 0) (b := 68) (by decide +kernel) rfl
theorem d_Mod_rodsBy_12 : decode b_Mod_rodsBy 12 = .ok (.iconst 1, 1) := dc_4 (by decide +kernel)
theorem d_Mod_rodsBy_13 : decode b_Mod_rodsBy 13 = .ok (.istore 7, 2) := dc_54 (a := 7) (by decide +kernel) rfl
theorem d_Mod_rodsBy_15 : decode b_Mod_rodsBy 15 = .ok (.iload 7, 2) := dc_21 (a := 7) (by decide +kernel) rfl
theorem d_Mod_rodsBy_17 : decode b_Mod_rodsBy 17 = .ok (.iload 6, 2) := dc_21 (a := 6) (by decide +kernel) rfl
theorem d_Mod_rodsBy_19 : decode b_Mod_rodsBy 19 = .ok (.invokestatic 233, 3) := dc_184 (a := 0) (b := 233) (by decide +kernel) rfl
theorem d_Mod_rodsBy_22 : decode b_Mod_rodsBy 22 = .ok (.if_icmp .gt 49, 3) := dc_163 (a := 0) (b := 49) (by decide +kernel) rfl
theorem d_Mod_rodsBy_25 : decode b_Mod_rodsBy 25 = .ok (.iload 5, 2) := dc_21 (a := 5) (by decide +kernel) rfl
theorem d_Mod_rodsBy_27 : decode b_Mod_rodsBy 27 = .ok (.aload_n 0, 1) := dc_42 (by decide +kernel)
theorem d_Mod_rodsBy_28 : decode b_Mod_rodsBy 28 = .ok (.iload 6, 2) := dc_21 (a := 6) (by decide +kernel) rfl
theorem d_Mod_rodsBy_30 : decode b_Mod_rodsBy 30 = .ok (.iload 7, 2) := dc_21 (a := 7) (by decide +kernel) rfl
theorem d_Mod_rodsBy_32 : decode b_Mod_rodsBy 32 = .ok (.invokevirtual 236, 3) := dc_182 (a := 0) (b := 236) (by decide +kernel) rfl
theorem d_Mod_rodsBy_35 : decode b_Mod_rodsBy 35 = .ok (.ifCond .eq 23, 3) := dc_153 (a := 0) (b := 23) (by decide +kernel) rfl
theorem d_Mod_rodsBy_38 : decode b_Mod_rodsBy 38 = .ok (.aload_n 0, 1) := dc_42 (by decide +kernel)
theorem d_Mod_rodsBy_39 : decode b_Mod_rodsBy 39 = .ok (.iload 6, 2) := dc_21 (a := 6) (by decide +kernel) rfl
theorem d_Mod_rodsBy_41 : decode b_Mod_rodsBy 41 = .ok (.iload 7, 2) := dc_21 (a := 7) (by decide +kernel) rfl
theorem d_Mod_rodsBy_43 : decode b_Mod_rodsBy 43 = .ok (.iload_n 1, 1) := dc_27 (by decide +kernel)
theorem d_Mod_rodsBy_44 : decode b_Mod_rodsBy 44 = .ok (.iload_n 2, 1) := dc_28 (by decide +kernel)
theorem d_Mod_rodsBy_45 : decode b_Mod_rodsBy 45 = .ok (.iload_n 3, 1) := dc_29 (by decide +kernel)
theorem d_Mod_rodsBy_46 : decode b_Mod_rodsBy 46 = .ok (.invokevirtual 229, 3) := dc_182 (a := 0) (b := 229) (by decide +kernel) rfl
theorem d_Mod_rodsBy_49 : decode b_Mod_rodsBy 49 = .ok (.iload 4, 2) := dc_21 (a := 4) (by decide +kernel) rfl
theorem d_Mod_rodsBy_51 : decode b_Mod_rodsBy 51 = .ok (.if_icmp .ne 7, 3) := dc_160 (a := 0) (b := 7) (by decide +kernel) rfl
theorem d_Mod_rodsBy_54 : decode b_Mod_rodsBy 54 = .ok (.iconst 1, 1) := dc_4 (by decide +kernel)
theorem d_Mod_rodsBy_55 : decode b_Mod_rodsBy 55 = .ok (.goto 4, 3) := dc_167 (a := 0) (b := 4) (by decide +kernel) rfl
theorem d_Mod_rodsBy_58 : decode b_Mod_rodsBy 58 = .ok (.iconst 0, 1) := dc_3 (by decide +kernel)
theorem d_Mod_rodsBy_59 : decode b_Mod_rodsBy 59 = .ok (.invokestatic 196, 3) := dc_184 (a := 0) (b := 196) (by decide +kernel) rfl
theorem d_Mod_rodsBy_62 : decode b_Mod_rodsBy 62 = .ok (.iadd, 1) := dc_96 (by decide +kernel)
theorem d_Mod_rodsBy_63 : decode b_Mod_rodsBy 63 = .ok (.istore 5, 2) := dc_54 (a := 5) (by decide +kernel) rfl
theorem d_Mod_rodsBy_65 : decode b_Mod_rodsBy 65 = .ok (.iinc 7 1, 3) := dc_132 (a := 7) (b := 1) (by decide +kernel) rfl
theorem d_Mod_rodsBy_68 : decode b_Mod_rodsBy 68 = .ok (.goto (-53), 3) := dc_167 (a := 255) (b := 203) (by decide +kernel) rfl
theorem d_Mod_rodsBy_71 : decode b_Mod_rodsBy 71 = .ok (.iinc 6 1, 3) := dc_132 (a := 6) (b := 1) (by decide +kernel) rfl
theorem d_Mod_rodsBy_74 : decode b_Mod_rodsBy 74 = .ok (.goto (-68), 3) := dc_167 (a := 255) (b := 188) (by decide +kernel) rfl
theorem d_Mod_rodsBy_77 : decode b_Mod_rodsBy 77 = .ok (.iload 5, 2) := dc_21 (a := 5) (by decide +kernel) rfl
theorem d_Mod_rodsBy_79 : decode b_Mod_rodsBy 79 = .ok (.ireturn, 1) := dc_172 (by decide +kernel)
theorem d_Mod_test_0 : decode b_Mod_test 0 = .ok (.iload_n 1, 1) := dc_27 (by decide +kernel)
theorem d_Mod_test_1 : decode b_Mod_test 1 = .ok (.invokestatic 205, 3) := dc_184 (a := 0) (b := 205) (by decide +kernel) rfl
theorem d_Mod_test_4 : decode b_Mod_test 4 = .ok (.ifCond .eq 13, 3) := dc_153 (a := 0) (b := 13) (by decide +kernel) rfl
theorem d_Mod_test_7 : decode b_Mod_test 7 = .ok (.iload_n 2, 1) := dc_28 (by decide +kernel)
theorem d_Mod_test_8 : decode b_Mod_test 8 = .ok (.i2l, 1) := dc_133 (by decide +kernel)
theorem d_Mod_test_9 : decode b_Mod_test 9 = .ok (.lconst 0, 1) := dc_9 (by decide +kernel)
theorem d_Mod_test_10 : decode b_Mod_test 10 = .ok (.lconst 1, 1) := dc_10 (by decide +kernel)
theorem d_Mod_test_11 : decode b_Mod_test 11 = .ok (.invokestatic 95, 3) := dc_184 (a := 0) (b := 95) (by decide +kernel) rfl
theorem d_Mod_test_14 : decode b_Mod_test 14 = .ok (.ifCond .ne 5, 3) := dc_154 (a := 0) (b := 5) (by decide +kernel) rfl
theorem d_Mod_test_17 : decode b_Mod_test 17 = .ok (.iconst (-1), 1) := dc_2 (by decide +kernel)
theorem d_Mod_test_18 : decode b_Mod_test 18 = .ok (.ireturn, 1) := dc_172 (by decide +kernel)
theorem d_Mod_test_19 : decode b_Mod_test 19 = .ok (.aload_n 0, 1) := dc_42 (by decide +kernel)
theorem d_Mod_test_20 : decode b_Mod_test 20 = .ok (.iconst 0, 1) := dc_3 (by decide +kernel)
theorem d_Mod_test_21 : decode b_Mod_test 21 = .ok (.iload_n 1, 1) := dc_27 (by decide +kernel)
theorem d_Mod_test_22 : decode b_Mod_test 22 = .ok (.iconst 1, 1) := dc_4 (by decide +kernel)
theorem d_Mod_test_23 : decode b_Mod_test 23 = .ok (.iconst 1, 1) := dc_4 (by decide +kernel)
theorem d_Mod_test_24 : decode b_Mod_test 24 = .ok (.invokevirtual 239, 3) := dc_182 (a := 0) (b := 239) (by decide +kernel) rfl
theorem d_Mod_test_27 : decode b_Mod_test 27 = .ok (.aload_n 0, 1) := dc_42 (by decide +kernel)
theorem d_Mod_test_28 : decode b_Mod_test 28 = .ok (.iconst 0, 1) := dc_3 (by decide +kernel)
theorem d_Mod_test_29 : decode b_Mod_test 29 = .ok (.iload_n 1, 1) := dc_27 (by decide +kernel)
theorem d_Mod_test_30 : decode b_Mod_test 30 = .ok (.iconst 1, 1) := dc_4 (by decide +kernel)
theorem d_Mod_test_31 : decode b_Mod_test 31 = .ok (.iconst 0, 1) := dc_3 (by decide +kernel)
theorem d_Mod_test_32 : decode b_Mod_test 32 = .ok (.invokevirtual 239, 3) := dc_182 (a := 0) (b := 239) (by decide +kernel) rfl
theorem d_Mod_test_35 : decode b_Mod_test 35 = .ok (.iadd, 1) := dc_96 (by decide +kernel)
theorem d_Mod_test_36 : decode b_Mod_test 36 = .ok (.istore_n 3, 1) := dc_62 (by decide +kernel)
theorem d_Mod_test_37 : decode b_Mod_test 37 = .ok (.bipush (-4), 2) := dc_16 (a := 252) (by decide +kernel) rfl
theorem d_Mod_test_39 : decode b_Mod_test 39 = .ok (.istore 4, 2) := dc_54 (a := 4) (by decide +kernel) rfl
theorem d_Mod_test_41 : decode b_Mod_test 41 = .ok (.iconst 0, 1) := dc_3 (by decide +kernel)
theorem d_Mod_test_42 : decode b_Mod_test 42 = .ok (.istore 5, 2) := dc_54 (a := 5) (by decide +kernel) rfl
theorem d_Mod_test_44 : decode b_Mod_test 44 = .ok (.iload 5, 2) := dc_21 (a := 5) (by decide +kernel) rfl
theorem d_Mod_test_46 : decode b_Mod_test 46 = .ok (.aload_n 0, 1) := dc_42 (by decide +kernel)
theorem d_Mod_test_47 : decode b_Mod_test 47 = .ok (.invokevirtual 183, 3) := dc_182 (a := 0) (b := 183) (by decide +kernel) rfl
theorem d_Mod_test_50 : decode b_Mod_test 50 = .ok (.if_icmp .ge 98, 3) := dc_162 (a := 0) (b := 98) (by decide +kernel) rfl
theorem d_Mod_test_53 : decode b_Mod_test 53 = .ok (.iconst 1, 1) := dc_4 (by decide +kernel)
theorem d_Mod_test_54 : decode b_Mod_test 54 = .ok (.istore 6, 2) := dc_54 (a := 6) (by decide +kernel) rfl
theorem d_Mod_test_56 : decode b_Mod_test 56 = .ok (.iload 6, 2) := dc_21 (a := 6) (by decide +kernel) rfl
theorem d_Mod_test_58 : decode b_Mod_test 58 = .ok (.iconst 2, 1) := dc_5 (by decide +kernel)
theorem d_Mod_test_59 : decode b_Mod_test 59 = .ok (.if_icmp .gt 83, 3) := dc_163 (a := 0) (b := 83) (by decide +kernel) rfl
theorem d_Mod_test_62 : decode b_Mod_test 62 = .ok (.aload_n 0, 1) := dc_42 (by decide +kernel)
theorem d_Mod_test_63 : decode b_Mod_test 63 = .ok (.iload 5, 2) := dc_21 (a := 5) (by decide +kernel) rfl
theorem d_Mod_test_65 : decode b_Mod_test 65 = .ok (.iload_n 1, 1) := dc_27 (by decide +kernel)
theorem d_Mod_test_66 : decode b_Mod_test 66 = .ok (.iload 6, 2) := dc_21 (a := 6) (by decide +kernel) rfl
theorem d_Mod_test_68 : decode b_Mod_test 68 = .ok (.iconst 1, 1) := dc_4 (by decide +kernel)
theorem d_Mod_test_69 : decode b_Mod_test 69 = .ok (.invokevirtual 239, 3) := dc_182 (a := 0) (b := 239) (by decide +kernel) rfl
theorem d_Mod_test_72 : decode b_Mod_test 72 = .ok (.istore 7, 2) := dc_54 (a := 7) (by decide +kernel) rfl
theorem d_Mod_test_74 : decode b_Mod_test 74 = .ok (.aload_n 0, 1) := dc_42 (by decide +kernel)
theorem d_Mod_test_75 : decode b_Mod_test 75 = .ok (.iload 5, 2) := dc_21 (a := 5) (by decide +kernel) rfl
theorem d_Mod_test_77 : decode b_Mod_test 77 = .ok (.iload_n 1, 1) := dc_27 (by decide +kernel)
theorem d_Mod_test_78 : decode b_Mod_test 78 = .ok (.iload 6, 2) := dc_21 (a := 6) (by decide +kernel) rfl
theorem d_Mod_test_80 : decode b_Mod_test 80 = .ok (.iconst 0, 1) := dc_3 (by decide +kernel)
theorem d_Mod_test_81 : decode b_Mod_test 81 = .ok (.invokevirtual 239, 3) := dc_182 (a := 0) (b := 239) (by decide +kernel) rfl
theorem d_Mod_test_84 : decode b_Mod_test 84 = .ok (.istore 8, 2) := dc_54 (a := 8) (by decide +kernel) rfl
theorem d_Mod_test_86 : decode b_Mod_test 86 = .ok (.iload 7, 2) := dc_21 (a := 7) (by decide +kernel) rfl
theorem d_Mod_test_88 : decode b_Mod_test 88 = .ok (.iload 8, 2) := dc_21 (a := 8) (by decide +kernel) rfl
theorem d_Mod_test_90 : decode b_Mod_test 90 = .ok (.if_icmp .le 8, 3) := dc_164 (a := 0) (b := 8) (by decide +kernel) rfl
theorem d_Mod_test_93 : decode b_Mod_test 93 = .ok (.iload 7, 2) := dc_21 (a := 7) (by decide +kernel) rfl
theorem d_Mod_test_95 : decode b_Mod_test 95 = .ok (.goto 5, 3) := dc_167 (a := 0) (b := 5) (by decide +kernel) rfl
theorem d_Mod_test_98 : decode b_Mod_test 98 = .ok (.iload 8, 2) := dc_21 (a := 8) (by decide +kernel) rfl
theorem d_Mod_test_100 : decode b_Mod_test 100 = .ok (.istore 9, 2) := dc_54 (a := 9) (by decide +kernel) rfl
theorem d_Mod_test_102 : decode b_Mod_test 102 = .ok (.iload 9, 2) := dc_21 (a := 9) (by decide +kernel) rfl
theorem d_Mod_test_104 : decode b_Mod_test 104 = .ok (.iload_n 3, 1) := dc_29 (by decide +kernel)
theorem d_Mod_test_105 : decode b_Mod_test 105 = .ok (.if_icmp .ge 14, 3) := dc_162 (a := 0) (b := 14) (by decide +kernel) rfl
theorem d_Mod_test_108 : decode b_Mod_test 108 = .ok (.bipush 10, 2) := dc_16 (a := 10) (by decide +kernel) rfl
theorem d_Mod_test_110 : decode b_Mod_test 110 = .ok (.iload 5, 2) := dc_21 (a := 5) (by decide +kernel) rfl
theorem d_Mod_test_112 : decode b_Mod_test 112 = .ok (.imul, 1) := dc_104 (by decide +kernel)
theorem d_Mod_test_113 : decode b_Mod_test 113 = .ok (.iload 6, 2) := dc_21 (a := 6) (by decide +kernel) rfl
theorem d_Mod_test_115 : decode b_Mod_test 115 = .ok (.iadd, 1) := dc_96 (by decide +kernel)
theorem d_Mod_test_116 : decode b_Mod_test 116 = .ok (.goto 5, 3) := dc_167 (a := 0) (b := 5) (by decide +kernel) rfl
theorem d_Mod_test_119 : decode b_Mod_test 119 = .ok (.iload 4, 2) := dc_21 (a := 4) (by decide +kernel) rfl
theorem d_Mod_test_121 : decode b_Mod_test 121 = .ok (.istore 4, 2) := dc_54 (a := 4) (by decide +kernel) rfl
theorem d_Mod_test_123 : decode b_Mod_test 123 = .ok (.iload 9, 2) := dc_21 (a := 9) (by decide +kernel) rfl
theorem d_Mod_test_125 : decode b_Mod_test 125 = .ok (.iload_n 3, 1) := dc_29 (by decide +kernel)
theorem d_Mod_test_126 : decode b_Mod_test 126 = .ok (.if_icmp .ge 8, 3) := dc_162 (a := 0) (b := 8) (by decide +kernel) rfl
theorem d_Mod_test_129 : decode b_Mod_test 129 = .ok (.iload 9, 2) := dc_21 (a := 9) (by decide +kernel) rfl
theorem d_Mod_test_131 : decode b_Mod_test 131 = .ok (.goto 4, 3) := dc_167 (a := 0) (b := 4) (by decide +kernel) rfl
theorem d_Mod_test_134 : decode b_Mod_test 134 = .ok (.iload_n 3, 1) := dc_29 (by decide +kernel)
theorem d_Mod_test_135 : decode b_Mod_test 135 = .ok (.istore_n 3, 1) := dc_62 (by decide +kernel)
theorem d_Mod_test_136 : decode b_Mod_test 136 = .ok (.iinc 6 1, 3) := dc_132 (a := 6) (b := 1) (by decide +kernel) rfl
theorem d_Mod_test_139 : decode b_Mod_test 139 = .ok (.goto (-83), 3) := dc_167 (a := 255) (b := 173) (by decide +kernel) rfl
theorem d_Mod_test_142 : decode b_Mod_test 142 = .ok (.iinc 5 1, 3) := dc_132 (a := 5) (b := 1) (by decide +kernel) rfl
theorem d_Mod_test_145 : decode b_Mod_test 145 = .ok (.goto (-101), 3) := dc_167 (a := 255) (b := 155) (by decide +kernel) rfl
theorem d_Mod_test_148 : decode b_Mod_test 148 = .ok (.iload 4, 2) := dc_21 (a := 4) (by decide +kernel) rfl
theorem d_Mod_test_150 : decode b_Mod_test 150 = .ok (.bipush (-4), 2) := dc_16 (a := 252) (by decide +kernel) rfl
theorem d_Mod_test_152 : decode b_Mod_test 152 = .ok (.if_icmp .ne 8, 3) := dc_160 (a := 0) (b := 8) (by decide +kernel) rfl
theorem d_Mod_test_155 : decode b_Mod_test 155 = .ok (.bipush (-4), 2) := dc_16 (a := 252) (by decide +kernel) rfl
theorem d_Mod_test_157 : decode b_Mod_test 157 = .ok (.goto 13, 3) := dc_167 (a := 0) (b := 13) (by decide +kernel) rfl
theorem d_Mod_test_160 : decode b_Mod_test 160 = .ok (.iload_n 2, 1) := dc_28 (by decide +kernel)
theorem d_Mod_test_161 : decode b_Mod_test 161 = .ok (.ifCond .ne 8, 3) := dc_154 (a := 0) (b := 8) (by decide +kernel) rfl
theorem d_Mod_test_164 : decode b_Mod_test 164 = .ok (.iload 4, 2) := dc_21 (a := 4) (by decide +kernel) rfl
theorem d_Mod_test_166 : decode b_Mod_test 166 = .ok (.goto 4, 3) := dc_167 (a := 0) (b := 4) (by decide +kernel) rfl
theorem d_Mod_test_169 : decode b_Mod_test 169 = .ok (.iload_n 3, 1) := dc_29 (by decide +kernel)
theorem d_Mod_test_170 : decode b_Mod_test 170 = .ok (.ireturn, 1) := dc_172 (by decide +kernel)
end
section
theorem cb_Mod_beside : CB y_Mod_beside b_Mod_beside 4 (some .int) 2 := ⟨vv_Gin (List.mem_append_right _ (List.mem_append_right _ (List.mem_append_right _ (List.mem_append_right _ (List.mem_append_right _ (List.mem_append_right _ (List.mem_of_getElem? (i := 87) rfl))))))) rfl, by decide +kernel, vv_Gin (List.mem_append_right _ (List.mem_append_left _ (List.mem_of_getElem? (i := 13) rfl))) rfl⟩
theorem im_Mod_beside : Cond.instanceMethod y_Mod_beside ∈ vv_G := vv_Gin (List.mem_append_right _ (List.mem_append_right _ (List.mem_append_right _ (List.mem_append_right _ (List.mem_append_right _ (List.mem_append_right _ (List.mem_of_getElem? (i := 86) rfl))))))) rfl
theorem se_Mod_beside : Cond.selects y_Mod_beside.cls y_Mod_beside y_Mod_beside ∈ vv_G := vv_Gin (List.mem_append_left _ (List.mem_of_getElem? (i := 46) rfl)) rfl
theorem cv_Mod_243 : CV R_Mod 243 y_Mod_beside b_Mod_beside 4 (some .int) 2 := ⟨cb_Mod_beside, im_Mod_beside, se_Mod_beside, vv_Gin (List.mem_append_right _ (List.mem_append_right _ (List.mem_append_right _ (List.mem_append_right _ (List.mem_append_right _ (List.mem_append_right _ (List.mem_of_getElem? (i := 84) rfl))))))) rfl⟩
theorem fa_Mod_26 : FA R_Mod 26 11 22 := ⟨_, _, _, rfl, i_Mod, by decide, vv_Gin (List.mem_append_right _ (List.mem_append_right _ (List.mem_append_right _ (List.mem_append_right _ (List.mem_append_right _ (List.mem_append_left _ (List.mem_of_getElem? (i := 5) rfl))))))) rfl⟩
theorem cb_Mod_bestBeside : CB y_Mod_bestBeside b_Mod_bestBeside 6 (some .int) 2 := ⟨vv_Gin (List.mem_append_right _ (List.mem_append_right _ (List.mem_append_right _ (List.mem_append_right _ (List.mem_append_right _ (List.mem_append_right _ (List.mem_of_getElem? (i := 83) rfl))))))) rfl, by decide +kernel, vv_Gin (List.mem_append_right _ (List.mem_append_left _ (List.mem_of_getElem? (i := 13) rfl))) rfl⟩
theorem im_Mod_bestBeside : Cond.instanceMethod y_Mod_bestBeside ∈ vv_G := vv_Gin (List.mem_append_right _ (List.mem_append_right _ (List.mem_append_right _ (List.mem_append_right _ (List.mem_append_right _ (List.mem_append_right _ (List.mem_of_getElem? (i := 82) rfl))))))) rfl
theorem se_Mod_bestBeside : Cond.selects y_Mod_bestBeside.cls y_Mod_bestBeside y_Mod_bestBeside ∈ vv_G := vv_Gin (List.mem_append_left _ (List.mem_of_getElem? (i := 45) rfl)) rfl
theorem cv_Mod_246 : CV R_Mod 246 y_Mod_bestBeside b_Mod_bestBeside 6 (some .int) 2 := ⟨cb_Mod_bestBeside, im_Mod_bestBeside, se_Mod_bestBeside, vv_Gin (List.mem_append_right _ (List.mem_append_right _ (List.mem_append_right _ (List.mem_append_right _ (List.mem_append_right _ (List.mem_append_right _ (List.mem_of_getElem? (i := 80) rfl))))))) rfl⟩
theorem cb_Mod_showsIn : CB y_Mod_showsIn b_Mod_showsIn 4 (some .int) 3 := ⟨vv_Gin (List.mem_append_right _ (List.mem_append_right _ (List.mem_append_right _ (List.mem_append_right _ (List.mem_append_right _ (List.mem_append_right _ (List.mem_of_getElem? (i := 91) rfl))))))) rfl, by decide +kernel, vv_Gin (List.mem_append_right _ (List.mem_append_left _ (List.mem_of_getElem? (i := 13) rfl))) rfl⟩
theorem im_Mod_showsIn : Cond.instanceMethod y_Mod_showsIn ∈ vv_G := vv_Gin (List.mem_append_right _ (List.mem_append_right _ (List.mem_append_right _ (List.mem_append_right _ (List.mem_append_right _ (List.mem_append_right _ (List.mem_of_getElem? (i := 90) rfl))))))) rfl
theorem se_Mod_showsIn : Cond.selects y_Mod_showsIn.cls y_Mod_showsIn y_Mod_showsIn ∈ vv_G := vv_Gin (List.mem_append_left _ (List.mem_of_getElem? (i := 47) rfl)) rfl
theorem cv_Mod_249 : CV R_Mod 249 y_Mod_showsIn b_Mod_showsIn 4 (some .int) 3 := ⟨cb_Mod_showsIn, im_Mod_showsIn, se_Mod_showsIn, vv_Gin (List.mem_append_right _ (List.mem_append_right _ (List.mem_append_right _ (List.mem_append_right _ (List.mem_append_right _ (List.mem_append_right _ (List.mem_of_getElem? (i := 88) rfl))))))) rfl⟩
theorem wl_Mod_253 : Cond.constantLong R_Mod 253 6 ∈ vv_G := vv_Gin (List.mem_append_right _ (List.mem_append_right _ (List.mem_append_right _ (List.mem_append_right _ (List.mem_append_right _ (List.mem_append_right _ (List.mem_of_getElem? (i := 75) (by decide +kernel)))))))) (by decide +kernel)
theorem tl_6 : (6 : Int64).toInt = 6 := rfl
theorem cb_Mod_findShown : CB y_Mod_findShown b_Mod_findShown 6 none 2 := ⟨vv_Gin (List.mem_append_right _ (List.mem_append_right _ (List.mem_append_right _ (List.mem_append_right _ (List.mem_append_right _ (List.mem_append_right _ (List.mem_of_getElem? (i := 79) rfl))))))) rfl, by decide +kernel, vv_Gin (List.mem_append_right _ (List.mem_append_left _ (List.mem_of_getElem? (i := 13) rfl))) rfl⟩
theorem im_Mod_findShown : Cond.instanceMethod y_Mod_findShown ∈ vv_G := vv_Gin (List.mem_append_right _ (List.mem_append_right _ (List.mem_append_right _ (List.mem_append_right _ (List.mem_append_right _ (List.mem_append_right _ (List.mem_of_getElem? (i := 78) rfl))))))) rfl
theorem se_Mod_findShown : Cond.selects y_Mod_findShown.cls y_Mod_findShown y_Mod_findShown ∈ vv_G := vv_Gin (List.mem_append_left _ (List.mem_of_getElem? (i := 44) rfl)) rfl
theorem cv_Mod_255 : CV R_Mod 255 y_Mod_findShown b_Mod_findShown 6 none 2 := ⟨cb_Mod_findShown, im_Mod_findShown, se_Mod_findShown, vv_Gin (List.mem_append_right _ (List.mem_append_right _ (List.mem_append_right _ (List.mem_append_right _ (List.mem_append_right _ (List.mem_append_right _ (List.mem_of_getElem? (i := 76) rfl))))))) rfl⟩
theorem tc_999 : (999 : Int32).toInt = 999 := rfl
theorem wl_Mod_259 : Cond.constantLong R_Mod 259 10000 ∈ vv_G := vv_Gin (List.mem_append_right _ (List.mem_append_right _ (List.mem_append_right _ (List.mem_append_right _ (List.mem_append_right _ (List.mem_append_right _ (List.mem_of_getElem? (i := 114) (by decide +kernel)))))))) (by decide +kernel)
theorem tl_10000 : (10000 : Int64).toInt = 10000 := rfl
theorem fa_Mod_29 : FA R_Mod 29 11 23 := ⟨_, _, _, rfl, i_Mod, by decide, vv_Gin (List.mem_append_right _ (List.mem_append_right _ (List.mem_append_right _ (List.mem_append_right _ (List.mem_append_right _ (List.mem_append_left _ (List.mem_of_getElem? (i := 6) rfl))))))) rfl⟩
theorem d_Mod_beside_0 : decode b_Mod_beside 0 = .ok (.iload_n 1, 1) := dc_27 (by decide +kernel)
theorem d_Mod_beside_1 : decode b_Mod_beside 1 = .ok (.aload_n 0, 1) := dc_42 (by decide +kernel)
theorem d_Mod_beside_2 : decode b_Mod_beside 2 = .ok (.getfield 81, 3) := dc_180 (a := 0) (b := 81) (by decide +kernel) rfl
theorem d_Mod_beside_5 : decode b_Mod_beside 5 = .ok (.irem, 1) := dc_112 (by decide +kernel)
theorem d_Mod_beside_6 : decode b_Mod_beside 6 = .ok (.istore_n 3, 1) := dc_62 (by decide +kernel)
theorem d_Mod_beside_7 : decode b_Mod_beside 7 = .ok (.iload_n 2, 1) := dc_28 (by decide +kernel)
theorem d_Mod_beside_8 : decode b_Mod_beside 8 = .ok (.tableswitch 80 0 2 #[28, 48, 61], 28) := by decide +kernel
theorem d_Mod_beside_36 : decode b_Mod_beside 36 = .ok (.iload_n 1, 1) := dc_27 (by decide +kernel)
theorem d_Mod_beside_37 : decode b_Mod_beside 37 = .ok (.aload_n 0, 1) := dc_42 (by decide +kernel)
theorem d_Mod_beside_38 : decode b_Mod_beside 38 = .ok (.getfield 81, 3) := dc_180 (a := 0) (b := 81) (by decide +kernel) rfl
theorem d_Mod_beside_41 : decode b_Mod_beside 41 = .ok (.if_icmp .lt 12, 3) := dc_161 (a := 0) (b := 12) (by decide +kernel) rfl
theorem d_Mod_beside_44 : decode b_Mod_beside 44 = .ok (.iload_n 1, 1) := dc_27 (by decide +kernel)
theorem d_Mod_beside_45 : decode b_Mod_beside 45 = .ok (.aload_n 0, 1) := dc_42 (by decide +kernel)
theorem d_Mod_beside_46 : decode b_Mod_beside 46 = .ok (.getfield 81, 3) := dc_180 (a := 0) (b := 81) (by decide +kernel) rfl
theorem d_Mod_beside_49 : decode b_Mod_beside 49 = .ok (.isub, 1) := dc_100 (by decide +kernel)
theorem d_Mod_beside_50 : decode b_Mod_beside 50 = .ok (.goto 5, 3) := dc_167 (a := 0) (b := 5) (by decide +kernel) rfl
theorem d_Mod_beside_53 : decode b_Mod_beside 53 = .ok (.bipush (-4), 2) := dc_16 (a := 252) (by decide +kernel) rfl
theorem d_Mod_beside_55 : decode b_Mod_beside 55 = .ok (.ireturn, 1) := dc_172 (by decide +kernel)
theorem d_Mod_beside_56 : decode b_Mod_beside 56 = .ok (.iload_n 3, 1) := dc_29 (by decide +kernel)
theorem d_Mod_beside_57 : decode b_Mod_beside 57 = .ok (.ifCond .le 9, 3) := dc_158 (a := 0) (b := 9) (by decide +kernel) rfl
theorem d_Mod_beside_60 : decode b_Mod_beside 60 = .ok (.iload_n 1, 1) := dc_27 (by decide +kernel)
theorem d_Mod_beside_61 : decode b_Mod_beside 61 = .ok (.iconst 1, 1) := dc_4 (by decide +kernel)
theorem d_Mod_beside_62 : decode b_Mod_beside 62 = .ok (.isub, 1) := dc_100 (by decide +kernel)
theorem d_Mod_beside_63 : decode b_Mod_beside 63 = .ok (.goto 5, 3) := dc_167 (a := 0) (b := 5) (by decide +kernel) rfl
theorem d_Mod_beside_66 : decode b_Mod_beside 66 = .ok (.bipush (-4), 2) := dc_16 (a := 252) (by decide +kernel) rfl
theorem d_Mod_beside_68 : decode b_Mod_beside 68 = .ok (.ireturn, 1) := dc_172 (by decide +kernel)
theorem d_Mod_beside_69 : decode b_Mod_beside 69 = .ok (.iload_n 3, 1) := dc_29 (by decide +kernel)
theorem d_Mod_beside_70 : decode b_Mod_beside 70 = .ok (.iconst 1, 1) := dc_4 (by decide +kernel)
theorem d_Mod_beside_71 : decode b_Mod_beside 71 = .ok (.iadd, 1) := dc_96 (by decide +kernel)
theorem d_Mod_beside_72 : decode b_Mod_beside 72 = .ok (.aload_n 0, 1) := dc_42 (by decide +kernel)
theorem d_Mod_beside_73 : decode b_Mod_beside 73 = .ok (.getfield 81, 3) := dc_180 (a := 0) (b := 81) (by decide +kernel) rfl
theorem d_Mod_beside_76 : decode b_Mod_beside 76 = .ok (.if_icmp .ge 9, 3) := dc_162 (a := 0) (b := 9) (by decide +kernel) rfl
theorem d_Mod_beside_79 : decode b_Mod_beside 79 = .ok (.iload_n 1, 1) := dc_27 (by decide +kernel)
theorem d_Mod_beside_80 : decode b_Mod_beside 80 = .ok (.iconst 1, 1) := dc_4 (by decide +kernel)
theorem d_Mod_beside_81 : decode b_Mod_beside 81 = .ok (.iadd, 1) := dc_96 (by decide +kernel)
theorem d_Mod_beside_82 : decode b_Mod_beside 82 = .ok (.goto 5, 3) := dc_167 (a := 0) (b := 5) (by decide +kernel) rfl
theorem d_Mod_beside_85 : decode b_Mod_beside 85 = .ok (.bipush (-4), 2) := dc_16 (a := 252) (by decide +kernel) rfl
theorem d_Mod_beside_87 : decode b_Mod_beside 87 = .ok (.ireturn, 1) := dc_172 (by decide +kernel)
theorem d_Mod_beside_88 : decode b_Mod_beside 88 = .ok (.iload_n 1, 1) := dc_27 (by decide +kernel)
theorem d_Mod_beside_89 : decode b_Mod_beside 89 = .ok (.aload_n 0, 1) := dc_42 (by decide +kernel)
theorem d_Mod_beside_90 : decode b_Mod_beside 90 = .ok (.getfield 81, 3) := dc_180 (a := 0) (b := 81) (by decide +kernel) rfl
theorem d_Mod_beside_93 : decode b_Mod_beside 93 = .ok (.iadd, 1) := dc_96 (by decide +kernel)
theorem d_Mod_beside_94 : decode b_Mod_beside 94 = .ok (.aload_n 0, 1) := dc_42 (by decide +kernel)
theorem d_Mod_beside_95 : decode b_Mod_beside 95 = .ok (.invokevirtual 183, 3) := dc_182 (a := 0) (b := 183) (by decide +kernel) rfl
theorem d_Mod_beside_98 : decode b_Mod_beside 98 = .ok (.if_icmp .ge 12, 3) := dc_162 (a := 0) (b := 12) (by decide +kernel) rfl
theorem d_Mod_beside_101 : decode b_Mod_beside 101 = .ok (.iload_n 1, 1) := dc_27 (by decide +kernel)
theorem d_Mod_beside_102 : decode b_Mod_beside 102 = .ok (.aload_n 0, 1) := dc_42 (by decide +kernel)
theorem d_Mod_beside_103 : decode b_Mod_beside 103 = .ok (.getfield 81, 3) := dc_180 (a := 0) (b := 81) (by decide +kernel) rfl
theorem d_Mod_beside_106 : decode b_Mod_beside 106 = .ok (.iadd, 1) := dc_96 (by decide +kernel)
theorem d_Mod_beside_107 : decode b_Mod_beside 107 = .ok (.goto 5, 3) := dc_167 (a := 0) (b := 5) (by decide +kernel) rfl
theorem d_Mod_beside_110 : decode b_Mod_beside 110 = .ok (.bipush (-4), 2) := dc_16 (a := 252) (by decide +kernel) rfl
theorem d_Mod_beside_112 : decode b_Mod_beside 112 = .ok (.ireturn, 1) := dc_172 (by decide +kernel)
theorem d_Mod_showsIn_0 : decode b_Mod_showsIn 0 = .ok (.iconst 2, 1) := dc_5 (by decide +kernel)
theorem d_Mod_showsIn_1 : decode b_Mod_showsIn 1 = .ok (.aload_n 0, 1) := dc_42 (by decide +kernel)
theorem d_Mod_showsIn_2 : decode b_Mod_showsIn 2 = .ok (.aload_n 0, 1) := dc_42 (by decide +kernel)
theorem d_Mod_showsIn_3 : decode b_Mod_showsIn 3 = .ok (.getfield 7, 3) := dc_180 (a := 0) (b := 7) (by decide +kernel) rfl
theorem d_Mod_showsIn_6 : decode b_Mod_showsIn 6 = .ok (.bipush 84, 2) := dc_16 (a := 84) (by decide +kernel) rfl
theorem d_Mod_showsIn_8 : decode b_Mod_showsIn 8 = .ok (.iaload, 1) := dc_46 (by decide +kernel)
theorem d_Mod_showsIn_9 : decode b_Mod_showsIn 9 = .ok (.aload_n 0, 1) := dc_42 (by decide +kernel)
theorem d_Mod_showsIn_10 : decode b_Mod_showsIn 10 = .ok (.getfield 7, 3) := dc_180 (a := 0) (b := 7) (by decide +kernel) rfl
theorem d_Mod_showsIn_13 : decode b_Mod_showsIn 13 = .ok (.bipush 85, 2) := dc_16 (a := 85) (by decide +kernel) rfl
theorem d_Mod_showsIn_15 : decode b_Mod_showsIn 15 = .ok (.iaload, 1) := dc_46 (by decide +kernel)
theorem d_Mod_showsIn_16 : decode b_Mod_showsIn 16 = .ok (.iload_n 1, 1) := dc_27 (by decide +kernel)
theorem d_Mod_showsIn_17 : decode b_Mod_showsIn 17 = .ok (.iload_n 2, 1) := dc_28 (by decide +kernel)
theorem d_Mod_showsIn_18 : decode b_Mod_showsIn 18 = .ok (.iload_n 3, 1) := dc_29 (by decide +kernel)
theorem d_Mod_showsIn_19 : decode b_Mod_showsIn 19 = .ok (.invokevirtual 229, 3) := dc_182 (a := 0) (b := 229) (by decide +kernel) rfl
theorem d_Mod_showsIn_22 : decode b_Mod_showsIn 22 = .ok (.invokestatic 196, 3) := dc_184 (a := 0) (b := 196) (by decide +kernel) rfl
theorem d_Mod_showsIn_25 : decode b_Mod_showsIn 25 = .ok (.imul, 1) := dc_104 (by decide +kernel)
theorem d_Mod_showsIn_26 : decode b_Mod_showsIn 26 = .ok (.aload_n 0, 1) := dc_42 (by decide +kernel)
theorem d_Mod_showsIn_27 : decode b_Mod_showsIn 27 = .ok (.getfield 7, 3) := dc_180 (a := 0) (b := 7) (by decide +kernel) rfl
theorem d_Mod_showsIn_30 : decode b_Mod_showsIn 30 = .ok (.iconst 0, 1) := dc_3 (by decide +kernel)
theorem d_Mod_showsIn_31 : decode b_Mod_showsIn 31 = .ok (.iload_n 1, 1) := dc_27 (by decide +kernel)
theorem d_Mod_showsIn_32 : decode b_Mod_showsIn 32 = .ok (.iadd, 1) := dc_96 (by decide +kernel)
theorem d_Mod_showsIn_33 : decode b_Mod_showsIn 33 = .ok (.iaload, 1) := dc_46 (by decide +kernel)
theorem d_Mod_showsIn_34 : decode b_Mod_showsIn 34 = .ok (.ifCond .le 7, 3) := dc_158 (a := 0) (b := 7) (by decide +kernel) rfl
theorem d_Mod_showsIn_37 : decode b_Mod_showsIn 37 = .ok (.iconst 1, 1) := dc_4 (by decide +kernel)
theorem d_Mod_showsIn_38 : decode b_Mod_showsIn 38 = .ok (.goto 4, 3) := dc_167 (a := 0) (b := 4) (by decide +kernel) rfl
theorem d_Mod_showsIn_41 : decode b_Mod_showsIn 41 = .ok (.iconst 0, 1) := dc_3 (by decide +kernel)
theorem d_Mod_showsIn_42 : decode b_Mod_showsIn 42 = .ok (.invokestatic 196, 3) := dc_184 (a := 0) (b := 196) (by decide +kernel) rfl
theorem d_Mod_showsIn_45 : decode b_Mod_showsIn 45 = .ok (.isub, 1) := dc_100 (by decide +kernel)
theorem d_Mod_showsIn_46 : decode b_Mod_showsIn 46 = .ok (.ireturn, 1) := dc_172 (by decide +kernel)
theorem d_Mod_bestBeside_0 : decode b_Mod_bestBeside 0 = .ok (.bipush (-4), 2) := dc_16 (a := 252) (by decide +kernel) rfl
theorem d_Mod_bestBeside_2 : decode b_Mod_bestBeside 2 = .ok (.istore_n 3, 1) := dc_62 (by decide +kernel)
theorem d_Mod_bestBeside_3 : decode b_Mod_bestBeside 3 = .ok (.iconst 0, 1) := dc_3 (by decide +kernel)
theorem d_Mod_bestBeside_4 : decode b_Mod_bestBeside 4 = .ok (.istore 4, 2) := dc_54 (a := 4) (by decide +kernel) rfl
theorem d_Mod_bestBeside_6 : decode b_Mod_bestBeside 6 = .ok (.iload 4, 2) := dc_21 (a := 4) (by decide +kernel) rfl
theorem d_Mod_bestBeside_8 : decode b_Mod_bestBeside 8 = .ok (.iconst 4, 1) := dc_7 (by decide +kernel)
theorem d_Mod_bestBeside_9 : decode b_Mod_bestBeside 9 = .ok (.if_icmp .ge 64, 3) := dc_162 (a := 0) (b := 64) (by decide +kernel) rfl
theorem d_Mod_bestBeside_12 : decode b_Mod_bestBeside 12 = .ok (.aload_n 0, 1) := dc_42 (by decide +kernel)
theorem d_Mod_bestBeside_13 : decode b_Mod_bestBeside 13 = .ok (.iload_n 1, 1) := dc_27 (by decide +kernel)
theorem d_Mod_bestBeside_14 : decode b_Mod_bestBeside 14 = .ok (.iload 4, 2) := dc_21 (a := 4) (by decide +kernel) rfl
theorem d_Mod_bestBeside_16 : decode b_Mod_bestBeside 16 = .ok (.invokevirtual 243, 3) := dc_182 (a := 0) (b := 243) (by decide +kernel) rfl
theorem d_Mod_bestBeside_19 : decode b_Mod_bestBeside 19 = .ok (.istore 5, 2) := dc_54 (a := 5) (by decide +kernel) rfl
theorem d_Mod_bestBeside_21 : decode b_Mod_bestBeside 21 = .ok (.iload 5, 2) := dc_21 (a := 5) (by decide +kernel) rfl
theorem d_Mod_bestBeside_23 : decode b_Mod_bestBeside 23 = .ok (.bipush (-4), 2) := dc_16 (a := 252) (by decide +kernel) rfl
theorem d_Mod_bestBeside_25 : decode b_Mod_bestBeside 25 = .ok (.if_icmp .eq 40, 3) := dc_159 (a := 0) (b := 40) (by decide +kernel) rfl
theorem d_Mod_bestBeside_28 : decode b_Mod_bestBeside 28 = .ok (.iload_n 3, 1) := dc_29 (by decide +kernel)
theorem d_Mod_bestBeside_29 : decode b_Mod_bestBeside 29 = .ok (.bipush (-4), 2) := dc_16 (a := 252) (by decide +kernel) rfl
theorem d_Mod_bestBeside_31 : decode b_Mod_bestBeside 31 = .ok (.if_icmp .eq 29, 3) := dc_159 (a := 0) (b := 29) (by decide +kernel) rfl
theorem d_Mod_bestBeside_34 : decode b_Mod_bestBeside 34 = .ok (.aload_n 0, 1) := dc_42 (by decide +kernel)
theorem d_Mod_bestBeside_35 : decode b_Mod_bestBeside 35 = .ok (.getfield 26, 3) := dc_180 (a := 0) (b := 26) (by decide +kernel) rfl
theorem d_Mod_bestBeside_38 : decode b_Mod_bestBeside 38 = .ok (.bipush 16, 2) := dc_16 (a := 16) (by decide +kernel) rfl
theorem d_Mod_bestBeside_40 : decode b_Mod_bestBeside 40 = .ok (.iload_n 2, 1) := dc_28 (by decide +kernel)
theorem d_Mod_bestBeside_41 : decode b_Mod_bestBeside 41 = .ok (.imul, 1) := dc_104 (by decide +kernel)
theorem d_Mod_bestBeside_42 : decode b_Mod_bestBeside 42 = .ok (.iload 5, 2) := dc_21 (a := 5) (by decide +kernel) rfl
theorem d_Mod_bestBeside_44 : decode b_Mod_bestBeside 44 = .ok (.iadd, 1) := dc_96 (by decide +kernel)
theorem d_Mod_bestBeside_45 : decode b_Mod_bestBeside 45 = .ok (.iaload, 1) := dc_46 (by decide +kernel)
theorem d_Mod_bestBeside_46 : decode b_Mod_bestBeside 46 = .ok (.aload_n 0, 1) := dc_42 (by decide +kernel)
theorem d_Mod_bestBeside_47 : decode b_Mod_bestBeside 47 = .ok (.getfield 26, 3) := dc_180 (a := 0) (b := 26) (by decide +kernel) rfl
theorem d_Mod_bestBeside_50 : decode b_Mod_bestBeside 50 = .ok (.bipush 16, 2) := dc_16 (a := 16) (by decide +kernel) rfl
theorem d_Mod_bestBeside_52 : decode b_Mod_bestBeside 52 = .ok (.iload_n 2, 1) := dc_28 (by decide +kernel)
theorem d_Mod_bestBeside_53 : decode b_Mod_bestBeside 53 = .ok (.imul, 1) := dc_104 (by decide +kernel)
theorem d_Mod_bestBeside_54 : decode b_Mod_bestBeside 54 = .ok (.iload_n 3, 1) := dc_29 (by decide +kernel)
theorem d_Mod_bestBeside_55 : decode b_Mod_bestBeside 55 = .ok (.iadd, 1) := dc_96 (by decide +kernel)
theorem d_Mod_bestBeside_56 : decode b_Mod_bestBeside 56 = .ok (.iaload, 1) := dc_46 (by decide +kernel)
theorem d_Mod_bestBeside_57 : decode b_Mod_bestBeside 57 = .ok (.if_icmp .le 8, 3) := dc_164 (a := 0) (b := 8) (by decide +kernel) rfl
theorem d_Mod_bestBeside_60 : decode b_Mod_bestBeside 60 = .ok (.iload 5, 2) := dc_21 (a := 5) (by decide +kernel) rfl
theorem d_Mod_bestBeside_62 : decode b_Mod_bestBeside 62 = .ok (.goto 4, 3) := dc_167 (a := 0) (b := 4) (by decide +kernel) rfl
theorem d_Mod_bestBeside_65 : decode b_Mod_bestBeside 65 = .ok (.iload_n 3, 1) := dc_29 (by decide +kernel)
theorem d_Mod_bestBeside_66 : decode b_Mod_bestBeside 66 = .ok (.istore_n 3, 1) := dc_62 (by decide +kernel)
theorem d_Mod_bestBeside_67 : decode b_Mod_bestBeside 67 = .ok (.iinc 4 1, 3) := dc_132 (a := 4) (b := 1) (by decide +kernel) rfl
theorem d_Mod_bestBeside_70 : decode b_Mod_bestBeside 70 = .ok (.goto (-64), 3) := dc_167 (a := 255) (b := 192) (by decide +kernel) rfl
theorem d_Mod_bestBeside_73 : decode b_Mod_bestBeside 73 = .ok (.iload_n 3, 1) := dc_29 (by decide +kernel)
theorem d_Mod_bestBeside_74 : decode b_Mod_bestBeside 74 = .ok (.ireturn, 1) := dc_172 (by decide +kernel)
theorem d_Mod_findShown_0 : decode b_Mod_findShown 0 = .ok (.iload_n 2, 1) := dc_28 (by decide +kernel)
theorem d_Mod_findShown_1 : decode b_Mod_findShown 1 = .ok (.istore_n 3, 1) := dc_62 (by decide +kernel)
theorem d_Mod_findShown_2 : decode b_Mod_findShown 2 = .ok (.iload_n 3, 1) := dc_29 (by decide +kernel)
theorem d_Mod_findShown_3 : decode b_Mod_findShown 3 = .ok (.iconst 1, 1) := dc_4 (by decide +kernel)
theorem d_Mod_findShown_4 : decode b_Mod_findShown 4 = .ok (.if_icmp .lt 82, 3) := dc_161 (a := 0) (b := 82) (by decide +kernel) rfl
theorem d_Mod_findShown_7 : decode b_Mod_findShown 7 = .ok (.iconst 0, 1) := dc_3 (by decide +kernel)
theorem d_Mod_findShown_8 : decode b_Mod_findShown 8 = .ok (.istore 4, 2) := dc_54 (a := 4) (by decide +kernel) rfl
theorem d_Mod_findShown_10 : decode b_Mod_findShown 10 = .ok (.iload 4, 2) := dc_21 (a := 4) (by decide +kernel) rfl
theorem d_Mod_findShown_12 : decode b_Mod_findShown 12 = .ok (.aload_n 0, 1) := dc_42 (by decide +kernel)
theorem d_Mod_findShown_13 : decode b_Mod_findShown 13 = .ok (.invokevirtual 183, 3) := dc_182 (a := 0) (b := 183) (by decide +kernel) rfl
theorem d_Mod_findShown_16 : decode b_Mod_findShown 16 = .ok (.if_icmp .ge 64, 3) := dc_162 (a := 0) (b := 64) (by decide +kernel) rfl
theorem d_Mod_findShown_19 : decode b_Mod_findShown 19 = .ok (.iload_n 3, 1) := dc_29 (by decide +kernel)
theorem d_Mod_findShown_20 : decode b_Mod_findShown 20 = .ok (.iload_n 2, 1) := dc_28 (by decide +kernel)
theorem d_Mod_findShown_21 : decode b_Mod_findShown 21 = .ok (.if_icmp .ne 7, 3) := dc_160 (a := 0) (b := 7) (by decide +kernel) rfl
theorem d_Mod_findShown_24 : decode b_Mod_findShown 24 = .ok (.iconst 0, 1) := dc_3 (by decide +kernel)
theorem d_Mod_findShown_25 : decode b_Mod_findShown 25 = .ok (.goto 24, 3) := dc_167 (a := 0) (b := 24) (by decide +kernel) rfl
theorem d_Mod_findShown_28 : decode b_Mod_findShown 28 = .ok (.aload_n 0, 1) := dc_42 (by decide +kernel)
theorem d_Mod_findShown_29 : decode b_Mod_findShown 29 = .ok (.getfield 26, 3) := dc_180 (a := 0) (b := 26) (by decide +kernel) rfl
theorem d_Mod_findShown_32 : decode b_Mod_findShown 32 = .ok (.bipush 16, 2) := dc_16 (a := 16) (by decide +kernel) rfl
theorem d_Mod_findShown_34 : decode b_Mod_findShown 34 = .ok (.iload_n 3, 1) := dc_29 (by decide +kernel)
theorem d_Mod_findShown_35 : decode b_Mod_findShown 35 = .ok (.iconst 1, 1) := dc_4 (by decide +kernel)
theorem d_Mod_findShown_36 : decode b_Mod_findShown 36 = .ok (.iadd, 1) := dc_96 (by decide +kernel)
theorem d_Mod_findShown_37 : decode b_Mod_findShown 37 = .ok (.imul, 1) := dc_104 (by decide +kernel)
theorem d_Mod_findShown_38 : decode b_Mod_findShown 38 = .ok (.aload_n 0, 1) := dc_42 (by decide +kernel)
theorem d_Mod_findShown_39 : decode b_Mod_findShown 39 = .ok (.iload 4, 2) := dc_21 (a := 4) (by decide +kernel) rfl
theorem d_Mod_findShown_41 : decode b_Mod_findShown 41 = .ok (.iload_n 3, 1) := dc_29 (by decide +kernel)
theorem d_Mod_findShown_42 : decode b_Mod_findShown 42 = .ok (.iconst 1, 1) := dc_4 (by decide +kernel)
theorem d_Mod_findShown_43 : decode b_Mod_findShown 43 = .ok (.iadd, 1) := dc_96 (by decide +kernel)
theorem d_Mod_findShown_44 : decode b_Mod_findShown 44 = .ok (.invokevirtual 246, 3) := dc_182 (a := 0) (b := 246) (by decide +kernel) rfl
theorem d_Mod_findShown_47 : decode b_Mod_findShown 47 = .ok (.iadd, 1) := dc_96 (by decide +kernel)
theorem d_Mod_findShown_48 : decode b_Mod_findShown 48 = .ok (.iaload, 1) := dc_46 (by decide +kernel)
theorem d_Mod_findShown_49 : decode b_Mod_findShown 49 = .ok (.istore 5, 2) := dc_54 (a := 5) (by decide +kernel) rfl
theorem d_Mod_findShown_51 : decode b_Mod_findShown 51 = .ok (.aload_n 0, 1) := dc_42 (by decide +kernel)
theorem d_Mod_findShown_52 : decode b_Mod_findShown 52 = .ok (.getfield 26, 3) := dc_180 (a := 0) (b := 26) (by decide +kernel) rfl
theorem d_Mod_findShown_55 : decode b_Mod_findShown 55 = .ok (.bipush 16, 2) := dc_16 (a := 16) (by decide +kernel) rfl
theorem d_Mod_findShown_57 : decode b_Mod_findShown 57 = .ok (.iload_n 3, 1) := dc_29 (by decide +kernel)
theorem d_Mod_findShown_58 : decode b_Mod_findShown 58 = .ok (.imul, 1) := dc_104 (by decide +kernel)
theorem d_Mod_findShown_59 : decode b_Mod_findShown 59 = .ok (.iload 4, 2) := dc_21 (a := 4) (by decide +kernel) rfl
theorem d_Mod_findShown_61 : decode b_Mod_findShown 61 = .ok (.iadd, 1) := dc_96 (by decide +kernel)
theorem d_Mod_findShown_62 : decode b_Mod_findShown 62 = .ok (.aload_n 0, 1) := dc_42 (by decide +kernel)
theorem d_Mod_findShown_63 : decode b_Mod_findShown 63 = .ok (.iload 4, 2) := dc_21 (a := 4) (by decide +kernel) rfl
theorem d_Mod_findShown_65 : decode b_Mod_findShown 65 = .ok (.iload_n 1, 1) := dc_27 (by decide +kernel)
theorem d_Mod_findShown_66 : decode b_Mod_findShown 66 = .ok (.iload_n 3, 1) := dc_29 (by decide +kernel)
theorem d_Mod_findShown_67 : decode b_Mod_findShown 67 = .ok (.invokevirtual 249, 3) := dc_182 (a := 0) (b := 249) (by decide +kernel) rfl
theorem d_Mod_findShown_70 : decode b_Mod_findShown 70 = .ok (.iload 5, 2) := dc_21 (a := 5) (by decide +kernel) rfl
theorem d_Mod_findShown_72 : decode b_Mod_findShown 72 = .ok (.iadd, 1) := dc_96 (by decide +kernel)
theorem d_Mod_findShown_73 : decode b_Mod_findShown 73 = .ok (.iastore, 1) := dc_79 (by decide +kernel)
theorem d_Mod_findShown_74 : decode b_Mod_findShown 74 = .ok (.iinc 4 1, 3) := dc_132 (a := 4) (b := 1) (by decide +kernel) rfl
theorem d_Mod_findShown_77 : decode b_Mod_findShown 77 = .ok (.goto (-67), 3) := dc_167 (a := 255) (b := 189) (by decide +kernel) rfl
theorem d_Mod_findShown_80 : decode b_Mod_findShown 80 = .ok (.iinc 3 (-1), 3) := dc_132 (a := 3) (b := 255) (by decide +kernel) rfl
theorem d_Mod_findShown_83 : decode b_Mod_findShown 83 = .ok (.goto (-81), 3) := dc_167 (a := 255) (b := 175) (by decide +kernel) rfl
theorem d_Mod_findShown_86 : decode b_Mod_findShown 86 = .ok (.return_, 1) := dc_177 (by decide +kernel)
theorem d_Mod_show_0 : decode b_Mod_show 0 = .ok (.aload_n 0, 1) := dc_42 (by decide +kernel)
theorem d_Mod_show_1 : decode b_Mod_show 1 = .ok (.iload_n 1, 1) := dc_27 (by decide +kernel)
theorem d_Mod_show_2 : decode b_Mod_show 2 = .ok (.invokevirtual 200, 3) := dc_182 (a := 0) (b := 200) (by decide +kernel) rfl
theorem d_Mod_show_5 : decode b_Mod_show 5 = .ok (.ifCond .eq 44, 3) := dc_153 (a := 0) (b := 44) (by decide +kernel) rfl
theorem d_Mod_show_8 : decode b_Mod_show 8 = .ok (.iload_n 2, 1) := dc_28 (by decide +kernel)
theorem d_Mod_show_9 : decode b_Mod_show 9 = .ok (.invokestatic 205, 3) := dc_184 (a := 0) (b := 205) (by decide +kernel) rfl
theorem d_Mod_show_12 : decode b_Mod_show 12 = .ok (.ifCond .eq 37, 3) := dc_153 (a := 0) (b := 37) (by decide +kernel) rfl
theorem d_Mod_show_15 : decode b_Mod_show 15 = .ok (.iload_n 3, 1) := dc_29 (by decide +kernel)
theorem d_Mod_show_16 : decode b_Mod_show 16 = .ok (.i2l, 1) := dc_133 (by decide +kernel)
theorem d_Mod_show_17 : decode b_Mod_show 17 = .ok (.lconst 1, 1) := dc_10 (by decide +kernel)
theorem d_Mod_show_18 : decode b_Mod_show 18 = .ok (.ldc2_w 253, 3) := dc_20 (a := 0) (b := 253) (by decide +kernel) rfl
theorem d_Mod_show_21 : decode b_Mod_show 21 = .ok (.invokestatic 95, 3) := dc_184 (a := 0) (b := 95) (by decide +kernel) rfl
theorem d_Mod_show_24 : decode b_Mod_show 24 = .ok (.ifCond .eq 25, 3) := dc_153 (a := 0) (b := 25) (by decide +kernel) rfl
theorem d_Mod_show_27 : decode b_Mod_show 27 = .ok (.iload 4, 2) := dc_21 (a := 4) (by decide +kernel) rfl
theorem d_Mod_show_29 : decode b_Mod_show 29 = .ok (.ifCond .eq 22, 3) := dc_153 (a := 0) (b := 22) (by decide +kernel) rfl
theorem d_Mod_show_32 : decode b_Mod_show 32 = .ok (.iload 4, 2) := dc_21 (a := 4) (by decide +kernel) rfl
theorem d_Mod_show_34 : decode b_Mod_show 34 = .ok (.bipush 10, 2) := dc_16 (a := 10) (by decide +kernel) rfl
theorem d_Mod_show_36 : decode b_Mod_show 36 = .ok (.isub, 1) := dc_100 (by decide +kernel)
theorem d_Mod_show_37 : decode b_Mod_show 37 = .ok (.i2l, 1) := dc_133 (by decide +kernel)
theorem d_Mod_show_38 : decode b_Mod_show 38 = .ok (.lconst 0, 1) := dc_9 (by decide +kernel)
theorem d_Mod_show_39 : decode b_Mod_show 39 = .ok (.iload_n 3, 1) := dc_29 (by decide +kernel)
theorem d_Mod_show_40 : decode b_Mod_show 40 = .ok (.iconst 1, 1) := dc_4 (by decide +kernel)
theorem d_Mod_show_41 : decode b_Mod_show 41 = .ok (.isub, 1) := dc_100 (by decide +kernel)
theorem d_Mod_show_42 : decode b_Mod_show 42 = .ok (.i2l, 1) := dc_133 (by decide +kernel)
theorem d_Mod_show_43 : decode b_Mod_show 43 = .ok (.invokestatic 95, 3) := dc_184 (a := 0) (b := 95) (by decide +kernel) rfl
theorem d_Mod_show_46 : decode b_Mod_show 46 = .ok (.ifCond .ne 5, 3) := dc_154 (a := 0) (b := 5) (by decide +kernel) rfl
theorem d_Mod_show_49 : decode b_Mod_show 49 = .ok (.iconst (-1), 1) := dc_2 (by decide +kernel)
theorem d_Mod_show_50 : decode b_Mod_show 50 = .ok (.ireturn, 1) := dc_172 (by decide +kernel)
theorem d_Mod_show_51 : decode b_Mod_show 51 = .ok (.aload_n 0, 1) := dc_42 (by decide +kernel)
theorem d_Mod_show_52 : decode b_Mod_show 52 = .ok (.iload_n 2, 1) := dc_28 (by decide +kernel)
theorem d_Mod_show_53 : decode b_Mod_show 53 = .ok (.iload_n 3, 1) := dc_29 (by decide +kernel)
theorem d_Mod_show_54 : decode b_Mod_show 54 = .ok (.invokevirtual 255, 3) := dc_182 (a := 0) (b := 255) (by decide +kernel) rfl
theorem d_Mod_show_57 : decode b_Mod_show 57 = .ok (.iload 4, 2) := dc_21 (a := 4) (by decide +kernel) rfl
theorem d_Mod_show_59 : decode b_Mod_show 59 = .ok (.ifCond .ne 16, 3) := dc_154 (a := 0) (b := 16) (by decide +kernel) rfl
theorem d_Mod_show_62 : decode b_Mod_show 62 = .ok (.bipush 10, 2) := dc_16 (a := 10) (by decide +kernel) rfl
theorem d_Mod_show_64 : decode b_Mod_show 64 = .ok (.aload_n 0, 1) := dc_42 (by decide +kernel)
theorem d_Mod_show_65 : decode b_Mod_show 65 = .ok (.getfield 26, 3) := dc_180 (a := 0) (b := 26) (by decide +kernel) rfl
theorem d_Mod_show_68 : decode b_Mod_show 68 = .ok (.bipush 16, 2) := dc_16 (a := 16) (by decide +kernel) rfl
theorem d_Mod_show_70 : decode b_Mod_show 70 = .ok (.iload_n 1, 1) := dc_27 (by decide +kernel)
theorem d_Mod_show_71 : decode b_Mod_show 71 = .ok (.iadd, 1) := dc_96 (by decide +kernel)
theorem d_Mod_show_72 : decode b_Mod_show 72 = .ok (.iaload, 1) := dc_46 (by decide +kernel)
theorem d_Mod_show_73 : decode b_Mod_show 73 = .ok (.iadd, 1) := dc_96 (by decide +kernel)
theorem d_Mod_show_74 : decode b_Mod_show 74 = .ok (.ireturn, 1) := dc_172 (by decide +kernel)
theorem d_Mod_show_75 : decode b_Mod_show 75 = .ok (.iload_n 1, 1) := dc_27 (by decide +kernel)
theorem d_Mod_show_76 : decode b_Mod_show 76 = .ok (.istore 5, 2) := dc_54 (a := 5) (by decide +kernel) rfl
theorem d_Mod_show_78 : decode b_Mod_show 78 = .ok (.iconst 0, 1) := dc_3 (by decide +kernel)
theorem d_Mod_show_79 : decode b_Mod_show 79 = .ok (.istore 6, 2) := dc_54 (a := 6) (by decide +kernel) rfl
theorem d_Mod_show_81 : decode b_Mod_show 81 = .ok (.iload 6, 2) := dc_21 (a := 6) (by decide +kernel) rfl
theorem d_Mod_show_83 : decode b_Mod_show 83 = .ok (.iload 4, 2) := dc_21 (a := 4) (by decide +kernel) rfl
theorem d_Mod_show_85 : decode b_Mod_show 85 = .ok (.bipush 10, 2) := dc_16 (a := 10) (by decide +kernel) rfl
theorem d_Mod_show_87 : decode b_Mod_show 87 = .ok (.isub, 1) := dc_100 (by decide +kernel)
theorem d_Mod_show_88 : decode b_Mod_show 88 = .ok (.if_icmp .ge 21, 3) := dc_162 (a := 0) (b := 21) (by decide +kernel) rfl
theorem d_Mod_show_91 : decode b_Mod_show 91 = .ok (.aload_n 0, 1) := dc_42 (by decide +kernel)
theorem d_Mod_show_92 : decode b_Mod_show 92 = .ok (.iload 5, 2) := dc_21 (a := 5) (by decide +kernel) rfl
theorem d_Mod_show_94 : decode b_Mod_show 94 = .ok (.iload 6, 2) := dc_21 (a := 6) (by decide +kernel) rfl
theorem d_Mod_show_96 : decode b_Mod_show 96 = .ok (.iconst 2, 1) := dc_5 (by decide +kernel)
theorem d_Mod_show_97 : decode b_Mod_show 97 = .ok (.iadd, 1) := dc_96 (by decide +kernel)
theorem d_Mod_show_98 : decode b_Mod_show 98 = .ok (.invokevirtual 246, 3) := dc_182 (a := 0) (b := 246) (by decide +kernel) rfl
theorem d_Mod_show_101 : decode b_Mod_show 101 = .ok (.istore 5, 2) := dc_54 (a := 5) (by decide +kernel) rfl
theorem d_Mod_show_103 : decode b_Mod_show 103 = .ok (.iinc 6 1, 3) := dc_132 (a := 6) (b := 1) (by decide +kernel) rfl
theorem d_Mod_show_106 : decode b_Mod_show 106 = .ok (.goto (-25), 3) := dc_167 (a := 255) (b := 231) (by decide +kernel) rfl
theorem d_Mod_show_109 : decode b_Mod_show 109 = .ok (.iload 5, 2) := dc_21 (a := 5) (by decide +kernel) rfl
theorem d_Mod_show_111 : decode b_Mod_show 111 = .ok (.ireturn, 1) := dc_172 (by decide +kernel)
theorem d_Mod_bore_0 : decode b_Mod_bore 0 = .ok (.iload_n 1, 1) := dc_27 (by decide +kernel)
theorem d_Mod_bore_1 : decode b_Mod_bore 1 = .ok (.invokestatic 205, 3) := dc_184 (a := 0) (b := 205) (by decide +kernel) rfl
theorem d_Mod_bore_4 : decode b_Mod_bore 4 = .ok (.ifCond .eq 23, 3) := dc_153 (a := 0) (b := 23) (by decide +kernel) rfl
theorem d_Mod_bore_7 : decode b_Mod_bore 7 = .ok (.aload_n 0, 1) := dc_42 (by decide +kernel)
theorem d_Mod_bore_8 : decode b_Mod_bore 8 = .ok (.iload_n 2, 1) := dc_28 (by decide +kernel)
theorem d_Mod_bore_9 : decode b_Mod_bore 9 = .ok (.invokevirtual 200, 3) := dc_182 (a := 0) (b := 200) (by decide +kernel) rfl
theorem d_Mod_bore_12 : decode b_Mod_bore 12 = .ok (.ifCond .eq 15, 3) := dc_153 (a := 0) (b := 15) (by decide +kernel) rfl
theorem d_Mod_bore_15 : decode b_Mod_bore 15 = .ok (.iload_n 3, 1) := dc_29 (by decide +kernel)
theorem d_Mod_bore_16 : decode b_Mod_bore 16 = .ok (.i2l, 1) := dc_133 (by decide +kernel)
theorem d_Mod_bore_17 : decode b_Mod_bore 17 = .ok (.lconst 1, 1) := dc_10 (by decide +kernel)
theorem d_Mod_bore_18 : decode b_Mod_bore 18 = .ok (.ldc2_w 208, 3) := dc_20 (a := 0) (b := 208) (by decide +kernel) rfl
theorem d_Mod_bore_21 : decode b_Mod_bore 21 = .ok (.invokestatic 95, 3) := dc_184 (a := 0) (b := 95) (by decide +kernel) rfl
theorem d_Mod_bore_24 : decode b_Mod_bore 24 = .ok (.ifCond .ne 5, 3) := dc_154 (a := 0) (b := 5) (by decide +kernel) rfl
theorem d_Mod_bore_27 : decode b_Mod_bore 27 = .ok (.iconst (-1), 1) := dc_2 (by decide +kernel)
theorem d_Mod_bore_28 : decode b_Mod_bore 28 = .ok (.ireturn, 1) := dc_172 (by decide +kernel)
theorem d_Mod_bore_29 : decode b_Mod_bore 29 = .ok (.iload_n 3, 1) := dc_29 (by decide +kernel)
theorem d_Mod_bore_30 : decode b_Mod_bore 30 = .ok (.aload_n 0, 1) := dc_42 (by decide +kernel)
theorem d_Mod_bore_31 : decode b_Mod_bore 31 = .ok (.getfield 7, 3) := dc_180 (a := 0) (b := 7) (by decide +kernel) rfl
theorem d_Mod_bore_34 : decode b_Mod_bore 34 = .ok (.bipush 64, 2) := dc_16 (a := 64) (by decide +kernel) rfl
theorem d_Mod_bore_36 : decode b_Mod_bore 36 = .ok (.iload_n 2, 1) := dc_28 (by decide +kernel)
theorem d_Mod_bore_37 : decode b_Mod_bore 37 = .ok (.iadd, 1) := dc_96 (by decide +kernel)
theorem d_Mod_bore_38 : decode b_Mod_bore 38 = .ok (.iaload, 1) := dc_46 (by decide +kernel)
theorem d_Mod_bore_39 : decode b_Mod_bore 39 = .ok (.if_icmp .le 17, 3) := dc_164 (a := 0) (b := 17) (by decide +kernel) rfl
theorem d_Mod_bore_42 : decode b_Mod_bore 42 = .ok (.iload_n 3, 1) := dc_29 (by decide +kernel)
theorem d_Mod_bore_43 : decode b_Mod_bore 43 = .ok (.aload_n 0, 1) := dc_42 (by decide +kernel)
theorem d_Mod_bore_44 : decode b_Mod_bore 44 = .ok (.getfield 7, 3) := dc_180 (a := 0) (b := 7) (by decide +kernel) rfl
theorem d_Mod_bore_47 : decode b_Mod_bore 47 = .ok (.bipush 64, 2) := dc_16 (a := 64) (by decide +kernel) rfl
theorem d_Mod_bore_49 : decode b_Mod_bore 49 = .ok (.iload_n 2, 1) := dc_28 (by decide +kernel)
theorem d_Mod_bore_50 : decode b_Mod_bore 50 = .ok (.iadd, 1) := dc_96 (by decide +kernel)
theorem d_Mod_bore_51 : decode b_Mod_bore 51 = .ok (.iaload, 1) := dc_46 (by decide +kernel)
theorem d_Mod_bore_52 : decode b_Mod_bore 52 = .ok (.isub, 1) := dc_100 (by decide +kernel)
theorem d_Mod_bore_53 : decode b_Mod_bore 53 = .ok (.goto 4, 3) := dc_167 (a := 0) (b := 4) (by decide +kernel) rfl
theorem d_Mod_bore_56 : decode b_Mod_bore 56 = .ok (.iconst 0, 1) := dc_3 (by decide +kernel)
theorem d_Mod_bore_57 : decode b_Mod_bore 57 = .ok (.istore 4, 2) := dc_54 (a := 4) (by decide +kernel) rfl
theorem d_Mod_bore_59 : decode b_Mod_bore 59 = .ok (.aload_n 0, 1) := dc_42 (by decide +kernel)
theorem d_Mod_bore_60 : decode b_Mod_bore 60 = .ok (.getfield 7, 3) := dc_180 (a := 0) (b := 7) (by decide +kernel) rfl
theorem d_Mod_bore_63 : decode b_Mod_bore 63 = .ok (.bipush 64, 2) := dc_16 (a := 64) (by decide +kernel) rfl
theorem d_Mod_bore_65 : decode b_Mod_bore 65 = .ok (.iload_n 2, 1) := dc_28 (by decide +kernel)
theorem d_Mod_bore_66 : decode b_Mod_bore 66 = .ok (.iadd, 1) := dc_96 (by decide +kernel)
theorem d_Mod_bore_67 : decode b_Mod_bore 67 = .ok (.iaload, 1) := dc_46 (by decide +kernel)
theorem d_Mod_bore_68 : decode b_Mod_bore 68 = .ok (.iload 4, 2) := dc_21 (a := 4) (by decide +kernel) rfl
theorem d_Mod_bore_70 : decode b_Mod_bore 70 = .ok (.iadd, 1) := dc_96 (by decide +kernel)
theorem d_Mod_bore_71 : decode b_Mod_bore 71 = .ok (.istore 5, 2) := dc_54 (a := 5) (by decide +kernel) rfl
theorem d_Mod_bore_73 : decode b_Mod_bore 73 = .ok (.aload_n 0, 1) := dc_42 (by decide +kernel)
theorem d_Mod_bore_74 : decode b_Mod_bore 74 = .ok (.getfield 7, 3) := dc_180 (a := 0) (b := 7) (by decide +kernel) rfl
theorem d_Mod_bore_77 : decode b_Mod_bore 77 = .ok (.bipush 80, 2) := dc_16 (a := 80) (by decide +kernel) rfl
theorem d_Mod_bore_79 : decode b_Mod_bore 79 = .ok (.iload_n 1, 1) := dc_27 (by decide +kernel)
theorem d_Mod_bore_80 : decode b_Mod_bore 80 = .ok (.iadd, 1) := dc_96 (by decide +kernel)
theorem d_Mod_bore_81 : decode b_Mod_bore 81 = .ok (.iaload, 1) := dc_46 (by decide +kernel)
theorem d_Mod_bore_82 : decode b_Mod_bore 82 = .ok (.aload_n 0, 1) := dc_42 (by decide +kernel)
theorem d_Mod_bore_83 : decode b_Mod_bore 83 = .ok (.getfield 87, 3) := dc_180 (a := 0) (b := 87) (by decide +kernel) rfl
theorem d_Mod_bore_86 : decode b_Mod_bore 86 = .ok (.iload 4, 2) := dc_21 (a := 4) (by decide +kernel) rfl
theorem d_Mod_bore_88 : decode b_Mod_bore 88 = .ok (.imul, 1) := dc_104 (by decide +kernel)
theorem d_Mod_bore_89 : decode b_Mod_bore 89 = .ok (.isub, 1) := dc_100 (by decide +kernel)
theorem d_Mod_bore_90 : decode b_Mod_bore 90 = .ok (.istore 6, 2) := dc_54 (a := 6) (by decide +kernel) rfl
theorem d_Mod_bore_92 : decode b_Mod_bore 92 = .ok (.aload_n 0, 1) := dc_42 (by decide +kernel)
theorem d_Mod_bore_93 : decode b_Mod_bore 93 = .ok (.iload_n 2, 1) := dc_28 (by decide +kernel)
theorem d_Mod_bore_94 : decode b_Mod_bore 94 = .ok (.invokevirtual 192, 3) := dc_182 (a := 0) (b := 192) (by decide +kernel) rfl
theorem d_Mod_bore_97 : decode b_Mod_bore 97 = .ok (.ifCond .ne 23, 3) := dc_154 (a := 0) (b := 23) (by decide +kernel) rfl
theorem d_Mod_bore_100 : decode b_Mod_bore 100 = .ok (.aload_n 0, 1) := dc_42 (by decide +kernel)
theorem d_Mod_bore_101 : decode b_Mod_bore 101 = .ok (.getfield 7, 3) := dc_180 (a := 0) (b := 7) (by decide +kernel) rfl
theorem d_Mod_bore_104 : decode b_Mod_bore 104 = .ok (.iconst 0, 1) := dc_3 (by decide +kernel)
theorem d_Mod_bore_105 : decode b_Mod_bore 105 = .ok (.iload_n 2, 1) := dc_28 (by decide +kernel)
theorem d_Mod_bore_106 : decode b_Mod_bore 106 = .ok (.iadd, 1) := dc_96 (by decide +kernel)
theorem d_Mod_bore_107 : decode b_Mod_bore 107 = .ok (.iaload, 1) := dc_46 (by decide +kernel)
theorem d_Mod_bore_108 : decode b_Mod_bore 108 = .ok (.iload 5, 2) := dc_21 (a := 5) (by decide +kernel) rfl
theorem d_Mod_bore_110 : decode b_Mod_bore 110 = .ok (.invokestatic 188, 3) := dc_184 (a := 0) (b := 188) (by decide +kernel) rfl
theorem d_Mod_bore_113 : decode b_Mod_bore 113 = .ok (.ifCond .eq 7, 3) := dc_153 (a := 0) (b := 7) (by decide +kernel) rfl
theorem d_Mod_bore_116 : decode b_Mod_bore 116 = .ok (.iconst 1, 1) := dc_4 (by decide +kernel)
theorem d_Mod_bore_117 : decode b_Mod_bore 117 = .ok (.goto 4, 3) := dc_167 (a := 0) (b := 4) (by decide +kernel) rfl
theorem d_Mod_bore_120 : decode b_Mod_bore 120 = .ok (.iconst 0, 1) := dc_3 (by decide +kernel)
theorem d_Mod_bore_121 : decode b_Mod_bore 121 = .ok (.istore 7, 2) := dc_54 (a := 7) (by decide +kernel) rfl
theorem d_Mod_bore_123 : decode b_Mod_bore 123 = .ok (.iload 7, 2) := dc_21 (a := 7) (by decide +kernel) rfl
theorem d_Mod_bore_125 : decode b_Mod_bore 125 = .ok (.ifCond .eq 13, 3) := dc_153 (a := 0) (b := 13) (by decide +kernel) rfl
theorem d_Mod_bore_128 : decode b_Mod_bore 128 = .ok (.iload 6, 2) := dc_21 (a := 6) (by decide +kernel) rfl
theorem d_Mod_bore_130 : decode b_Mod_bore 130 = .ok (.aload_n 0, 1) := dc_42 (by decide +kernel)
theorem d_Mod_bore_131 : decode b_Mod_bore 131 = .ok (.getfield 90, 3) := dc_180 (a := 0) (b := 90) (by decide +kernel) rfl
theorem d_Mod_bore_134 : decode b_Mod_bore 134 = .ok (.iadd, 1) := dc_96 (by decide +kernel)
theorem d_Mod_bore_135 : decode b_Mod_bore 135 = .ok (.goto 5, 3) := dc_167 (a := 0) (b := 5) (by decide +kernel) rfl
theorem d_Mod_bore_138 : decode b_Mod_bore 138 = .ok (.iload 6, 2) := dc_21 (a := 6) (by decide +kernel) rfl
theorem d_Mod_bore_140 : decode b_Mod_bore 140 = .ok (.istore 8, 2) := dc_54 (a := 8) (by decide +kernel) rfl
theorem d_Mod_bore_142 : decode b_Mod_bore 142 = .ok (.aload_n 0, 1) := dc_42 (by decide +kernel)
theorem d_Mod_bore_143 : decode b_Mod_bore 143 = .ok (.getfield 7, 3) := dc_180 (a := 0) (b := 7) (by decide +kernel) rfl
theorem d_Mod_bore_146 : decode b_Mod_bore 146 = .ok (.bipush 48, 2) := dc_16 (a := 48) (by decide +kernel) rfl
theorem d_Mod_bore_148 : decode b_Mod_bore 148 = .ok (.iload_n 2, 1) := dc_28 (by decide +kernel)
theorem d_Mod_bore_149 : decode b_Mod_bore 149 = .ok (.iadd, 1) := dc_96 (by decide +kernel)
theorem d_Mod_bore_150 : decode b_Mod_bore 150 = .ok (.iaload, 1) := dc_46 (by decide +kernel)
theorem d_Mod_bore_151 : decode b_Mod_bore 151 = .ok (.iload_n 1, 1) := dc_27 (by decide +kernel)
theorem d_Mod_bore_152 : decode b_Mod_bore 152 = .ok (.if_icmp .ne 16, 3) := dc_160 (a := 0) (b := 16) (by decide +kernel) rfl
theorem d_Mod_bore_155 : decode b_Mod_bore 155 = .ok (.iload 6, 2) := dc_21 (a := 6) (by decide +kernel) rfl
theorem d_Mod_bore_157 : decode b_Mod_bore 157 = .ok (.ifCond .lt 11, 3) := dc_155 (a := 0) (b := 11) (by decide +kernel) rfl
theorem d_Mod_bore_160 : decode b_Mod_bore 160 = .ok (.iload 8, 2) := dc_21 (a := 8) (by decide +kernel) rfl
theorem d_Mod_bore_162 : decode b_Mod_bore 162 = .ok (.sipush 999, 3) := dc_17 (a := 3) (b := 231) (by decide +kernel) rfl
theorem d_Mod_bore_165 : decode b_Mod_bore 165 = .ok (.if_icmp .le 6, 3) := dc_164 (a := 0) (b := 6) (by decide +kernel) rfl
theorem d_Mod_bore_168 : decode b_Mod_bore 168 = .ok (.bipush (-2), 2) := dc_16 (a := 254) (by decide +kernel) rfl
theorem d_Mod_bore_170 : decode b_Mod_bore 170 = .ok (.ireturn, 1) := dc_172 (by decide +kernel)
theorem d_Mod_bore_171 : decode b_Mod_bore 171 = .ok (.aload_n 0, 1) := dc_42 (by decide +kernel)
theorem d_Mod_bore_172 : decode b_Mod_bore 172 = .ok (.getfield 7, 3) := dc_180 (a := 0) (b := 7) (by decide +kernel) rfl
theorem d_Mod_bore_175 : decode b_Mod_bore 175 = .ok (.bipush 80, 2) := dc_16 (a := 80) (by decide +kernel) rfl
theorem d_Mod_bore_177 : decode b_Mod_bore 177 = .ok (.iload_n 1, 1) := dc_27 (by decide +kernel)
theorem d_Mod_bore_178 : decode b_Mod_bore 178 = .ok (.iadd, 1) := dc_96 (by decide +kernel)
theorem d_Mod_bore_179 : decode b_Mod_bore 179 = .ok (.iload 8, 2) := dc_21 (a := 8) (by decide +kernel) rfl
theorem d_Mod_bore_181 : decode b_Mod_bore 181 = .ok (.iastore, 1) := dc_79 (by decide +kernel)
theorem d_Mod_bore_182 : decode b_Mod_bore 182 = .ok (.aload_n 0, 1) := dc_42 (by decide +kernel)
theorem d_Mod_bore_183 : decode b_Mod_bore 183 = .ok (.getfield 7, 3) := dc_180 (a := 0) (b := 7) (by decide +kernel) rfl
theorem d_Mod_bore_186 : decode b_Mod_bore 186 = .ok (.bipush 64, 2) := dc_16 (a := 64) (by decide +kernel) rfl
theorem d_Mod_bore_188 : decode b_Mod_bore 188 = .ok (.iload_n 2, 1) := dc_28 (by decide +kernel)
theorem d_Mod_bore_189 : decode b_Mod_bore 189 = .ok (.iadd, 1) := dc_96 (by decide +kernel)
theorem d_Mod_bore_190 : decode b_Mod_bore 190 = .ok (.iload 5, 2) := dc_21 (a := 5) (by decide +kernel) rfl
theorem d_Mod_bore_192 : decode b_Mod_bore 192 = .ok (.iastore, 1) := dc_79 (by decide +kernel)
theorem d_Mod_bore_193 : decode b_Mod_bore 193 = .ok (.aload_n 0, 1) := dc_42 (by decide +kernel)
theorem d_Mod_bore_194 : decode b_Mod_bore 194 = .ok (.iload_n 2, 1) := dc_28 (by decide +kernel)
theorem d_Mod_bore_195 : decode b_Mod_bore 195 = .ok (.invokevirtual 192, 3) := dc_182 (a := 0) (b := 192) (by decide +kernel) rfl
theorem d_Mod_bore_198 : decode b_Mod_bore 198 = .ok (.invokestatic 196, 3) := dc_184 (a := 0) (b := 196) (by decide +kernel) rfl
theorem d_Mod_bore_201 : decode b_Mod_bore 201 = .ok (.ireturn, 1) := dc_172 (by decide +kernel)
theorem d_Mod_meanOf_0 : decode b_Mod_meanOf 0 = .ok (.lconst 1, 1) := dc_10 (by decide +kernel)
theorem d_Mod_meanOf_1 : decode b_Mod_meanOf 1 = .ok (.lstore_n 3, 1) := dc_66 (by decide +kernel)
theorem d_Mod_meanOf_2 : decode b_Mod_meanOf 2 = .ok (.lconst 0, 1) := dc_9 (by decide +kernel)
theorem d_Mod_meanOf_3 : decode b_Mod_meanOf 3 = .ok (.lstore 5, 2) := dc_55 (a := 5) (by decide +kernel) rfl
theorem d_Mod_meanOf_5 : decode b_Mod_meanOf 5 = .ok (.ldc2_w 259, 3) := dc_20 (a := 1) (b := 3) (by decide +kernel) rfl
theorem d_Mod_meanOf_8 : decode b_Mod_meanOf 8 = .ok (.lstore 7, 2) := dc_55 (a := 7) (by decide +kernel) rfl
theorem d_Mod_meanOf_10 : decode b_Mod_meanOf 10 = .ok (.iconst 0, 1) := dc_3 (by decide +kernel)
theorem d_Mod_meanOf_11 : decode b_Mod_meanOf 11 = .ok (.istore 9, 2) := dc_54 (a := 9) (by decide +kernel) rfl
theorem d_Mod_meanOf_13 : decode b_Mod_meanOf 13 = .ok (.iload 9, 2) := dc_21 (a := 9) (by decide +kernel) rfl
theorem d_Mod_meanOf_15 : decode b_Mod_meanOf 15 = .ok (.iload_n 1, 1) := dc_27 (by decide +kernel)
theorem d_Mod_meanOf_16 : decode b_Mod_meanOf 16 = .ok (.if_icmp .ge 74, 3) := dc_162 (a := 0) (b := 74) (by decide +kernel) rfl
theorem d_Mod_meanOf_19 : decode b_Mod_meanOf 19 = .ok (.lload 7, 2) := dc_22 (a := 7) (by decide +kernel) rfl
theorem d_Mod_meanOf_21 : decode b_Mod_meanOf 21 = .ok (.ldc2_w 213, 3) := dc_20 (a := 0) (b := 213) (by decide +kernel) rfl
theorem d_Mod_meanOf_24 : decode b_Mod_meanOf 24 = .ok (.ldiv, 1) := dc_109 (by decide +kernel)
theorem d_Mod_meanOf_25 : decode b_Mod_meanOf 25 = .ok (.lstore 7, 2) := dc_55 (a := 7) (by decide +kernel) rfl
theorem d_Mod_meanOf_27 : decode b_Mod_meanOf 27 = .ok (.aload_n 0, 1) := dc_42 (by decide +kernel)
theorem d_Mod_meanOf_28 : decode b_Mod_meanOf 28 = .ok (.getfield 7, 3) := dc_180 (a := 0) (b := 7) (by decide +kernel) rfl
theorem d_Mod_meanOf_31 : decode b_Mod_meanOf 31 = .ok (.bipush 32, 2) := dc_16 (a := 32) (by decide +kernel) rfl
theorem d_Mod_meanOf_33 : decode b_Mod_meanOf 33 = .ok (.aload_n 0, 1) := dc_42 (by decide +kernel)
theorem d_Mod_meanOf_34 : decode b_Mod_meanOf 34 = .ok (.getfield 29, 3) := dc_180 (a := 0) (b := 29) (by decide +kernel) rfl
theorem d_Mod_meanOf_37 : decode b_Mod_meanOf 37 = .ok (.iload 9, 2) := dc_21 (a := 9) (by decide +kernel) rfl
theorem d_Mod_meanOf_39 : decode b_Mod_meanOf 39 = .ok (.iaload, 1) := dc_46 (by decide +kernel)
theorem d_Mod_meanOf_40 : decode b_Mod_meanOf 40 = .ok (.iadd, 1) := dc_96 (by decide +kernel)
theorem d_Mod_meanOf_41 : decode b_Mod_meanOf 41 = .ok (.iaload, 1) := dc_46 (by decide +kernel)
theorem d_Mod_meanOf_42 : decode b_Mod_meanOf 42 = .ok (.i2l, 1) := dc_133 (by decide +kernel)
theorem d_Mod_meanOf_43 : decode b_Mod_meanOf 43 = .ok (.lstore 10, 2) := dc_55 (a := 10) (by decide +kernel) rfl
theorem d_Mod_meanOf_45 : decode b_Mod_meanOf 45 = .ok (.lload 5, 2) := dc_22 (a := 5) (by decide +kernel) rfl
theorem d_Mod_meanOf_47 : decode b_Mod_meanOf 47 = .ok (.lload_n 3, 1) := dc_33 (by decide +kernel)
theorem d_Mod_meanOf_48 : decode b_Mod_meanOf 48 = .ok (.lload 10, 2) := dc_22 (a := 10) (by decide +kernel) rfl
theorem d_Mod_meanOf_50 : decode b_Mod_meanOf 50 = .ok (.lmul, 1) := dc_105 (by decide +kernel)
theorem d_Mod_meanOf_51 : decode b_Mod_meanOf 51 = .ok (.lload 7, 2) := dc_22 (a := 7) (by decide +kernel) rfl
theorem d_Mod_meanOf_53 : decode b_Mod_meanOf 53 = .ok (.lmul, 1) := dc_105 (by decide +kernel)
theorem d_Mod_meanOf_54 : decode b_Mod_meanOf 54 = .ok (.aload_n 0, 1) := dc_42 (by decide +kernel)
theorem d_Mod_meanOf_55 : decode b_Mod_meanOf 55 = .ok (.getfield 90, 3) := dc_180 (a := 0) (b := 90) (by decide +kernel) rfl
theorem d_Mod_meanOf_58 : decode b_Mod_meanOf 58 = .ok (.aload_n 0, 1) := dc_42 (by decide +kernel)
theorem d_Mod_meanOf_59 : decode b_Mod_meanOf 59 = .ok (.getfield 87, 3) := dc_180 (a := 0) (b := 87) (by decide +kernel) rfl
theorem d_Mod_meanOf_62 : decode b_Mod_meanOf 62 = .ok (.iload_n 2, 1) := dc_28 (by decide +kernel)
theorem d_Mod_meanOf_63 : decode b_Mod_meanOf 63 = .ok (.imul, 1) := dc_104 (by decide +kernel)
theorem d_Mod_meanOf_64 : decode b_Mod_meanOf 64 = .ok (.iload 9, 2) := dc_21 (a := 9) (by decide +kernel) rfl
theorem d_Mod_meanOf_66 : decode b_Mod_meanOf 66 = .ok (.iconst 1, 1) := dc_4 (by decide +kernel)
theorem d_Mod_meanOf_67 : decode b_Mod_meanOf 67 = .ok (.iadd, 1) := dc_96 (by decide +kernel)
theorem d_Mod_meanOf_68 : decode b_Mod_meanOf 68 = .ok (.imul, 1) := dc_104 (by decide +kernel)
theorem d_Mod_meanOf_69 : decode b_Mod_meanOf 69 = .ok (.isub, 1) := dc_100 (by decide +kernel)
theorem d_Mod_meanOf_70 : decode b_Mod_meanOf 70 = .ok (.i2l, 1) := dc_133 (by decide +kernel)
theorem d_Mod_meanOf_71 : decode b_Mod_meanOf 71 = .ok (.lmul, 1) := dc_105 (by decide +kernel)
theorem d_Mod_meanOf_72 : decode b_Mod_meanOf 72 = .ok (.ladd, 1) := dc_97 (by decide +kernel)
theorem d_Mod_meanOf_73 : decode b_Mod_meanOf 73 = .ok (.lstore 5, 2) := dc_55 (a := 5) (by decide +kernel) rfl
theorem d_Mod_meanOf_75 : decode b_Mod_meanOf 75 = .ok (.lload_n 3, 1) := dc_33 (by decide +kernel)
theorem d_Mod_meanOf_76 : decode b_Mod_meanOf 76 = .ok (.ldc2_w 213, 3) := dc_20 (a := 0) (b := 213) (by decide +kernel) rfl
theorem d_Mod_meanOf_79 : decode b_Mod_meanOf 79 = .ok (.lload 10, 2) := dc_22 (a := 10) (by decide +kernel) rfl
theorem d_Mod_meanOf_81 : decode b_Mod_meanOf 81 = .ok (.lsub, 1) := dc_101 (by decide +kernel)
theorem d_Mod_meanOf_82 : decode b_Mod_meanOf 82 = .ok (.lmul, 1) := dc_105 (by decide +kernel)
theorem d_Mod_meanOf_83 : decode b_Mod_meanOf 83 = .ok (.lstore_n 3, 1) := dc_66 (by decide +kernel)
theorem d_Mod_meanOf_84 : decode b_Mod_meanOf 84 = .ok (.iinc 9 1, 3) := dc_132 (a := 9) (b := 1) (by decide +kernel) rfl
theorem d_Mod_meanOf_87 : decode b_Mod_meanOf 87 = .ok (.goto (-74), 3) := dc_167 (a := 255) (b := 182) (by decide +kernel) rfl
theorem d_Mod_meanOf_90 : decode b_Mod_meanOf 90 = .ok (.lload 5, 2) := dc_22 (a := 5) (by decide +kernel) rfl
theorem d_Mod_meanOf_92 : decode b_Mod_meanOf 92 = .ok (.lload_n 3, 1) := dc_33 (by decide +kernel)
theorem d_Mod_meanOf_93 : decode b_Mod_meanOf 93 = .ok (.lload 7, 2) := dc_22 (a := 7) (by decide +kernel) rfl
theorem d_Mod_meanOf_95 : decode b_Mod_meanOf 95 = .ok (.lmul, 1) := dc_105 (by decide +kernel)
theorem d_Mod_meanOf_96 : decode b_Mod_meanOf 96 = .ok (.aload_n 0, 1) := dc_42 (by decide +kernel)
theorem d_Mod_meanOf_97 : decode b_Mod_meanOf 97 = .ok (.getfield 87, 3) := dc_180 (a := 0) (b := 87) (by decide +kernel) rfl
theorem d_Mod_meanOf_100 : decode b_Mod_meanOf 100 = .ok (.i2l, 1) := dc_133 (by decide +kernel)
theorem d_Mod_meanOf_101 : decode b_Mod_meanOf 101 = .ok (.lmul, 1) := dc_105 (by decide +kernel)
theorem d_Mod_meanOf_102 : decode b_Mod_meanOf 102 = .ok (.iload_n 2, 1) := dc_28 (by decide +kernel)
theorem d_Mod_meanOf_103 : decode b_Mod_meanOf 103 = .ok (.i2l, 1) := dc_133 (by decide +kernel)
theorem d_Mod_meanOf_104 : decode b_Mod_meanOf 104 = .ok (.lmul, 1) := dc_105 (by decide +kernel)
theorem d_Mod_meanOf_105 : decode b_Mod_meanOf 105 = .ok (.iload_n 1, 1) := dc_27 (by decide +kernel)
theorem d_Mod_meanOf_106 : decode b_Mod_meanOf 106 = .ok (.i2l, 1) := dc_133 (by decide +kernel)
theorem d_Mod_meanOf_107 : decode b_Mod_meanOf 107 = .ok (.lmul, 1) := dc_105 (by decide +kernel)
theorem d_Mod_meanOf_108 : decode b_Mod_meanOf 108 = .ok (.lsub, 1) := dc_101 (by decide +kernel)
theorem d_Mod_meanOf_109 : decode b_Mod_meanOf 109 = .ok (.lreturn, 1) := dc_173 (by decide +kernel)
abbrev q_Mod_meanOf (h : Hp) (n : Int32) (nZ : Int) (d : Int32) (dZ : Int) : Option Value → Hp → Prop := pLng (fun r h' => h = h')
set_option maxRecDepth 100000 in
theorem c_Mod_meanOf (h : Hp) (hI : Inv h) (n : Int32) (nZ : Int) (nE : n.toInt = nZ) (d : Int32) (dZ : Int) (dE : d.toInt = dZ) (hy0 : 0 ≤ nZ ∧ nZ ≤ 4) : Ct y_Mod_meanOf b_Mod_meanOf 12 (some .long) 0 0 [.ref 116, .int n, .int d] h (q_Mod_meanOf h n nZ d dZ) := by
  refine ct_ow R_Mod [some (.ref 116), some (.int n), some (.int d), none, none, none, none, none, none, none, none, none] rfl (by decide) rfl (Nat.le_of_ble_eq_true rfl) ?_
  have f0 : fr [] h h := fr_rf
  refine V_lconst 1 d_Mod_meanOf_0 (by decide) ?_
  refine V_lstore_n 3 [some (.ref 116), some (.int n), some (.int d), some (.long 1), none, none, none, none, none, none, none, none] d_Mod_meanOf_1 rfl (by decide) rfl rfl ?_
  refine V_lconst 0 d_Mod_meanOf_2 (by decide) ?_
  refine V_lstore 5 [some (.ref 116), some (.int n), some (.int d), some (.long 1), none, some (.long 0), none, none, none, none, none, none] d_Mod_meanOf_3 (by decide) rfl rfl ?_
  refine V_ldc2 d_Mod_meanOf_5 wl_Mod_259 ?_
  refine V_lstore 7 [some (.ref 116), some (.int n), some (.int d), some (.long 1), none, some (.long 0), none, some (.long 10000), none, none, none, none] d_Mod_meanOf_8 (by decide) rfl rfl ?_
  refine V_iconst 0 d_Mod_meanOf_10 (by decide) ?_
  refine V_istore 9 [some (.ref 116), some (.int n), some (.int d), some (.long 1), none, some (.long 0), none, some (.long 10000), none, some (.int 0), none, none] d_Mod_meanOf_11 (by decide) rfl rfl ?_
  have L1 : ∀ (nn : Nat) (v3 : Int64) (v3Z : Int) (v4 : Int64) (v4Z : Int) (v5 : Int64) (v5Z : Int) (v6 : Int32) (v6Z : Int), v3.toInt = v3Z → v4.toInt = v4Z → v5.toInt = v5Z → v6.toInt = v6Z → 0 ≤ v6Z ∧ v6Z ≤ nZ → nZ - v6Z < (nn : Int) → V R_Mod b_Mod_meanOf 12 (some .long) 0 0 (q_Mod_meanOf h n nZ d dZ) h 13 [some (.ref 116), some (.int n), some (.int d), some (.long v3), none, some (.long v4), none, some (.long v5), none, some (.int v6), none, none] [] := by
    intro nn
    induction nn with
    | zero => intro v3 v3Z v4 v4Z v5 v5Z v6 v6Z v3E v4E v5E v6E q7 hm8; exact absurd hm8 (by (first | decide +kernel | omega))
    | succ nn ihL1 =>
      intro v3 v3Z v4 v4Z v5 v5Z v6 v6Z v3E v4E v5E v6E q7 hm8
      refine V_iload d_Mod_meanOf_13 rfl ?_
      refine V_iload_n 1 d_Mod_meanOf_15 rfl rfl ?_
      refine V_icmp_ge 90 v6E nE d_Mod_meanOf_16 (by decide) (fun c9 => ?_) (fun c9 => ?_)
      ·
        refine V_lload d_Mod_meanOf_90 rfl ?_
        refine V_lload_n 3 d_Mod_meanOf_92 rfl rfl ?_
        refine V_lload d_Mod_meanOf_93 rfl ?_
        refine N_lmul d_Mod_meanOf_95 (fun z10 z10Z z10E z10e => ?_)
        refine V_aload_n 0 d_Mod_meanOf_96 rfl rfl ?_
        refine N_getI fa_Mod_87 sk_116 rfl d_Mod_meanOf_97 (fun z11 z11Z z11E z11e => ?_)
        refine V_i2l d_Mod_meanOf_100 (fun z12 z12e z12E => ?_)
        have z12F : z12.toInt = z11Z := z12E.trans z11E
        refine N_lmul d_Mod_meanOf_101 (fun z13 z13Z z13E z13e => ?_)
        refine V_iload_n 2 d_Mod_meanOf_102 rfl rfl ?_
        refine V_i2l d_Mod_meanOf_103 (fun z14 z14e z14E => ?_)
        have z14F : z14.toInt = dZ := z14E.trans dE
        refine N_lmul d_Mod_meanOf_104 (fun z15 z15Z z15E z15e => ?_)
        refine V_iload_n 1 d_Mod_meanOf_105 rfl rfl ?_
        refine V_i2l d_Mod_meanOf_106 (fun z16 z16e z16E => ?_)
        have z16F : z16.toInt = nZ := z16E.trans nE
        refine N_lmul d_Mod_meanOf_107 (fun z17 z17Z z17E z17e => ?_)
        refine N_lsub d_Mod_meanOf_108 (fun z18 z18Z z18E z18e => ?_)
        exact V_lret rfl d_Mod_meanOf_109 ⟨z18, rfl, rfl⟩
      ·
        refine V_lload d_Mod_meanOf_19 rfl ?_
        refine V_ldc2 d_Mod_meanOf_21 wl_Mod_213 ?_
        refine N_ldiv (by decide) d_Mod_meanOf_24 (fun z19 z19Z z19E z19e => ?_)
        refine V_lstore 7 [some (.ref 116), some (.int n), some (.int d), some (.long v3), none, some (.long v4), none, some (.long z19), none, some (.int v6), none, none] d_Mod_meanOf_25 (by decide) rfl rfl ?_
        refine V_aload_n 0 d_Mod_meanOf_27 rfl rfl ?_
        refine V_getR fa_Mod_7 sk_116 rfl d_Mod_meanOf_28 ?_
        refine V_bipush 32 d_Mod_meanOf_31 (by decide) ?_
        refine V_aload_n 0 d_Mod_meanOf_33 rfl rfl ?_
        refine V_getR fa_Mod_29 sk_116 rfl d_Mod_meanOf_34 ?_
        refine V_iload d_Mod_meanOf_37 rfl ?_
        refine N_iald sk_123 v6E (by (first | decide +kernel | omega)) d_Mod_meanOf_39 (fun z20 z20Z z20E z20e => ?_)
        have g21 : -1 ≤ z20Z ∧ z20Z ≤ 16 := inv_at hI z20E z20e rfl
        refine V_iadd tc_32 z20E (by (first | decide +kernel | omega)) d_Mod_meanOf_40 (fun z22 z22e z22E => ?_)
        refine N_iald sk_117 z22E (by (first | decide +kernel | omega)) d_Mod_meanOf_41 (fun z23 z23Z z23E z23e => ?_)
        refine V_i2l d_Mod_meanOf_42 (fun z24 z24e z24E => ?_)
        have z24F : z24.toInt = z23Z := z24E.trans z23E
        refine V_lstore 10 [some (.ref 116), some (.int n), some (.int d), some (.long v3), none, some (.long v4), none, some (.long z19), none, some (.int v6), some (.long z24), none] d_Mod_meanOf_43 (by decide) rfl rfl ?_
        refine V_lload d_Mod_meanOf_45 rfl ?_
        refine V_lload_n 3 d_Mod_meanOf_47 rfl rfl ?_
        refine V_lload d_Mod_meanOf_48 rfl ?_
        refine N_lmul d_Mod_meanOf_50 (fun z25 z25Z z25E z25e => ?_)
        refine V_lload d_Mod_meanOf_51 rfl ?_
        refine N_lmul d_Mod_meanOf_53 (fun z26 z26Z z26E z26e => ?_)
        refine V_aload_n 0 d_Mod_meanOf_54 rfl rfl ?_
        refine N_getI fa_Mod_90 sk_116 rfl d_Mod_meanOf_55 (fun z27 z27Z z27E z27e => ?_)
        refine V_aload_n 0 d_Mod_meanOf_58 rfl rfl ?_
        refine N_getI fa_Mod_87 sk_116 rfl d_Mod_meanOf_59 (fun z28 z28Z z28E z28e => ?_)
        refine V_iload_n 2 d_Mod_meanOf_62 rfl rfl ?_
        refine N_imulw d_Mod_meanOf_63 (fun z29 z29Z z29E z29e => ?_)
        refine V_iload d_Mod_meanOf_64 rfl ?_
        refine V_iconst 1 d_Mod_meanOf_66 (by decide) ?_
        refine V_iadd v6E tc_1 (by (first | decide +kernel | omega)) d_Mod_meanOf_67 (fun z30 z30e z30E => ?_)
        refine N_imulw d_Mod_meanOf_68 (fun z31 z31Z z31E z31e => ?_)
        refine N_isubw d_Mod_meanOf_69 (fun z32 z32Z z32E z32e => ?_)
        refine V_i2l d_Mod_meanOf_70 (fun z33 z33e z33E => ?_)
        have z33F : z33.toInt = z32Z := z33E.trans z32E
        refine N_lmul d_Mod_meanOf_71 (fun z34 z34Z z34E z34e => ?_)
        refine N_ladd d_Mod_meanOf_72 (fun z35 z35Z z35E z35e => ?_)
        refine V_lstore 5 [some (.ref 116), some (.int n), some (.int d), some (.long v3), none, some (.long z35), none, some (.long z19), none, some (.int v6), some (.long z24), none] d_Mod_meanOf_73 (by decide) rfl rfl ?_
        refine V_lload_n 3 d_Mod_meanOf_75 rfl rfl ?_
        refine V_ldc2 d_Mod_meanOf_76 wl_Mod_213 ?_
        refine V_lload d_Mod_meanOf_79 rfl ?_
        refine N_lsub d_Mod_meanOf_81 (fun z36 z36Z z36E z36e => ?_)
        refine N_lmul d_Mod_meanOf_82 (fun z37 z37Z z37E z37e => ?_)
        refine V_lstore_n 3 [some (.ref 116), some (.int n), some (.int d), some (.long z37), none, some (.long z35), none, some (.long z19), none, some (.int v6), some (.long z24), none] d_Mod_meanOf_83 rfl (by decide) rfl rfl ?_
        obtain ⟨z38, z38E, z38e⟩ : ∃ y : Int32, y.toInt = v6Z + 1 ∧ y = v6 + Int32.ofInt 1 := ⟨_, ti_add v6E (by decide) (by (first | decide +kernel | omega)), rfl⟩
        refine V_iinc 9 [some (.ref 116), some (.int n), some (.int d), some (.long z37), none, some (.long z35), none, some (.long z19), none, some (.int z38), some (.long z24), none] d_Mod_meanOf_84 rfl z38e.symm (by decide) rfl rfl ?_
        refine V_goto 13 d_Mod_meanOf_87 (by decide) ?_
        refine V_drop 10 [some (.ref 116), some (.int n), some (.int d), some (.long z37), none, some (.long z35), none, some (.long z19), none, some (.int z38), none, none] rfl ?_
        exact ihL1 z37 z37Z z35 z35Z z19 z19Z z38 ((v6Z + 1)) z37E z35E z19E z38E (by (first | decide +kernel | omega)) (by (first | decide +kernel | omega))
  exact L1 (Int.toNat ((nZ - 0 : Int) + 1)) 1 1 0 0 10000 10000 0 0 tl_1 tl_0 tl_10000 tc_0 (by (first | decide +kernel | omega)) (by (first | decide +kernel | omega))
theorem d_Mod_isFree_0 : decode b_Mod_isFree 0 = .ok (.aload_n 0, 1) := dc_42 (by decide +kernel)
theorem d_Mod_isFree_1 : decode b_Mod_isFree 1 = .ok (.getfield 7, 3) := dc_180 (a := 0) (b := 7) (by decide +kernel) rfl
theorem d_Mod_isFree_4 : decode b_Mod_isFree 4 = .ok (.bipush 48, 2) := dc_16 (a := 48) (by decide +kernel) rfl
theorem d_Mod_isFree_6 : decode b_Mod_isFree 6 = .ok (.iload_n 2, 1) := dc_28 (by decide +kernel)
theorem d_Mod_isFree_7 : decode b_Mod_isFree 7 = .ok (.iadd, 1) := dc_96 (by decide +kernel)
theorem d_Mod_isFree_8 : decode b_Mod_isFree 8 = .ok (.iaload, 1) := dc_46 (by decide +kernel)
theorem d_Mod_isFree_9 : decode b_Mod_isFree 9 = .ok (.iload_n 1, 1) := dc_27 (by decide +kernel)
theorem d_Mod_isFree_10 : decode b_Mod_isFree 10 = .ok (.if_icmp .ne 19, 3) := dc_160 (a := 0) (b := 19) (by decide +kernel) rfl
theorem d_Mod_isFree_13 : decode b_Mod_isFree 13 = .ok (.aload_n 0, 1) := dc_42 (by decide +kernel)
theorem d_Mod_isFree_14 : decode b_Mod_isFree 14 = .ok (.getfield 7, 3) := dc_180 (a := 0) (b := 7) (by decide +kernel) rfl
theorem d_Mod_isFree_17 : decode b_Mod_isFree 17 = .ok (.bipush 64, 2) := dc_16 (a := 64) (by decide +kernel) rfl
theorem d_Mod_isFree_19 : decode b_Mod_isFree 19 = .ok (.iload_n 2, 1) := dc_28 (by decide +kernel)
theorem d_Mod_isFree_20 : decode b_Mod_isFree 20 = .ok (.iadd, 1) := dc_96 (by decide +kernel)
theorem d_Mod_isFree_21 : decode b_Mod_isFree 21 = .ok (.iaload, 1) := dc_46 (by decide +kernel)
theorem d_Mod_isFree_22 : decode b_Mod_isFree 22 = .ok (.ifCond .ne 7, 3) := dc_154 (a := 0) (b := 7) (by decide +kernel) rfl
theorem d_Mod_isFree_25 : decode b_Mod_isFree 25 = .ok (.iconst 1, 1) := dc_4 (by decide +kernel)
theorem d_Mod_isFree_26 : decode b_Mod_isFree 26 = .ok (.goto 4, 3) := dc_167 (a := 0) (b := 4) (by decide +kernel) rfl
theorem d_Mod_isFree_29 : decode b_Mod_isFree 29 = .ok (.iconst 0, 1) := dc_3 (by decide +kernel)
theorem d_Mod_isFree_30 : decode b_Mod_isFree 30 = .ok (.istore 4, 2) := dc_54 (a := 4) (by decide +kernel) rfl
theorem d_Mod_isFree_32 : decode b_Mod_isFree 32 = .ok (.iconst 0, 1) := dc_3 (by decide +kernel)
theorem d_Mod_isFree_33 : decode b_Mod_isFree 33 = .ok (.istore 5, 2) := dc_54 (a := 5) (by decide +kernel) rfl
theorem d_Mod_isFree_35 : decode b_Mod_isFree 35 = .ok (.iload 5, 2) := dc_21 (a := 5) (by decide +kernel) rfl
theorem d_Mod_isFree_37 : decode b_Mod_isFree 37 = .ok (.iload_n 3, 1) := dc_29 (by decide +kernel)
theorem d_Mod_isFree_38 : decode b_Mod_isFree 38 = .ok (.if_icmp .ge 32, 3) := dc_162 (a := 0) (b := 32) (by decide +kernel) rfl
theorem d_Mod_isFree_41 : decode b_Mod_isFree 41 = .ok (.iload 4, 2) := dc_21 (a := 4) (by decide +kernel) rfl
theorem d_Mod_isFree_43 : decode b_Mod_isFree 43 = .ok (.ifCond .eq 18, 3) := dc_153 (a := 0) (b := 18) (by decide +kernel) rfl
theorem d_Mod_isFree_46 : decode b_Mod_isFree 46 = .ok (.aload_n 0, 1) := dc_42 (by decide +kernel)
theorem d_Mod_isFree_47 : decode b_Mod_isFree 47 = .ok (.getfield 29, 3) := dc_180 (a := 0) (b := 29) (by decide +kernel) rfl
theorem d_Mod_isFree_50 : decode b_Mod_isFree 50 = .ok (.iload 5, 2) := dc_21 (a := 5) (by decide +kernel) rfl
theorem d_Mod_isFree_52 : decode b_Mod_isFree 52 = .ok (.iaload, 1) := dc_46 (by decide +kernel)
theorem d_Mod_isFree_53 : decode b_Mod_isFree 53 = .ok (.iload_n 2, 1) := dc_28 (by decide +kernel)
theorem d_Mod_isFree_54 : decode b_Mod_isFree 54 = .ok (.if_icmp .eq 7, 3) := dc_159 (a := 0) (b := 7) (by decide +kernel) rfl
theorem d_Mod_isFree_57 : decode b_Mod_isFree 57 = .ok (.iconst 1, 1) := dc_4 (by decide +kernel)
theorem d_Mod_isFree_58 : decode b_Mod_isFree 58 = .ok (.goto 4, 3) := dc_167 (a := 0) (b := 4) (by decide +kernel) rfl
theorem d_Mod_isFree_61 : decode b_Mod_isFree 61 = .ok (.iconst 0, 1) := dc_3 (by decide +kernel)
theorem d_Mod_isFree_62 : decode b_Mod_isFree 62 = .ok (.istore 4, 2) := dc_54 (a := 4) (by decide +kernel) rfl
theorem d_Mod_isFree_64 : decode b_Mod_isFree 64 = .ok (.iinc 5 1, 3) := dc_132 (a := 5) (b := 1) (by decide +kernel) rfl
theorem d_Mod_isFree_67 : decode b_Mod_isFree 67 = .ok (.goto (-32), 3) := dc_167 (a := 255) (b := 224) (by decide +kernel) rfl
theorem d_Mod_isFree_70 : decode b_Mod_isFree 70 = .ok (.iload 4, 2) := dc_21 (a := 4) (by decide +kernel) rfl
theorem d_Mod_isFree_72 : decode b_Mod_isFree 72 = .ok (.ireturn, 1) := dc_172 (by decide +kernel)
abbrev q_Mod_isFree (h : Hp) (o : Int32) (oZ : Int) (c : Int32) (cZ : Int) (n : Int32) (nZ : Int) : Option Value → Hp → Prop := pInt (fun r h' => h = h' ∧ (r.toInt = 0 ∨ r.toInt = 1))
set_option maxRecDepth 100000 in
theorem c_Mod_isFree (h : Hp) (hI : Inv h) (o : Int32) (oZ : Int) (oE : o.toInt = oZ) (c : Int32) (cZ : Int) (cE : c.toInt = cZ) (n : Int32) (nZ : Int) (nE : n.toInt = nZ) (hy0 : 0 ≤ cZ ∧ cZ ≤ 15) (hy1 : 0 ≤ nZ ∧ nZ ≤ 3) : Ct y_Mod_isFree b_Mod_isFree 6 (some .boolean) 0 0 [.ref 116, .int o, .int c, .int n] h (q_Mod_isFree h o oZ c cZ n nZ) := by
  refine ct_ow R_Mod [some (.ref 116), some (.int o), some (.int c), some (.int n), none, none] rfl (by decide) rfl (Nat.le_of_ble_eq_true rfl) ?_
  have f0 : fr [] h h := fr_rf
  have J1 : ∀ (v3 : Int32) (v3Z : Int), v3.toInt = v3Z → 0 ≤ v3Z ∧ v3Z ≤ 1 → V R_Mod b_Mod_isFree 6 (some .boolean) 0 0 (q_Mod_isFree h o oZ c cZ n nZ) h 32 [some (.ref 116), some (.int o), some (.int c), some (.int n), some (.int v3), none] [] := by
    intro v3 v3Z v3E q4
    refine V_iconst 0 d_Mod_isFree_32 (by decide) ?_
    refine V_istore 5 [some (.ref 116), some (.int o), some (.int c), some (.int n), some (.int v3), some (.int 0)] d_Mod_isFree_33 (by decide) rfl rfl ?_
    have L5 : ∀ (nn : Nat) (v7 : Int32) (v7Z : Int) (v8 : Int32) (v8Z : Int), v7.toInt = v7Z → v8.toInt = v8Z → 0 ≤ v7Z ∧ v7Z ≤ 1 → 0 ≤ v8Z ∧ v8Z ≤ nZ → nZ - v8Z < (nn : Int) → V R_Mod b_Mod_isFree 6 (some .boolean) 0 0 (q_Mod_isFree h o oZ c cZ n nZ) h 35 [some (.ref 116), some (.int o), some (.int c), some (.int n), some (.int v7), some (.int v8)] [] := by
      intro nn
      induction nn with
      | zero => intro v7 v7Z v8 v8Z v7E v8E q9 q10 hm11; exact absurd hm11 (by (first | decide +kernel | omega))
      | succ nn ihL5 =>
        intro v7 v7Z v8 v8Z v7E v8E q9 q10 hm11
        refine V_iload d_Mod_isFree_35 rfl ?_
        refine V_iload_n 3 d_Mod_isFree_37 rfl rfl ?_
        refine V_icmp_ge 70 v8E nE d_Mod_isFree_38 (by decide) (fun c12 => ?_) (fun c12 => ?_)
        ·
          refine V_iload d_Mod_isFree_70 rfl ?_
          exact V_zret rfl (by rw [v7E]; omega) d_Mod_isFree_72 ⟨v7, rfl, ⟨rfl, (by (try rw [v7E]); omega)⟩⟩
        ·
          refine V_iload d_Mod_isFree_41 rfl ?_
          refine V_if_eq 61 v7E d_Mod_isFree_43 (by decide) (fun c13 => ?_) (fun c13 => ?_)
          ·
            refine V_iconst 0 d_Mod_isFree_61 (by decide) ?_
            refine V_istore 4 [some (.ref 116), some (.int o), some (.int c), some (.int n), some (.int 0), some (.int v8)] d_Mod_isFree_62 (by decide) rfl rfl ?_
            obtain ⟨z14, z14E, z14e⟩ : ∃ y : Int32, y.toInt = v8Z + 1 ∧ y = v8 + Int32.ofInt 1 := ⟨_, ti_add v8E (by decide) (by (first | decide +kernel | omega)), rfl⟩
            refine V_iinc 5 [some (.ref 116), some (.int o), some (.int c), some (.int n), some (.int 0), some (.int z14)] d_Mod_isFree_64 rfl z14e.symm (by decide) rfl rfl ?_
            refine V_goto 35 d_Mod_isFree_67 (by decide) ?_
            exact ihL5 0 0 z14 ((v8Z + 1)) tc_0 z14E (by (first | decide +kernel | omega)) (by (first | decide +kernel | omega)) (by (first | decide +kernel | omega))
          ·
            refine V_aload_n 0 d_Mod_isFree_46 rfl rfl ?_
            refine V_getR fa_Mod_29 sk_116 rfl d_Mod_isFree_47 ?_
            refine V_iload d_Mod_isFree_50 rfl ?_
            refine N_iald sk_123 v8E (by (first | decide +kernel | omega)) d_Mod_isFree_52 (fun z15 z15Z z15E z15e => ?_)
            have g16 : -1 ≤ z15Z ∧ z15Z ≤ 16 := inv_at hI z15E z15e rfl
            refine V_iload_n 2 d_Mod_isFree_53 rfl rfl ?_
            refine V_icmp_eq 61 z15E cE d_Mod_isFree_54 (by decide) (fun c17 => ?_) (fun c17 => ?_)
            ·
              refine V_iconst 0 d_Mod_isFree_61 (by decide) ?_
              refine V_istore 4 [some (.ref 116), some (.int o), some (.int c), some (.int n), some (.int 0), some (.int v8)] d_Mod_isFree_62 (by decide) rfl rfl ?_
              obtain ⟨z18, z18E, z18e⟩ : ∃ y : Int32, y.toInt = v8Z + 1 ∧ y = v8 + Int32.ofInt 1 := ⟨_, ti_add v8E (by decide) (by (first | decide +kernel | omega)), rfl⟩
              refine V_iinc 5 [some (.ref 116), some (.int o), some (.int c), some (.int n), some (.int 0), some (.int z18)] d_Mod_isFree_64 rfl z18e.symm (by decide) rfl rfl ?_
              refine V_goto 35 d_Mod_isFree_67 (by decide) ?_
              exact ihL5 0 0 z18 ((v8Z + 1)) tc_0 z18E (by (first | decide +kernel | omega)) (by (first | decide +kernel | omega)) (by (first | decide +kernel | omega))
            ·
              refine V_iconst 1 d_Mod_isFree_57 (by decide) ?_
              refine V_goto 62 d_Mod_isFree_58 (by decide) ?_
              refine V_istore 4 [some (.ref 116), some (.int o), some (.int c), some (.int n), some (.int 1), some (.int v8)] d_Mod_isFree_62 (by decide) rfl rfl ?_
              obtain ⟨z19, z19E, z19e⟩ : ∃ y : Int32, y.toInt = v8Z + 1 ∧ y = v8 + Int32.ofInt 1 := ⟨_, ti_add v8E (by decide) (by (first | decide +kernel | omega)), rfl⟩
              refine V_iinc 5 [some (.ref 116), some (.int o), some (.int c), some (.int n), some (.int 1), some (.int z19)] d_Mod_isFree_64 rfl z19e.symm (by decide) rfl rfl ?_
              refine V_goto 35 d_Mod_isFree_67 (by decide) ?_
              exact ihL5 1 1 z19 ((v8Z + 1)) tc_1 z19E (by (first | decide +kernel | omega)) (by (first | decide +kernel | omega)) (by (first | decide +kernel | omega))
    exact L5 (Int.toNat ((nZ - 0 : Int) + 1)) v3 v3Z 0 0 v3E tc_0 (by (first | decide +kernel | omega)) (by (first | decide +kernel | omega)) (by (first | decide +kernel | omega))
  refine V_aload_n 0 d_Mod_isFree_0 rfl rfl ?_
  refine V_getR fa_Mod_7 sk_116 rfl d_Mod_isFree_1 ?_
  refine V_bipush 48 d_Mod_isFree_4 (by decide) ?_
  refine V_iload_n 2 d_Mod_isFree_6 rfl rfl ?_
  refine V_iadd tc_48 cE (by (first | decide +kernel | omega)) d_Mod_isFree_7 (fun z20 z20e z20E => ?_)
  refine N_iald sk_117 z20E (by (first | decide +kernel | omega)) d_Mod_isFree_8 (fun z21 z21Z z21E z21e => ?_)
  refine V_iload_n 1 d_Mod_isFree_9 rfl rfl ?_
  refine V_icmp_ne 29 z21E oE d_Mod_isFree_10 (by decide) (fun c22 => ?_) (fun c22 => ?_)
  ·
    refine V_iconst 0 d_Mod_isFree_29 (by decide) ?_
    refine V_istore 4 [some (.ref 116), some (.int o), some (.int c), some (.int n), some (.int 0), none] d_Mod_isFree_30 (by decide) rfl rfl ?_
    exact J1 0 0 tc_0 (by (first | decide +kernel | omega))
  ·
    refine V_aload_n 0 d_Mod_isFree_13 rfl rfl ?_
    refine V_getR fa_Mod_7 sk_116 rfl d_Mod_isFree_14 ?_
    refine V_bipush 64 d_Mod_isFree_17 (by decide) ?_
    refine V_iload_n 2 d_Mod_isFree_19 rfl rfl ?_
    refine V_iadd tc_64 cE (by (first | decide +kernel | omega)) d_Mod_isFree_20 (fun z23 z23e z23E => ?_)
    refine N_iald sk_117 z23E (by (first | decide +kernel | omega)) d_Mod_isFree_21 (fun z24 z24Z z24E z24e => ?_)
    refine V_if_ne 29 z24E d_Mod_isFree_22 (by decide) (fun c25 => ?_) (fun c25 => ?_)
    ·
      refine V_iconst 0 d_Mod_isFree_29 (by decide) ?_
      refine V_istore 4 [some (.ref 116), some (.int o), some (.int c), some (.int n), some (.int 0), none] d_Mod_isFree_30 (by decide) rfl rfl ?_
      exact J1 0 0 tc_0 (by (first | decide +kernel | omega))
    ·
      refine V_iconst 1 d_Mod_isFree_25 (by decide) ?_
      refine V_goto 30 d_Mod_isFree_26 (by decide) ?_
      refine V_istore 4 [some (.ref 116), some (.int o), some (.int c), some (.int n), some (.int 1), none] d_Mod_isFree_30 (by decide) rfl rfl ?_
      exact J1 1 1 tc_1 (by (first | decide +kernel | omega))
theorem d_Mod_common_0 : decode b_Mod_common 0 = .ok (.lload_n 0, 1) := dc_30 (by decide +kernel)
theorem d_Mod_common_1 : decode b_Mod_common 1 = .ok (.lstore 4, 2) := dc_55 (a := 4) (by decide +kernel) rfl
theorem d_Mod_common_3 : decode b_Mod_common 3 = .ok (.lload_n 2, 1) := dc_32 (by decide +kernel)
theorem d_Mod_common_4 : decode b_Mod_common 4 = .ok (.lstore 6, 2) := dc_55 (a := 6) (by decide +kernel) rfl
theorem d_Mod_common_6 : decode b_Mod_common 6 = .ok (.lload 6, 2) := dc_22 (a := 6) (by decide +kernel) rfl
theorem d_Mod_common_8 : decode b_Mod_common 8 = .ok (.lconst 0, 1) := dc_9 (by decide +kernel)
theorem d_Mod_common_9 : decode b_Mod_common 9 = .ok (.lcmp, 1) := dc_148 (by decide +kernel)
theorem d_Mod_common_10 : decode b_Mod_common 10 = .ok (.ifCond .eq 21, 3) := dc_153 (a := 0) (b := 21) (by decide +kernel) rfl
theorem d_Mod_common_13 : decode b_Mod_common 13 = .ok (.lload 4, 2) := dc_22 (a := 4) (by decide +kernel) rfl
theorem d_Mod_common_15 : decode b_Mod_common 15 = .ok (.lload 6, 2) := dc_22 (a := 6) (by decide +kernel) rfl
theorem d_Mod_common_17 : decode b_Mod_common 17 = .ok (.lrem, 1) := dc_113 (by decide +kernel)
theorem d_Mod_common_18 : decode b_Mod_common 18 = .ok (.lstore 8, 2) := dc_55 (a := 8) (by decide +kernel) rfl
theorem d_Mod_common_20 : decode b_Mod_common 20 = .ok (.lload 6, 2) := dc_22 (a := 6) (by decide +kernel) rfl
theorem d_Mod_common_22 : decode b_Mod_common 22 = .ok (.lstore 4, 2) := dc_55 (a := 4) (by decide +kernel) rfl
theorem d_Mod_common_24 : decode b_Mod_common 24 = .ok (.lload 8, 2) := dc_22 (a := 8) (by decide +kernel) rfl
theorem d_Mod_common_26 : decode b_Mod_common 26 = .ok (.lstore 6, 2) := dc_55 (a := 6) (by decide +kernel) rfl
theorem d_Mod_common_28 : decode b_Mod_common 28 = .ok (.goto (-22), 3) := dc_167 (a := 255) (b := 234) (by decide +kernel) rfl
theorem d_Mod_common_31 : decode b_Mod_common 31 = .ok (.lload 4, 2) := dc_22 (a := 4) (by decide +kernel) rfl
theorem d_Mod_common_33 : decode b_Mod_common 33 = .ok (.lreturn, 1) := dc_173 (by decide +kernel)
abbrev q_Mod_common (h : Hp) (a : Int64) (aZ : Int) (b : Int64) (bZ : Int) : Option Value → Hp → Prop := pLng (fun r h' => h = h' ∧ (1 ≤ r.toInt))
set_option maxRecDepth 100000 in
theorem c_Mod_common (h : Hp) (a : Int64) (aZ : Int) (aE : a.toInt = aZ) (b : Int64) (bZ : Int) (bE : b.toInt = bZ) (hy0 : 1 ≤ aZ ∧ 0 ≤ bZ) : Ct y_Mod_common b_Mod_common 10 (some .long) 0 0 [.long a, .long b] h (q_Mod_common h a aZ b bZ) := by
  refine ct_ow R_Mod [some (.long a), none, some (.long b), none, none, none, none, none, none, none] rfl (by decide) rfl (Nat.le_of_ble_eq_true rfl) ?_
  have f0 : fr [] h h := fr_rf
  refine V_lload_n 0 d_Mod_common_0 rfl rfl ?_
  refine V_lstore 4 [some (.long a), none, some (.long b), none, some (.long a), none, none, none, none, none] d_Mod_common_1 (by decide) rfl rfl ?_
  refine V_lload_n 2 d_Mod_common_3 rfl rfl ?_
  refine V_lstore 6 [some (.long a), none, some (.long b), none, some (.long a), none, some (.long b), none, none, none] d_Mod_common_4 (by decide) rfl rfl ?_
  have L1 : ∀ (nn : Nat) (v3 : Int64) (v3Z : Int) (v4 : Int64) (v4Z : Int), v3.toInt = v3Z → v4.toInt = v4Z → 1 ≤ v3Z ∧ 0 ≤ v4Z → v4Z < (nn : Int) → V R_Mod b_Mod_common 10 (some .long) 0 0 (q_Mod_common h a aZ b bZ) h 6 [some (.long a), none, some (.long b), none, some (.long v3), none, some (.long v4), none, none, none] [] := by
    intro nn
    induction nn with
    | zero => intro v3 v3Z v4 v4Z v3E v4E q5 hm6; exact absurd hm6 (by (first | decide +kernel | omega))
    | succ nn ihL1 =>
      intro v3 v3Z v4 v4Z v3E v4E q5 hm6
      refine V_lload d_Mod_common_6 rfl ?_
      refine V_lconst 0 d_Mod_common_8 (by decide) ?_
      refine N_lcmp d_Mod_common_9 (fun z7 z7Z z7E z7e => ?_)
      have g8 := lcmp_ti v4E tl_0 z7e z7E
      refine V_if_eq 31 z7E d_Mod_common_10 (by decide) (fun c9 => ?_) (fun c9 => ?_)
      ·
        refine V_lload d_Mod_common_31 rfl ?_
        exact V_lret rfl d_Mod_common_33 ⟨v3, rfl, ⟨rfl, (by (try rw [v3E]); omega)⟩⟩
      ·
        refine V_lload d_Mod_common_13 rfl ?_
        refine V_lload d_Mod_common_15 rfl ?_
        refine N_lrem (fun q => by have := (t64_eq v4E tl_0).mp q; omega) d_Mod_common_17 (fun z10 z10Z z10E z10e => ?_)
        have g11 : 0 ≤ z10Z ∧ z10Z < v4Z := by rw [← z10E, z10e, t64_rem v3E v4E (by (first | decide +kernel | omega)) (by (first | decide +kernel | omega))]; exact ⟨Int.emod_nonneg _ (by (first | decide +kernel | omega)), Int.emod_lt_of_pos _ (by (first | decide +kernel | omega))⟩
        refine V_lstore 8 [some (.long a), none, some (.long b), none, some (.long v3), none, some (.long v4), none, some (.long z10), none] d_Mod_common_18 (by decide) rfl rfl ?_
        refine V_lload d_Mod_common_20 rfl ?_
        refine V_lstore 4 [some (.long a), none, some (.long b), none, some (.long v4), none, some (.long v4), none, some (.long z10), none] d_Mod_common_22 (by decide) rfl rfl ?_
        refine V_lload d_Mod_common_24 rfl ?_
        refine V_lstore 6 [some (.long a), none, some (.long b), none, some (.long v4), none, some (.long z10), none, some (.long z10), none] d_Mod_common_26 (by decide) rfl rfl ?_
        refine V_goto 6 d_Mod_common_28 (by decide) ?_
        refine V_drop 8 [some (.long a), none, some (.long b), none, some (.long v4), none, some (.long z10), none, none, none] rfl ?_
        exact ihL1 v4 v4Z z10 z10Z v4E z10E (by (first | decide +kernel | omega)) (by (first | decide +kernel | omega))
  exact L1 (Int.toNat ((bZ : Int) + 1)) a aZ b bZ aE bE (by (first | decide +kernel | omega)) (by (first | decide +kernel | omega))
end
