section
theorem cb_Mod_meanOf : CB y_Mod_meanOf b_Mod_meanOf 12 (some .long) 2 := ⟨vv_Gin (List.mem_append_right _ (List.mem_append_right _ (List.mem_append_right _ (List.mem_append_right _ (List.mem_append_right _ (List.mem_append_right _ (List.mem_of_getElem? (i := 113) rfl))))))) rfl, by decide +kernel, vv_Gin (List.mem_append_right _ (List.mem_append_left _ (List.mem_of_getElem? (i := 13) rfl))) rfl⟩
theorem im_Mod_meanOf : Cond.instanceMethod y_Mod_meanOf ∈ vv_G := vv_Gin (List.mem_append_right _ (List.mem_append_right _ (List.mem_append_right _ (List.mem_append_right _ (List.mem_append_right _ (List.mem_append_right _ (List.mem_of_getElem? (i := 112) rfl))))))) rfl
theorem se_Mod_meanOf : Cond.selects y_Mod_meanOf.cls y_Mod_meanOf y_Mod_meanOf ∈ vv_G := vv_Gin (List.mem_append_left _ (List.mem_of_getElem? (i := 50) rfl)) rfl
theorem cv_Mod_264 : CV R_Mod 264 y_Mod_meanOf b_Mod_meanOf 12 (some .long) 2 := ⟨cb_Mod_meanOf, im_Mod_meanOf, se_Mod_meanOf, vv_Gin (List.mem_append_right _ (List.mem_append_right _ (List.mem_append_right _ (List.mem_append_right _ (List.mem_append_right _ (List.mem_append_right _ (List.mem_of_getElem? (i := 110) rfl))))))) rfl⟩
theorem fa_Mod_268 : FA R_Mod 268 11 26 := ⟨_, _, _, rfl, i_Mod, by decide, vv_Gin (List.mem_append_right _ (List.mem_append_right _ (List.mem_append_right _ (List.mem_append_right _ (List.mem_append_right _ (List.mem_append_left _ (List.mem_of_getElem? (i := 9) rfl))))))) rfl⟩
theorem fp_Mod_268 : FP R_Mod 268 11 26 .long := ⟨_, _, _, t_Mod, rfl, i_Mod, by decide, vv_Gin (List.mem_append_right _ (List.mem_append_right _ (List.mem_append_right _ (List.mem_append_right _ (List.mem_append_right _ (List.mem_append_left _ (List.mem_of_getElem? (i := 9) rfl))))))) rfl, t_Mod_ok, n_Mod, rfl, t_Mod_ok 26 (by decide)⟩
theorem fp_Mod_272 : FP R_Mod 272 11 25 .int := ⟨_, _, _, t_Mod, rfl, i_Mod, by decide, vv_Gin (List.mem_append_right _ (List.mem_append_right _ (List.mem_append_right _ (List.mem_append_right _ (List.mem_append_right _ (List.mem_append_left _ (List.mem_of_getElem? (i := 8) rfl))))))) rfl, t_Mod_ok, n_Mod, rfl, t_Mod_ok 25 (by decide)⟩
theorem fa_Mod_32 : FA R_Mod 32 11 24 := ⟨_, _, _, rfl, i_Mod, by decide, vv_Gin (List.mem_append_right _ (List.mem_append_right _ (List.mem_append_right _ (List.mem_append_right _ (List.mem_append_right _ (List.mem_append_left _ (List.mem_of_getElem? (i := 7) rfl))))))) rfl⟩
theorem cb_Mod_isFree : CB y_Mod_isFree b_Mod_isFree 6 (some .boolean) 3 := ⟨vv_Gin (List.mem_append_right _ (List.mem_append_right _ (List.mem_append_right _ (List.mem_append_right _ (List.mem_append_right _ (List.mem_append_right _ (List.mem_of_getElem? (i := 109) rfl))))))) rfl, by decide +kernel, vv_Gin (List.mem_append_right _ (List.mem_append_left _ (List.mem_of_getElem? (i := 13) rfl))) rfl⟩
theorem im_Mod_isFree : Cond.instanceMethod y_Mod_isFree ∈ vv_G := vv_Gin (List.mem_append_right _ (List.mem_append_right _ (List.mem_append_right _ (List.mem_append_right _ (List.mem_append_right _ (List.mem_append_right _ (List.mem_of_getElem? (i := 108) rfl))))))) rfl
theorem se_Mod_isFree : Cond.selects y_Mod_isFree.cls y_Mod_isFree y_Mod_isFree ∈ vv_G := vv_Gin (List.mem_append_left _ (List.mem_of_getElem? (i := 49) rfl)) rfl
theorem cv_Mod_261 : CV R_Mod 261 y_Mod_isFree b_Mod_isFree 6 (some .boolean) 3 := ⟨cb_Mod_isFree, im_Mod_isFree, se_Mod_isFree, vv_Gin (List.mem_append_right _ (List.mem_append_right _ (List.mem_append_right _ (List.mem_append_right _ (List.mem_append_right _ (List.mem_append_right _ (List.mem_of_getElem? (i := 106) rfl))))))) rfl⟩
theorem wl_Mod_277 : Cond.constantLong R_Mod 277 (-1) ∈ vv_G := vv_Gin (List.mem_append_right _ (List.mem_append_right _ (List.mem_append_right _ (List.mem_append_right _ (List.mem_append_right _ (List.mem_append_right _ (List.mem_of_getElem? (i := 101) (by decide +kernel)))))))) (by decide +kernel)
theorem cb_Mod_common : CB y_Mod_common b_Mod_common 10 (some .long) 2 := ⟨vv_Gin (List.mem_append_right _ (List.mem_append_right _ (List.mem_append_right _ (List.mem_append_right _ (List.mem_append_right _ (List.mem_append_right _ (List.mem_of_getElem? (i := 118) rfl))))))) rfl, by decide +kernel, vv_Gin (List.mem_append_right _ (List.mem_append_left _ (List.mem_of_getElem? (i := 13) rfl))) rfl⟩
theorem st_Mod_common : Cond.static y_Mod_common ∈ vv_G := vv_Gin (List.mem_append_right _ (List.mem_append_right _ (List.mem_append_right _ (List.mem_append_right _ (List.mem_append_right _ (List.mem_append_right _ (List.mem_of_getElem? (i := 117) rfl))))))) rfl
theorem cs_Mod_285 : CS R_Mod 285 y_Mod_common b_Mod_common 10 (some .long) 2 := ⟨cb_Mod_common, st_Mod_common, Or.inl (vv_Gin (List.mem_append_right _ (List.mem_append_right _ (List.mem_append_right _ (List.mem_append_right _ (List.mem_append_right _ (List.mem_append_right _ (List.mem_of_getElem? (i := 116) rfl))))))) rfl)⟩
theorem fa_Mod_272 : FA R_Mod 272 11 25 := ⟨_, _, _, rfl, i_Mod, by decide, vv_Gin (List.mem_append_right _ (List.mem_append_right _ (List.mem_append_right _ (List.mem_append_right _ (List.mem_append_right _ (List.mem_append_left _ (List.mem_of_getElem? (i := 8) rfl))))))) rfl⟩
theorem wl_Mod_283 : Cond.constantLong R_Mod 283 (-4) ∈ vv_G := vv_Gin (List.mem_append_right _ (List.mem_append_right _ (List.mem_append_right _ (List.mem_append_right _ (List.mem_append_right _ (List.mem_append_right _ (List.mem_of_getElem? (i := 115) (by decide +kernel)))))))) (by decide +kernel)
theorem cb_Mod_plansOf : CB y_Mod_plansOf b_Mod_plansOf 8 none 3 := ⟨vv_Gin (List.mem_append_right _ (List.mem_append_right _ (List.mem_append_right _ (List.mem_append_right _ (List.mem_append_right _ (List.mem_append_right _ (List.mem_of_getElem? (i := 105) rfl))))))) rfl, by decide +kernel, vv_Gin (List.mem_append_right _ (List.mem_append_left _ (List.mem_of_getElem? (i := 13) rfl))) rfl⟩
theorem im_Mod_plansOf : Cond.instanceMethod y_Mod_plansOf ∈ vv_G := vv_Gin (List.mem_append_right _ (List.mem_append_right _ (List.mem_append_right _ (List.mem_append_right _ (List.mem_append_right _ (List.mem_append_right _ (List.mem_of_getElem? (i := 104) rfl))))))) rfl
theorem se_Mod_plansOf : Cond.selects y_Mod_plansOf.cls y_Mod_plansOf y_Mod_plansOf ∈ vv_G := vv_Gin (List.mem_append_left _ (List.mem_of_getElem? (i := 48) rfl)) rfl
theorem cv_Mod_279 : CV R_Mod 279 y_Mod_plansOf b_Mod_plansOf 8 none 3 := ⟨cb_Mod_plansOf, im_Mod_plansOf, se_Mod_plansOf, vv_Gin (List.mem_append_right _ (List.mem_append_right _ (List.mem_append_right _ (List.mem_append_right _ (List.mem_append_right _ (List.mem_append_right _ (List.mem_of_getElem? (i := 102) rfl))))))) rfl⟩
theorem wl_Mod_275 : Cond.constantLong R_Mod 275 13 ∈ vv_G := vv_Gin (List.mem_append_right _ (List.mem_append_right _ (List.mem_append_right _ (List.mem_append_right _ (List.mem_append_right _ (List.mem_append_right _ (List.mem_of_getElem? (i := 100) (by decide +kernel)))))))) (by decide +kernel)
theorem tl_13 : (13 : Int64).toInt = 13 := rfl
theorem fa_Mod_35 : FA R_Mod 35 11 27 := ⟨_, _, _, rfl, i_Mod, by decide, vv_Gin (List.mem_append_right _ (List.mem_append_right _ (List.mem_append_right _ (List.mem_append_right _ (List.mem_append_right _ (List.mem_append_left _ (List.mem_of_getElem? (i := 10) rfl))))))) rfl⟩
theorem fa_Mod_289 : FA R_Mod 289 11 28 := ⟨_, _, _, rfl, i_Mod, by decide, vv_Gin (List.mem_append_right _ (List.mem_append_right _ (List.mem_append_right _ (List.mem_append_right _ (List.mem_append_right _ (List.mem_append_left _ (List.mem_of_getElem? (i := 11) rfl))))))) rfl⟩
theorem fp_Mod_289 : FP R_Mod 289 11 28 .int := ⟨_, _, _, t_Mod, rfl, i_Mod, by decide, vv_Gin (List.mem_append_right _ (List.mem_append_right _ (List.mem_append_right _ (List.mem_append_right _ (List.mem_append_right _ (List.mem_append_left _ (List.mem_of_getElem? (i := 11) rfl))))))) rfl, t_Mod_ok, n_Mod, rfl, t_Mod_ok 28 (by decide)⟩
theorem cb_Mod_addBed : CB y_Mod_addBed b_Mod_addBed 6 none 3 := ⟨vv_Gin (List.mem_append_right _ (List.mem_append_right _ (List.mem_append_right _ (List.mem_append_right _ (List.mem_append_right _ (List.mem_append_right _ (List.mem_of_getElem? (i := 130) rfl))))))) rfl, by decide +kernel, vv_Gin (List.mem_append_right _ (List.mem_append_left _ (List.mem_of_getElem? (i := 13) rfl))) rfl⟩
theorem im_Mod_addBed : Cond.instanceMethod y_Mod_addBed ∈ vv_G := vv_Gin (List.mem_append_right _ (List.mem_append_right _ (List.mem_append_right _ (List.mem_append_right _ (List.mem_append_right _ (List.mem_append_right _ (List.mem_of_getElem? (i := 129) rfl))))))) rfl
theorem se_Mod_addBed : Cond.selects y_Mod_addBed.cls y_Mod_addBed y_Mod_addBed ∈ vv_G := vv_Gin (List.mem_append_left _ (List.mem_of_getElem? (i := 52) rfl)) rfl
theorem cv_Mod_292 : CV R_Mod 292 y_Mod_addBed b_Mod_addBed 6 none 3 := ⟨cb_Mod_addBed, im_Mod_addBed, se_Mod_addBed, vv_Gin (List.mem_append_right _ (List.mem_append_right _ (List.mem_append_right _ (List.mem_append_right _ (List.mem_append_right _ (List.mem_append_right _ (List.mem_of_getElem? (i := 127) rfl))))))) rfl⟩
theorem cb_Mod_findBeds : CB y_Mod_findBeds b_Mod_findBeds 3 none 0 := ⟨vv_Gin (List.mem_append_right _ (List.mem_append_right _ (List.mem_append_right _ (List.mem_append_right _ (List.mem_append_right _ (List.mem_append_right _ (List.mem_of_getElem? (i := 126) rfl))))))) rfl, by decide +kernel, vv_Gin (List.mem_append_right _ (List.mem_append_left _ (List.mem_of_getElem? (i := 13) rfl))) rfl⟩
theorem im_Mod_findBeds : Cond.instanceMethod y_Mod_findBeds ∈ vv_G := vv_Gin (List.mem_append_right _ (List.mem_append_right _ (List.mem_append_right _ (List.mem_append_right _ (List.mem_append_right _ (List.mem_append_right _ (List.mem_of_getElem? (i := 125) rfl))))))) rfl
theorem se_Mod_findBeds : Cond.selects y_Mod_findBeds.cls y_Mod_findBeds y_Mod_findBeds ∈ vv_G := vv_Gin (List.mem_append_left _ (List.mem_of_getElem? (i := 51) rfl)) rfl
theorem cv_Mod_295 : CV R_Mod 295 y_Mod_findBeds b_Mod_findBeds 3 none 0 := ⟨cb_Mod_findBeds, im_Mod_findBeds, se_Mod_findBeds, vv_Gin (List.mem_append_right _ (List.mem_append_right _ (List.mem_append_right _ (List.mem_append_right _ (List.mem_append_right _ (List.mem_append_right _ (List.mem_of_getElem? (i := 123) rfl))))))) rfl⟩
theorem cb_Mod_doesBedFit : CB y_Mod_doesBedFit b_Mod_doesBedFit 6 (some .boolean) 2 := ⟨vv_Gin (List.mem_append_right _ (List.mem_append_right _ (List.mem_append_right _ (List.mem_append_right _ (List.mem_append_right _ (List.mem_append_right _ (List.mem_of_getElem? (i := 134) rfl))))))) rfl, by decide +kernel, vv_Gin (List.mem_append_right _ (List.mem_append_left _ (List.mem_of_getElem? (i := 13) rfl))) rfl⟩
theorem im_Mod_doesBedFit : Cond.instanceMethod y_Mod_doesBedFit ∈ vv_G := vv_Gin (List.mem_append_right _ (List.mem_append_right _ (List.mem_append_right _ (List.mem_append_right _ (List.mem_append_right _ (List.mem_append_right _ (List.mem_of_getElem? (i := 133) rfl))))))) rfl
theorem se_Mod_doesBedFit : Cond.selects y_Mod_doesBedFit.cls y_Mod_doesBedFit y_Mod_doesBedFit ∈ vv_G := vv_Gin (List.mem_append_left _ (List.mem_of_getElem? (i := 53) rfl)) rfl
theorem cv_Mod_298 : CV R_Mod 298 y_Mod_doesBedFit b_Mod_doesBedFit 6 (some .boolean) 2 := ⟨cb_Mod_doesBedFit, im_Mod_doesBedFit, se_Mod_doesBedFit, vv_Gin (List.mem_append_right _ (List.mem_append_right _ (List.mem_append_right _ (List.mem_append_right _ (List.mem_append_right _ (List.mem_append_right _ (List.mem_of_getElem? (i := 131) rfl))))))) rfl⟩
theorem cb_Mod_bedsBy : CB y_Mod_bedsBy b_Mod_bedsBy 8 (some .int) 3 := ⟨vv_Gin (List.mem_append_right _ (List.mem_append_right _ (List.mem_append_right _ (List.mem_append_right _ (List.mem_append_right _ (List.mem_append_right _ (List.mem_of_getElem? (i := 142) rfl))))))) rfl, by decide +kernel, vv_Gin (List.mem_append_right _ (List.mem_append_left _ (List.mem_of_getElem? (i := 13) rfl))) rfl⟩
theorem im_Mod_bedsBy : Cond.instanceMethod y_Mod_bedsBy ∈ vv_G := vv_Gin (List.mem_append_right _ (List.mem_append_right _ (List.mem_append_right _ (List.mem_append_right _ (List.mem_append_right _ (List.mem_append_right _ (List.mem_of_getElem? (i := 141) rfl))))))) rfl
theorem se_Mod_bedsBy : Cond.selects y_Mod_bedsBy.cls y_Mod_bedsBy y_Mod_bedsBy ∈ vv_G := vv_Gin (List.mem_append_left _ (List.mem_of_getElem? (i := 54) rfl)) rfl
theorem cv_Mod_301 : CV R_Mod 301 y_Mod_bedsBy b_Mod_bedsBy 8 (some .int) 3 := ⟨cb_Mod_bedsBy, im_Mod_bedsBy, se_Mod_bedsBy, vv_Gin (List.mem_append_right _ (List.mem_append_right _ (List.mem_append_right _ (List.mem_append_right _ (List.mem_append_right _ (List.mem_append_right _ (List.mem_of_getElem? (i := 139) rfl))))))) rfl⟩
theorem fa_Mod_38 : FA R_Mod 38 11 29 := ⟨_, _, _, rfl, i_Mod, by decide, vv_Gin (List.mem_append_right _ (List.mem_append_right _ (List.mem_append_right _ (List.mem_append_right _ (List.mem_append_right _ (List.mem_append_left _ (List.mem_of_getElem? (i := 12) rfl))))))) rfl⟩
theorem fa_Mod_305 : FA R_Mod 305 11 30 := ⟨_, _, _, rfl, i_Mod, by decide, vv_Gin (List.mem_append_right _ (List.mem_append_right _ (List.mem_append_right _ (List.mem_append_right _ (List.mem_append_right _ (List.mem_append_left _ (List.mem_of_getElem? (i := 13) rfl))))))) rfl⟩
theorem fp_Mod_305 : FP R_Mod 305 11 30 .int := ⟨_, _, _, t_Mod, rfl, i_Mod, by decide, vv_Gin (List.mem_append_right _ (List.mem_append_right _ (List.mem_append_right _ (List.mem_append_right _ (List.mem_append_right _ (List.mem_append_left _ (List.mem_of_getElem? (i := 13) rfl))))))) rfl, t_Mod_ok, n_Mod, rfl, t_Mod_ok 30 (by decide)⟩
theorem cb_Mod_fails : CB y_Mod_fails b_Mod_fails 7 (some .boolean) 2 := ⟨vv_Gin (List.mem_append_right _ (List.mem_append_right _ (List.mem_append_right _ (List.mem_append_right _ (List.mem_append_right _ (List.mem_append_right _ (List.mem_of_getElem? (i := 154) rfl))))))) rfl, by decide +kernel, vv_Gin (List.mem_append_right _ (List.mem_append_left _ (List.mem_of_getElem? (i := 13) rfl))) rfl⟩
theorem im_Mod_fails : Cond.instanceMethod y_Mod_fails ∈ vv_G := vv_Gin (List.mem_append_right _ (List.mem_append_right _ (List.mem_append_right _ (List.mem_append_right _ (List.mem_append_right _ (List.mem_append_right _ (List.mem_of_getElem? (i := 153) rfl))))))) rfl
theorem se_Mod_fails : Cond.selects y_Mod_fails.cls y_Mod_fails y_Mod_fails ∈ vv_G := vv_Gin (List.mem_append_left _ (List.mem_of_getElem? (i := 56) rfl)) rfl
theorem cv_Mod_308 : CV R_Mod 308 y_Mod_fails b_Mod_fails 7 (some .boolean) 2 := ⟨cb_Mod_fails, im_Mod_fails, se_Mod_fails, vv_Gin (List.mem_append_right _ (List.mem_append_right _ (List.mem_append_right _ (List.mem_append_right _ (List.mem_append_right _ (List.mem_append_right _ (List.mem_of_getElem? (i := 151) rfl))))))) rfl⟩
theorem cb_Mod_findCrash : CB y_Mod_findCrash b_Mod_findCrash 6 (some .int) 2 := ⟨vv_Gin (List.mem_append_right _ (List.mem_append_right _ (List.mem_append_right _ (List.mem_append_right _ (List.mem_append_right _ (List.mem_append_right _ (List.mem_of_getElem? (i := 150) rfl))))))) rfl, by decide +kernel, vv_Gin (List.mem_append_right _ (List.mem_append_left _ (List.mem_of_getElem? (i := 13) rfl))) rfl⟩
theorem im_Mod_findCrash : Cond.instanceMethod y_Mod_findCrash ∈ vv_G := vv_Gin (List.mem_append_right _ (List.mem_append_right _ (List.mem_append_right _ (List.mem_append_right _ (List.mem_append_right _ (List.mem_append_right _ (List.mem_of_getElem? (i := 149) rfl))))))) rfl
theorem se_Mod_findCrash : Cond.selects y_Mod_findCrash.cls y_Mod_findCrash y_Mod_findCrash ∈ vv_G := vv_Gin (List.mem_append_left _ (List.mem_of_getElem? (i := 55) rfl)) rfl
theorem cv_Mod_311 : CV R_Mod 311 y_Mod_findCrash b_Mod_findCrash 6 (some .int) 2 := ⟨cb_Mod_findCrash, im_Mod_findCrash, se_Mod_findCrash, vv_Gin (List.mem_append_right _ (List.mem_append_right _ (List.mem_append_right _ (List.mem_append_right _ (List.mem_append_right _ (List.mem_append_right _ (List.mem_of_getElem? (i := 147) rfl))))))) rfl⟩
theorem wl_Mod_314 : Cond.constantLong R_Mod 314 60 ∈ vv_G := vv_Gin (List.mem_append_right _ (List.mem_append_right _ (List.mem_append_right _ (List.mem_append_right _ (List.mem_append_right _ (List.mem_append_right _ (List.mem_of_getElem? (i := 163) (by decide +kernel)))))))) (by decide +kernel)
theorem tl_60 : (60 : Int64).toInt = 60 := rfl
theorem fa_Mod_41 : FA R_Mod 41 11 31 := ⟨_, _, _, rfl, i_Mod, by decide, vv_Gin (List.mem_append_right _ (List.mem_append_right _ (List.mem_append_right _ (List.mem_append_right _ (List.mem_append_right _ (List.mem_append_left _ (List.mem_of_getElem? (i := 14) rfl))))))) rfl⟩
theorem wc_Mod_316 : Cond.constant R_Mod 316 1103515245 ∈ vv_G := vv_Gin (List.mem_append_right _ (List.mem_append_right _ (List.mem_append_right _ (List.mem_append_right _ (List.mem_append_right _ (List.mem_append_right _ (List.mem_of_getElem? (i := 164) (by decide +kernel)))))))) (by decide +kernel)
theorem tc_144 : (144 : Int32).toInt = 144 := rfl
theorem fa_Mod_13 : FA R_Mod 13 11 1 := ⟨_, _, _, rfl, i_Mod, by decide, vv_Gin (List.mem_append_right _ (List.mem_append_right _ (List.mem_append_right _ (List.mem_append_right _ (List.mem_append_left _ (List.mem_of_getElem? (i := 224) rfl)))))) rfl⟩
theorem cb_Mod_copies : CB y_Mod_copies b_Mod_copies 4 none 2 := ⟨vv_Gin (List.mem_append_right _ (List.mem_append_right _ (List.mem_append_right _ (List.mem_append_right _ (List.mem_append_right _ (List.mem_append_right _ (List.mem_of_getElem? (i := 172) rfl))))))) rfl, by decide +kernel, vv_Gin (List.mem_append_right _ (List.mem_append_left _ (List.mem_of_getElem? (i := 13) rfl))) rfl⟩
theorem im_Mod_copies : Cond.instanceMethod y_Mod_copies ∈ vv_G := vv_Gin (List.mem_append_right _ (List.mem_append_right _ (List.mem_append_right _ (List.mem_append_right _ (List.mem_append_right _ (List.mem_append_right _ (List.mem_of_getElem? (i := 171) rfl))))))) rfl
theorem se_Mod_copies : Cond.selects y_Mod_copies.cls y_Mod_copies y_Mod_copies ∈ vv_G := vv_Gin (List.mem_append_left _ (List.mem_of_getElem? (i := 57) rfl)) rfl
theorem cv_Mod_317 : CV R_Mod 317 y_Mod_copies b_Mod_copies 4 none 2 := ⟨cb_Mod_copies, im_Mod_copies, se_Mod_copies, vv_Gin (List.mem_append_right _ (List.mem_append_right _ (List.mem_append_right _ (List.mem_append_right _ (List.mem_append_right _ (List.mem_append_right _ (List.mem_of_getElem? (i := 169) rfl))))))) rfl⟩
theorem wl_Mod_320 : Cond.constantLong R_Mod 320 2 ∈ vv_G := vv_Gin (List.mem_append_right _ (List.mem_append_right _ (List.mem_append_right _ (List.mem_append_right _ (List.mem_append_right _ (List.mem_append_right _ (List.mem_of_getElem? (i := 184) (by decide +kernel)))))))) (by decide +kernel)
theorem tl_2 : (2 : Int64).toInt = 2 := rfl
theorem cb_Mod_isSheet : CB y_Mod_isSheet b_Mod_isSheet 2 (some .boolean) 2 := ⟨vv_Gin (List.mem_append_right _ (List.mem_append_right _ (List.mem_append_right _ (List.mem_append_right _ (List.mem_append_right _ (List.mem_append_right _ (List.mem_of_getElem? (i := 183) rfl))))))) rfl, by decide +kernel, vv_Gin (List.mem_append_right _ (List.mem_append_left _ (List.mem_of_getElem? (i := 13) rfl))) rfl⟩
theorem st_Mod_isSheet : Cond.static y_Mod_isSheet ∈ vv_G := vv_Gin (List.mem_append_right _ (List.mem_append_right _ (List.mem_append_right _ (List.mem_append_right _ (List.mem_append_right _ (List.mem_append_right _ (List.mem_of_getElem? (i := 182) rfl))))))) rfl
theorem cs_Mod_322 : CS R_Mod 322 y_Mod_isSheet b_Mod_isSheet 2 (some .boolean) 2 := ⟨cb_Mod_isSheet, st_Mod_isSheet, Or.inl (vv_Gin (List.mem_append_right _ (List.mem_append_right _ (List.mem_append_right _ (List.mem_append_right _ (List.mem_append_right _ (List.mem_append_right _ (List.mem_of_getElem? (i := 181) rfl))))))) rfl)⟩
theorem tc_40 : (40 : Int32).toInt = 40 := rfl
theorem fa_Mod_44 : FA R_Mod 44 11 32 := ⟨_, _, _, rfl, i_Mod, by decide, vv_Gin (List.mem_append_right _ (List.mem_append_right _ (List.mem_append_right _ (List.mem_append_right _ (List.mem_append_right _ (List.mem_append_left _ (List.mem_of_getElem? (i := 15) rfl))))))) rfl⟩
theorem fa_Mod_47 : FA R_Mod 47 11 33 := ⟨_, _, _, rfl, i_Mod, by decide, vv_Gin (List.mem_append_right _ (List.mem_append_right _ (List.mem_append_right _ (List.mem_append_right _ (List.mem_append_right _ (List.mem_append_left _ (List.mem_of_getElem? (i := 16) rfl))))))) rfl⟩
theorem fa_Mod_50 : FA R_Mod 50 11 34 := ⟨_, _, _, rfl, i_Mod, by decide, vv_Gin (List.mem_append_right _ (List.mem_append_right _ (List.mem_append_right _ (List.mem_append_right _ (List.mem_append_right _ (List.mem_append_left _ (List.mem_of_getElem? (i := 17) rfl))))))) rfl⟩
theorem tc_m14 : ((-14) : Int32).toInt = (-14) := rfl
theorem tc_m12 : ((-12) : Int32).toInt = (-12) := rfl
theorem tc_m11 : ((-11) : Int32).toInt = (-11) := rfl
theorem tc_20 : (20 : Int32).toInt = 20 := rfl
theorem fp_Mod_328 : FP R_Mod 328 11 35 .int := ⟨_, _, _, t_Mod, rfl, i_Mod, by decide, vv_Gin (List.mem_append_right _ (List.mem_append_right _ (List.mem_append_right _ (List.mem_append_right _ (List.mem_append_right _ (List.mem_append_left _ (List.mem_of_getElem? (i := 18) rfl))))))) rfl, t_Mod_ok, n_Mod, rfl, t_Mod_ok 35 (by decide)⟩
theorem cb_Mod_bore : CB y_Mod_bore b_Mod_bore 9 (some .int) 3 := ⟨vv_Gin (List.mem_append_right _ (List.mem_append_right _ (List.mem_append_right _ (List.mem_append_right _ (List.mem_append_right _ (List.mem_append_right _ (List.mem_of_getElem? (i := 95) rfl))))))) rfl, by decide +kernel, vv_Gin (List.mem_append_right _ (List.mem_append_left _ (List.mem_of_getElem? (i := 13) rfl))) rfl⟩
theorem im_Mod_bore : Cond.instanceMethod y_Mod_bore ∈ vv_G := vv_Gin (List.mem_append_right _ (List.mem_append_right _ (List.mem_append_right _ (List.mem_append_right _ (List.mem_append_right _ (List.mem_append_right _ (List.mem_of_getElem? (i := 93) rfl))))))) rfl
theorem se_Mod_bore : Cond.selects y_Mod_bore.cls y_Mod_bore y_Mod_bore ∈ vv_G := vv_Gin (List.mem_append_right _ (List.mem_append_right _ (List.mem_append_right _ (List.mem_append_right _ (List.mem_append_right _ (List.mem_append_right _ (List.mem_of_getElem? (i := 94) rfl))))))) rfl
theorem cv_Mod_325 : CV R_Mod 325 y_Mod_bore b_Mod_bore 9 (some .int) 3 := ⟨cb_Mod_bore, im_Mod_bore, se_Mod_bore, vv_Gin (List.mem_append_right _ (List.mem_append_right _ (List.mem_append_right _ (List.mem_append_right _ (List.mem_append_right _ (List.mem_append_right _ (List.mem_of_getElem? (i := 193) rfl))))))) rfl⟩
theorem tc_m20 : ((-20) : Int32).toInt = (-20) := rfl
theorem fa_Mod_53 : FA R_Mod 53 11 36 := ⟨_, _, _, rfl, i_Mod, by decide, vv_Gin (List.mem_append_right _ (List.mem_append_right _ (List.mem_append_right _ (List.mem_append_right _ (List.mem_append_right _ (List.mem_append_left _ (List.mem_of_getElem? (i := 19) rfl))))))) rfl⟩
theorem d_Mod_plansOf_0 : decode b_Mod_plansOf 0 = .ok (.iconst 0, 1) := dc_3 (by decide +kernel)
theorem d_Mod_plansOf_1 : decode b_Mod_plansOf 1 = .ok (.istore 4, 2) := dc_54 (a := 4) (by decide +kernel) rfl
theorem d_Mod_plansOf_3 : decode b_Mod_plansOf 3 = .ok (.aload_n 0, 1) := dc_42 (by decide +kernel)
theorem d_Mod_plansOf_4 : decode b_Mod_plansOf 4 = .ok (.getfield 29, 3) := dc_180 (a := 0) (b := 29) (by decide +kernel) rfl
theorem d_Mod_plansOf_7 : decode b_Mod_plansOf 7 = .ok (.iconst 0, 1) := dc_3 (by decide +kernel)
theorem d_Mod_plansOf_8 : decode b_Mod_plansOf 8 = .ok (.iconst (-1), 1) := dc_2 (by decide +kernel)
theorem d_Mod_plansOf_9 : decode b_Mod_plansOf 9 = .ok (.iastore, 1) := dc_79 (by decide +kernel)
theorem d_Mod_plansOf_10 : decode b_Mod_plansOf 10 = .ok (.iload 4, 2) := dc_21 (a := 4) (by decide +kernel) rfl
theorem d_Mod_plansOf_12 : decode b_Mod_plansOf 12 = .ok (.ifCond .lt 162, 3) := dc_155 (a := 0) (b := 162) (by decide +kernel) rfl
theorem d_Mod_plansOf_15 : decode b_Mod_plansOf 15 = .ok (.aload_n 0, 1) := dc_42 (by decide +kernel)
theorem d_Mod_plansOf_16 : decode b_Mod_plansOf 16 = .ok (.getfield 29, 3) := dc_180 (a := 0) (b := 29) (by decide +kernel) rfl
theorem d_Mod_plansOf_19 : decode b_Mod_plansOf 19 = .ok (.iload 4, 2) := dc_21 (a := 4) (by decide +kernel) rfl
theorem d_Mod_plansOf_21 : decode b_Mod_plansOf 21 = .ok (.dup2, 1) := dc_92 (by decide +kernel)
theorem d_Mod_plansOf_22 : decode b_Mod_plansOf 22 = .ok (.iaload, 1) := dc_46 (by decide +kernel)
theorem d_Mod_plansOf_23 : decode b_Mod_plansOf 23 = .ok (.iconst 1, 1) := dc_4 (by decide +kernel)
theorem d_Mod_plansOf_24 : decode b_Mod_plansOf 24 = .ok (.iadd, 1) := dc_96 (by decide +kernel)
theorem d_Mod_plansOf_25 : decode b_Mod_plansOf 25 = .ok (.iastore, 1) := dc_79 (by decide +kernel)
theorem d_Mod_plansOf_26 : decode b_Mod_plansOf 26 = .ok (.aload_n 0, 1) := dc_42 (by decide +kernel)
theorem d_Mod_plansOf_27 : decode b_Mod_plansOf 27 = .ok (.getfield 29, 3) := dc_180 (a := 0) (b := 29) (by decide +kernel) rfl
theorem d_Mod_plansOf_30 : decode b_Mod_plansOf 30 = .ok (.iload 4, 2) := dc_21 (a := 4) (by decide +kernel) rfl
theorem d_Mod_plansOf_32 : decode b_Mod_plansOf 32 = .ok (.iaload, 1) := dc_46 (by decide +kernel)
theorem d_Mod_plansOf_33 : decode b_Mod_plansOf 33 = .ok (.aload_n 0, 1) := dc_42 (by decide +kernel)
theorem d_Mod_plansOf_34 : decode b_Mod_plansOf 34 = .ok (.invokevirtual 183, 3) := dc_182 (a := 0) (b := 183) (by decide +kernel) rfl
theorem d_Mod_plansOf_37 : decode b_Mod_plansOf 37 = .ok (.if_icmp .ge 34, 3) := dc_162 (a := 0) (b := 34) (by decide +kernel) rfl
theorem d_Mod_plansOf_40 : decode b_Mod_plansOf 40 = .ok (.aload_n 0, 1) := dc_42 (by decide +kernel)
theorem d_Mod_plansOf_41 : decode b_Mod_plansOf 41 = .ok (.iload_n 1, 1) := dc_27 (by decide +kernel)
theorem d_Mod_plansOf_42 : decode b_Mod_plansOf 42 = .ok (.aload_n 0, 1) := dc_42 (by decide +kernel)
theorem d_Mod_plansOf_43 : decode b_Mod_plansOf 43 = .ok (.getfield 29, 3) := dc_180 (a := 0) (b := 29) (by decide +kernel) rfl
theorem d_Mod_plansOf_46 : decode b_Mod_plansOf 46 = .ok (.iload 4, 2) := dc_21 (a := 4) (by decide +kernel) rfl
theorem d_Mod_plansOf_48 : decode b_Mod_plansOf 48 = .ok (.iaload, 1) := dc_46 (by decide +kernel)
theorem d_Mod_plansOf_49 : decode b_Mod_plansOf 49 = .ok (.iload 4, 2) := dc_21 (a := 4) (by decide +kernel) rfl
theorem d_Mod_plansOf_51 : decode b_Mod_plansOf 51 = .ok (.invokevirtual 261, 3) := dc_182 (a := 1) (b := 5) (by decide +kernel) rfl
theorem d_Mod_plansOf_54 : decode b_Mod_plansOf 54 = .ok (.ifCond .ne 17, 3) := dc_154 (a := 0) (b := 17) (by decide +kernel) rfl
theorem d_Mod_plansOf_57 : decode b_Mod_plansOf 57 = .ok (.aload_n 0, 1) := dc_42 (by decide +kernel)
theorem d_Mod_plansOf_58 : decode b_Mod_plansOf 58 = .ok (.getfield 29, 3) := dc_180 (a := 0) (b := 29) (by decide +kernel) rfl
theorem d_Mod_plansOf_61 : decode b_Mod_plansOf 61 = .ok (.iload 4, 2) := dc_21 (a := 4) (by decide +kernel) rfl
theorem d_Mod_plansOf_63 : decode b_Mod_plansOf 63 = .ok (.dup2, 1) := dc_92 (by decide +kernel)
theorem d_Mod_plansOf_64 : decode b_Mod_plansOf 64 = .ok (.iaload, 1) := dc_46 (by decide +kernel)
theorem d_Mod_plansOf_65 : decode b_Mod_plansOf 65 = .ok (.iconst 1, 1) := dc_4 (by decide +kernel)
theorem d_Mod_plansOf_66 : decode b_Mod_plansOf 66 = .ok (.iadd, 1) := dc_96 (by decide +kernel)
theorem d_Mod_plansOf_67 : decode b_Mod_plansOf 67 = .ok (.iastore, 1) := dc_79 (by decide +kernel)
theorem d_Mod_plansOf_68 : decode b_Mod_plansOf 68 = .ok (.goto (-42), 3) := dc_167 (a := 255) (b := 214) (by decide +kernel) rfl
theorem d_Mod_plansOf_71 : decode b_Mod_plansOf 71 = .ok (.aload_n 0, 1) := dc_42 (by decide +kernel)
theorem d_Mod_plansOf_72 : decode b_Mod_plansOf 72 = .ok (.getfield 29, 3) := dc_180 (a := 0) (b := 29) (by decide +kernel) rfl
theorem d_Mod_plansOf_75 : decode b_Mod_plansOf 75 = .ok (.iload 4, 2) := dc_21 (a := 4) (by decide +kernel) rfl
theorem d_Mod_plansOf_77 : decode b_Mod_plansOf 77 = .ok (.iaload, 1) := dc_46 (by decide +kernel)
theorem d_Mod_plansOf_78 : decode b_Mod_plansOf 78 = .ok (.aload_n 0, 1) := dc_42 (by decide +kernel)
theorem d_Mod_plansOf_79 : decode b_Mod_plansOf 79 = .ok (.invokevirtual 183, 3) := dc_182 (a := 0) (b := 183) (by decide +kernel) rfl
theorem d_Mod_plansOf_82 : decode b_Mod_plansOf 82 = .ok (.if_icmp .lt 9, 3) := dc_161 (a := 0) (b := 9) (by decide +kernel) rfl
theorem d_Mod_plansOf_85 : decode b_Mod_plansOf 85 = .ok (.iinc 4 (-1), 3) := dc_132 (a := 4) (b := 255) (by decide +kernel) rfl
theorem d_Mod_plansOf_88 : decode b_Mod_plansOf 88 = .ok (.goto (-78), 3) := dc_167 (a := 255) (b := 178) (by decide +kernel) rfl
theorem d_Mod_plansOf_91 : decode b_Mod_plansOf 91 = .ok (.iload 4, 2) := dc_21 (a := 4) (by decide +kernel) rfl
theorem d_Mod_plansOf_93 : decode b_Mod_plansOf 93 = .ok (.iload_n 3, 1) := dc_29 (by decide +kernel)
theorem d_Mod_plansOf_94 : decode b_Mod_plansOf 94 = .ok (.iconst 1, 1) := dc_4 (by decide +kernel)
theorem d_Mod_plansOf_95 : decode b_Mod_plansOf 95 = .ok (.isub, 1) := dc_100 (by decide +kernel)
theorem d_Mod_plansOf_96 : decode b_Mod_plansOf 96 = .ok (.if_icmp .ge 17, 3) := dc_162 (a := 0) (b := 17) (by decide +kernel) rfl
theorem d_Mod_plansOf_99 : decode b_Mod_plansOf 99 = .ok (.iinc 4 1, 3) := dc_132 (a := 4) (b := 1) (by decide +kernel) rfl
theorem d_Mod_plansOf_102 : decode b_Mod_plansOf 102 = .ok (.aload_n 0, 1) := dc_42 (by decide +kernel)
theorem d_Mod_plansOf_103 : decode b_Mod_plansOf 103 = .ok (.getfield 29, 3) := dc_180 (a := 0) (b := 29) (by decide +kernel) rfl
theorem d_Mod_plansOf_106 : decode b_Mod_plansOf 106 = .ok (.iload 4, 2) := dc_21 (a := 4) (by decide +kernel) rfl
theorem d_Mod_plansOf_108 : decode b_Mod_plansOf 108 = .ok (.iconst (-1), 1) := dc_2 (by decide +kernel)
theorem d_Mod_plansOf_109 : decode b_Mod_plansOf 109 = .ok (.iastore, 1) := dc_79 (by decide +kernel)
theorem d_Mod_plansOf_110 : decode b_Mod_plansOf 110 = .ok (.goto (-100), 3) := dc_167 (a := 255) (b := 156) (by decide +kernel) rfl
theorem d_Mod_plansOf_113 : decode b_Mod_plansOf 113 = .ok (.aload_n 0, 1) := dc_42 (by decide +kernel)
theorem d_Mod_plansOf_114 : decode b_Mod_plansOf 114 = .ok (.iload_n 3, 1) := dc_29 (by decide +kernel)
theorem d_Mod_plansOf_115 : decode b_Mod_plansOf 115 = .ok (.iload_n 2, 1) := dc_28 (by decide +kernel)
theorem d_Mod_plansOf_116 : decode b_Mod_plansOf 116 = .ok (.invokevirtual 264, 3) := dc_182 (a := 1) (b := 8) (by decide +kernel) rfl
theorem d_Mod_plansOf_119 : decode b_Mod_plansOf 119 = .ok (.lstore 5, 2) := dc_55 (a := 5) (by decide +kernel) rfl
theorem d_Mod_plansOf_121 : decode b_Mod_plansOf 121 = .ok (.lload 5, 2) := dc_22 (a := 5) (by decide +kernel) rfl
theorem d_Mod_plansOf_123 : decode b_Mod_plansOf 123 = .ok (.aload_n 0, 1) := dc_42 (by decide +kernel)
theorem d_Mod_plansOf_124 : decode b_Mod_plansOf 124 = .ok (.getfield 268, 3) := dc_180 (a := 1) (b := 12) (by decide +kernel) rfl
theorem d_Mod_plansOf_127 : decode b_Mod_plansOf 127 = .ok (.lcmp, 1) := dc_148 (by decide +kernel)
theorem d_Mod_plansOf_128 : decode b_Mod_plansOf 128 = .ok (.ifCond .le 43, 3) := dc_158 (a := 0) (b := 43) (by decide +kernel) rfl
theorem d_Mod_plansOf_131 : decode b_Mod_plansOf 131 = .ok (.aload_n 0, 1) := dc_42 (by decide +kernel)
theorem d_Mod_plansOf_132 : decode b_Mod_plansOf 132 = .ok (.lload 5, 2) := dc_22 (a := 5) (by decide +kernel) rfl
theorem d_Mod_plansOf_134 : decode b_Mod_plansOf 134 = .ok (.putfield 268, 3) := dc_181 (a := 1) (b := 12) (by decide +kernel) rfl
theorem d_Mod_plansOf_137 : decode b_Mod_plansOf 137 = .ok (.aload_n 0, 1) := dc_42 (by decide +kernel)
theorem d_Mod_plansOf_138 : decode b_Mod_plansOf 138 = .ok (.iload_n 3, 1) := dc_29 (by decide +kernel)
theorem d_Mod_plansOf_139 : decode b_Mod_plansOf 139 = .ok (.putfield 272, 3) := dc_181 (a := 1) (b := 16) (by decide +kernel) rfl
theorem d_Mod_plansOf_142 : decode b_Mod_plansOf 142 = .ok (.iconst 0, 1) := dc_3 (by decide +kernel)
theorem d_Mod_plansOf_143 : decode b_Mod_plansOf 143 = .ok (.istore 7, 2) := dc_54 (a := 7) (by decide +kernel) rfl
theorem d_Mod_plansOf_145 : decode b_Mod_plansOf 145 = .ok (.iload 7, 2) := dc_21 (a := 7) (by decide +kernel) rfl
theorem d_Mod_plansOf_147 : decode b_Mod_plansOf 147 = .ok (.iload_n 3, 1) := dc_29 (by decide +kernel)
theorem d_Mod_plansOf_148 : decode b_Mod_plansOf 148 = .ok (.if_icmp .ge 23, 3) := dc_162 (a := 0) (b := 23) (by decide +kernel) rfl
theorem d_Mod_plansOf_151 : decode b_Mod_plansOf 151 = .ok (.aload_n 0, 1) := dc_42 (by decide +kernel)
theorem d_Mod_plansOf_152 : decode b_Mod_plansOf 152 = .ok (.getfield 32, 3) := dc_180 (a := 0) (b := 32) (by decide +kernel) rfl
theorem d_Mod_plansOf_155 : decode b_Mod_plansOf 155 = .ok (.iload 7, 2) := dc_21 (a := 7) (by decide +kernel) rfl
theorem d_Mod_plansOf_157 : decode b_Mod_plansOf 157 = .ok (.aload_n 0, 1) := dc_42 (by decide +kernel)
theorem d_Mod_plansOf_158 : decode b_Mod_plansOf 158 = .ok (.getfield 29, 3) := dc_180 (a := 0) (b := 29) (by decide +kernel) rfl
theorem d_Mod_plansOf_161 : decode b_Mod_plansOf 161 = .ok (.iload 7, 2) := dc_21 (a := 7) (by decide +kernel) rfl
theorem d_Mod_plansOf_163 : decode b_Mod_plansOf 163 = .ok (.iaload, 1) := dc_46 (by decide +kernel)
theorem d_Mod_plansOf_164 : decode b_Mod_plansOf 164 = .ok (.iastore, 1) := dc_79 (by decide +kernel)
theorem d_Mod_plansOf_165 : decode b_Mod_plansOf 165 = .ok (.iinc 7 1, 3) := dc_132 (a := 7) (b := 1) (by decide +kernel) rfl
theorem d_Mod_plansOf_168 : decode b_Mod_plansOf 168 = .ok (.goto (-23), 3) := dc_167 (a := 255) (b := 233) (by decide +kernel) rfl
theorem d_Mod_plansOf_171 : decode b_Mod_plansOf 171 = .ok (.goto (-161), 3) := dc_167 (a := 255) (b := 95) (by decide +kernel) rfl
theorem d_Mod_plansOf_174 : decode b_Mod_plansOf 174 = .ok (.return_, 1) := dc_177 (by decide +kernel)
def S_Mod_plansOf : List (Nat × Option Nat) := [(123, none), (124, none), (116, some 25), (999, none)]
abbrev q_Mod_plansOf (h : Hp) (o : Int32) (oZ : Int) (d : Int32) (dZ : Int) (n : Int32) (nZ : Int) (w : Int32) (wZ : Int) (g : Int32) (gZ : Int) (m : Int64) (mZ : Int) : Option Value → Hp → Prop := pVd (fun h' => Inv h' ∧ fr S_Mod_plansOf h h' ∧ ∃ (u : Int64) (uZ : Int), u.toInt = uZ ∧ h'.2 = u ∧ (0 ≤ uZ))
set_option maxRecDepth 100000 in
theorem c_Mod_plansOf (h : Hp) (hI : Inv h) (o : Int32) (oZ : Int) (oE : o.toInt = oZ) (d : Int32) (dZ : Int) (dE : d.toInt = dZ) (n : Int32) (nZ : Int) (nE : n.toInt = nZ) (w : Int32) (wZ : Int) (wE : w.toInt = wZ) (wK : h.1 116 2 = w) (g : Int32) (gZ : Int) (gE : g.toInt = gZ) (gK : h.1 116 3 = g) (m : Int64) (mZ : Int) (mE : m.toInt = mZ) (mK : h.2 = m) (hy0 : 1 ≤ nZ ∧ nZ ≤ 4) (hy1 : 0 ≤ mZ) : Ct y_Mod_plansOf b_Mod_plansOf 8 none 1 31 [.ref 116, .int o, .int d, .int n] h (q_Mod_plansOf h o oZ d dZ n nZ w wZ g gZ m mZ) := by
  refine ct_ow R_Mod [some (.ref 116), some (.int o), some (.int d), some (.int n), none, none, none, none] rfl (by decide) rfl (Nat.le_of_ble_eq_true rfl) ?_
  have f0 : fr S_Mod_plansOf h h := fr_rf
  have g1 : 2 ≤ wZ ∧ wZ ≤ 4 := inv_at hI wE wK.symm rfl
  have g2 : 2 ≤ gZ ∧ gZ ≤ 4 := inv_at hI gE gK.symm rfl
  refine V_iconst 0 d_Mod_plansOf_0 (by decide) ?_
  refine V_istore 4 [some (.ref 116), some (.int o), some (.int d), some (.int n), some (.int 0), none, none, none] d_Mod_plansOf_1 (by decide) rfl rfl ?_
  refine V_aload_n 0 d_Mod_plansOf_3 rfl rfl ?_
  refine V_getR fa_Mod_29 sk_116 rfl d_Mod_plansOf_4 ?_
  refine V_iconst 0 d_Mod_plansOf_7 (by decide) ?_
  refine V_iconst (-1) d_Mod_plansOf_8 (by decide) ?_
  refine N_iast sk_123 tc_0 (by (first | decide +kernel | omega)) d_Mod_plansOf_9 (fun h3 eh3 => ?_)
  have hI4 : Inv h3 := inv_put (lo := -1) (hi := 16) hI eh3 rfl tc_m1 (by (first | decide +kernel | omega))
  have f5 : fr S_Mod_plansOf h h3 := fr_put f0 eh3 rfl
  obtain ⟨z12, z12Z, z12E, z12e⟩ : ∃ (y : Int32) (Y : Int), y.toInt = Y ∧ y = h3.1 123 1 := ⟨_, _, rfl, rfl⟩
  have g13 : -1 ≤ z12Z ∧ z12Z ≤ 16 := inv_at hI4 z12E z12e rfl
  obtain ⟨z14, z14Z, z14E, z14e⟩ : ∃ (y : Int32) (Y : Int), y.toInt = Y ∧ y = h3.1 123 2 := ⟨_, _, rfl, rfl⟩
  have g15 : -1 ≤ z14Z ∧ z14Z ≤ 16 := inv_at hI4 z14E z14e rfl
  obtain ⟨z16, z16Z, z16E, z16e⟩ : ∃ (y : Int32) (Y : Int), y.toInt = Y ∧ y = h3.1 123 3 := ⟨_, _, rfl, rfl⟩
  have g17 : -1 ≤ z16Z ∧ z16Z ≤ 16 := inv_at hI4 z16E z16e rfl
  have L6 : ∀ (nn : Nat) (v8 : Int32) (v8Z : Int) (h9 : Hp) (v18 : Int32) (v18Z : Int) (v20 : Int32) (v20Z : Int) (v22 : Int32) (v22Z : Int) (v24 : Int32) (v24Z : Int) (v26 : Int64) (v26Z : Int), v8.toInt = v8Z → Inv h9 → fr S_Mod_plansOf h h9 → h9.1 116 2 = w → h9.1 116 3 = g → v18.toInt = v18Z → h9.1 123 0 = v18 → v20.toInt = v20Z → h9.1 123 1 = v20 → v22.toInt = v22Z → h9.1 123 2 = v22 → v24.toInt = v24Z → h9.1 123 3 = v24 → v26.toInt = v26Z → h9.2 = v26 → -1 ≤ v8Z ∧ v8Z ≤ nZ - 1 → (v8Z < 0 ∨ v18Z ≤ 15) ∧ (v8Z < 1 ∨ v20Z ≤ 15) ∧ (v8Z < 2 ∨ v22Z ≤ 15) ∧ (v8Z < 3 ∨ v24Z ≤ 15) → 0 ≤ v26Z → v18Z ≤ 16 ∧ v20Z ≤ 16 ∧ v22Z ≤ 16 ∧ v24Z ≤ 16 → plM v8Z v18Z v20Z v22Z v24Z < (nn : Int) → V R_Mod b_Mod_plansOf 8 none 1 31 (q_Mod_plansOf h o oZ d dZ n nZ w wZ g gZ m mZ) h9 10 [some (.ref 116), some (.int o), some (.int d), some (.int n), some (.int v8), none, none, none] [] := by
    intro nn
    induction nn with
    | zero => intro v8 v8Z h9 v18 v18Z v20 v20Z v22 v22Z v24 v24Z v26 v26Z v8E Ih9 Fh9 K10 K11 v18E K19 v20E K21 v22E K23 v24E K25 v26E K27 q28 q29 q30 q31 hm32; exact absurd hm32 (by have := plM_p (k := v8Z) (a := v18Z) (b := v20Z) (c := v22Z) (d := v24Z) (by (first | decide +kernel | omega)) (by (first | decide +kernel | omega)) (by (first | decide +kernel | omega)) (by (first | decide +kernel | omega)); omega)
    | succ nn ihL6 =>
      intro v8 v8Z h9 v18 v18Z v20 v20Z v22 v22Z v24 v24Z v26 v26Z v8E Ih9 Fh9 K10 K11 v18E K19 v20E K21 v22E K23 v24E K25 v26E K27 q28 q29 q30 q31 hm32
      have g33 : -1 ≤ v18Z ∧ v18Z ≤ 16 := inv_at Ih9 v18E K19.symm rfl
      have g34 : -1 ≤ v20Z ∧ v20Z ≤ 16 := inv_at Ih9 v20E K21.symm rfl
      have g35 : -1 ≤ v22Z ∧ v22Z ≤ 16 := inv_at Ih9 v22E K23.symm rfl
      have g36 : -1 ≤ v24Z ∧ v24Z ≤ 16 := inv_at Ih9 v24E K25.symm rfl
      refine V_iload d_Mod_plansOf_10 rfl ?_
      refine V_if_lt 174 v8E d_Mod_plansOf_12 (by decide) (fun c37 => ?_) (fun c37 => ?_)
      ·
        exact V_vret rfl d_Mod_plansOf_174 ⟨rfl, ⟨Ih9, Fh9, v26, v26Z, v26E, K27, (by (first | decide +kernel | omega))⟩⟩
      ·
        rcases (by (first | decide +kernel | omega) : v8Z = 0 ∨ v8Z = 1 ∨ v8Z = 2 ∨ v8Z = 3) with c38 | c38 | c38 | c38
        ·
          obtain rfl : v8 = 0 := (ti_eq v8E tc_0).mpr c38
          subst c38
          refine V_aload_n 0 d_Mod_plansOf_15 rfl rfl ?_
          refine V_getR fa_Mod_29 sk_116 rfl d_Mod_plansOf_16 ?_
          refine V_iload d_Mod_plansOf_19 rfl ?_
          refine V_dup2 d_Mod_plansOf_21 rfl rfl ?_
          refine N_ialdK sk_123 tc_0 (by (first | decide +kernel | omega)) d_Mod_plansOf_22 K19 ?_
          refine V_iconst 1 d_Mod_plansOf_23 (by decide) ?_
          refine V_iadd v18E tc_1 (by (first | decide +kernel | omega)) d_Mod_plansOf_24 (fun z40 z40e z40E => ?_)
          refine N_iast sk_123 tc_0 (by (first | decide +kernel | omega)) d_Mod_plansOf_25 (fun h41 eh41 => ?_)
          have hI42 : Inv h41 := inv_put (lo := -1) (hi := 16) Ih9 eh41 rfl z40E (by (first | decide +kernel | omega))
          have f43 : fr S_Mod_plansOf h h41 := fr_put Fh9 eh41 rfl
          have L44 : ∀ (nn : Nat) (h46 : Hp) (v53 : Int32) (v53Z : Int), Inv h46 → fr S_Mod_plansOf h h46 → h46.1 116 2 = w → h46.1 116 3 = g → h46.1 123 1 = v20 → h46.1 123 2 = v22 → h46.1 123 3 = v24 → h46.2 = v26 → v53.toInt = v53Z → h46.1 123 0 = v53 → (v18Z + 1) ≤ v53Z ∧ 0 ≤ v53Z ∧ v53Z ≤ 16 → 16 - v53Z < (nn : Int) → V R_Mod b_Mod_plansOf 8 none 1 31 (q_Mod_plansOf h o oZ d dZ n nZ w wZ g gZ m mZ) h46 26 [some (.ref 116), some (.int o), some (.int d), some (.int n), some (.int 0), none, none, none] [] := by
            intro nn
            induction nn with
            | zero => intro h46 v53 v53Z Ih46 Fh46 K47 K48 K49 K50 K51 K52 v53E K54 q55 hm56; exact absurd hm56 (by (first | decide +kernel | omega))
            | succ nn ihL44 =>
              intro h46 v53 v53Z Ih46 Fh46 K47 K48 K49 K50 K51 K52 v53E K54 q55 hm56
              have g57 : -1 ≤ v53Z ∧ v53Z ≤ 16 := inv_at Ih46 v53E K54.symm rfl
              refine V_aload_n 0 d_Mod_plansOf_26 rfl rfl ?_
              refine V_getR fa_Mod_29 sk_116 rfl d_Mod_plansOf_27 ?_
              refine V_iload d_Mod_plansOf_30 rfl ?_
              refine N_ialdK sk_123 tc_0 (by (first | decide +kernel | omega)) d_Mod_plansOf_32 K54 ?_
              refine V_aload_n 0 d_Mod_plansOf_33 rfl rfl ?_
              refine N_callVI [] [.int v53] cv_Mod_183 sk_116 rfl d_Mod_plansOf_34 rfl (Nat.le_of_ble_eq_true rfl) (by decide) (by decide) (c_Mod_cellMany h46 Ih46 w wZ wE K47 g gZ gE K48) (fun z59 h60 z59Z z59E p61 => ?_)
              obtain ⟨eh60, p61⟩ := p61
              subst eh60
              refine V_icmp_ge 71 v53E z59E d_Mod_plansOf_37 (by decide) (fun c62 => ?_) (fun c62 => ?_)
              ·
                refine V_aload_n 0 d_Mod_plansOf_71 rfl rfl ?_
                refine V_getR fa_Mod_29 sk_116 rfl d_Mod_plansOf_72 ?_
                refine V_iload d_Mod_plansOf_75 rfl ?_
                refine N_ialdK sk_123 tc_0 (by (first | decide +kernel | omega)) d_Mod_plansOf_77 K54 ?_
                refine V_aload_n 0 d_Mod_plansOf_78 rfl rfl ?_
                refine N_callVI [] [.int v53] cv_Mod_183 sk_116 rfl d_Mod_plansOf_79 rfl (Nat.le_of_ble_eq_true rfl) (by decide) (by decide) (c_Mod_cellMany h46 Ih46 w wZ wE K47 g gZ gE K48) (fun z64 h65 z64Z z64E p66 => ?_)
                obtain ⟨eh65, p66⟩ := p66
                subst eh65
                refine V_icmp_lt 91 v53E z64E d_Mod_plansOf_82 (by decide) (fun c67 => ?_) (fun c67 => ?_)
                ·
                  refine V_iload d_Mod_plansOf_91 rfl ?_
                  refine V_iload_n 3 d_Mod_plansOf_93 rfl rfl ?_
                  refine V_iconst 1 d_Mod_plansOf_94 (by decide) ?_
                  refine V_isub nE tc_1 (by (first | decide +kernel | omega)) d_Mod_plansOf_95 (fun z68 z68e z68E => ?_)
                  refine V_icmp_ge 113 tc_0 z68E d_Mod_plansOf_96 (by decide) (fun c69 => ?_) (fun c69 => ?_)
                  ·
                    refine V_aload_n 0 d_Mod_plansOf_113 rfl rfl ?_
                    refine V_iload_n 3 d_Mod_plansOf_114 rfl rfl ?_
                    refine V_iload_n 2 d_Mod_plansOf_115 rfl rfl ?_
                    refine N_callVL [.int n, .int d] [] cv_Mod_264 sk_116 rfl d_Mod_plansOf_116 rfl (Nat.le_of_ble_eq_true rfl) (by decide) (by decide) (c_Mod_meanOf h46 Ih46 n nZ nE d dZ dE (by (first | decide +kernel | omega))) (fun z70 h71 z70Z z70E p72 => ?_)
                    subst p72
                    refine V_lstore 5 [some (.ref 116), some (.int o), some (.int d), some (.int n), some (.int 0), some (.long z70), none, none] d_Mod_plansOf_119 (by decide) rfl rfl ?_
                    refine V_lload d_Mod_plansOf_121 rfl ?_
                    refine V_aload_n 0 d_Mod_plansOf_123 rfl rfl ?_
                    refine N_getLK fa_Mod_268 sk_116 rfl d_Mod_plansOf_124 K52 ?_
                    refine N_lcmp d_Mod_plansOf_127 (fun z73 z73Z z73E z73e => ?_)
                    have g74 := lcmp_ti z70E v26E z73e z73E
                    refine V_if_le 171 z73E d_Mod_plansOf_128 (by decide) (fun c75 => ?_) (fun c75 => ?_)
                    ·
                      refine V_goto 10 d_Mod_plansOf_171 (by decide) ?_
                      refine V_drop 5 [some (.ref 116), some (.int o), some (.int d), some (.int n), some (.int 0), none, none, none] rfl ?_
                      exact ihL6 0 0 h46 v53 v53Z v20 v20Z v22 v22Z v24 v24Z v26 v26Z tc_0 Ih46 Fh46 K47 K48 v53E K54 v20E K49 v22E K50 v24E K51 v26E K52 (by (first | decide +kernel | omega)) (by (first | decide +kernel | omega)) (by (first | decide +kernel | omega)) (by (first | decide +kernel | omega)) (by simp only [plM_m1, plM_0, plM_1, plM_2, plM_3] at hm32 ⊢; omega)
                    ·
                      refine V_aload_n 0 d_Mod_plansOf_131 rfl rfl ?_
                      refine V_lload d_Mod_plansOf_132 rfl ?_
                      refine N_putL fp_Mod_268 sk_116 rfl lo_116 d_Mod_plansOf_134 (fun h76 eh76 => ?_)
                      have hI77 : Inv h76 := inv_long Ih46 eh76
                      have f78 : fr S_Mod_plansOf h h76 := fr_long Fh46 eh76 rfl
                      refine V_aload_n 0 d_Mod_plansOf_137 rfl rfl ?_
                      refine V_iload_n 3 d_Mod_plansOf_138 rfl rfl ?_
                      refine N_putI fp_Mod_272 sk_116 rfl d_Mod_plansOf_139 (fun h79 eh79 => ?_)
                      have hI80 : Inv h79 := inv_put (lo := 0) (hi := 4) hI77 eh79 rfl nE (by (first | decide +kernel | omega))
                      have f81 : fr S_Mod_plansOf h h79 := fr_put f78 eh79 rfl
                      refine V_iconst 0 d_Mod_plansOf_142 (by decide) ?_
                      refine V_istore 7 [some (.ref 116), some (.int o), some (.int d), some (.int n), some (.int 0), some (.long z70), none, some (.int 0)] d_Mod_plansOf_143 (by decide) rfl rfl ?_
                      have L82 : ∀ (nn : Nat) (v84 : Int32) (v84Z : Int) (h85 : Hp), v84.toInt = v84Z → Inv h85 → fr S_Mod_plansOf h h85 → h85.1 116 2 = w → h85.1 116 3 = g → h85.1 123 0 = v53 → h85.1 123 1 = v20 → h85.1 123 2 = v22 → h85.1 123 3 = v24 → h85.2 = z70 → 0 ≤ v84Z ∧ v84Z ≤ nZ → nZ - v84Z < (nn : Int) → V R_Mod b_Mod_plansOf 8 none 1 31 (q_Mod_plansOf h o oZ d dZ n nZ w wZ g gZ m mZ) h85 145 [some (.ref 116), some (.int o), some (.int d), some (.int n), some (.int 0), some (.long z70), none, some (.int v84)] [] := by
                        intro nn
                        induction nn with
                        | zero => intro v84 v84Z h85 v84E Ih85 Fh85 K86 K87 K88 K89 K90 K91 K92 q93 hm94; exact absurd hm94 (by (first | decide +kernel | omega))
                        | succ nn ihL82 =>
                          intro v84 v84Z h85 v84E Ih85 Fh85 K86 K87 K88 K89 K90 K91 K92 q93 hm94
                          refine V_iload d_Mod_plansOf_145 rfl ?_
                          refine V_iload_n 3 d_Mod_plansOf_147 rfl rfl ?_
                          refine V_icmp_ge 171 v84E nE d_Mod_plansOf_148 (by decide) (fun c95 => ?_) (fun c95 => ?_)
                          ·
                            refine V_goto 10 d_Mod_plansOf_171 (by decide) ?_
                            refine V_drop 5 [some (.ref 116), some (.int o), some (.int d), some (.int n), some (.int 0), none, none, some (.int v84)] rfl ?_
                            refine V_drop 7 [some (.ref 116), some (.int o), some (.int d), some (.int n), some (.int 0), none, none, none] rfl ?_
                            exact ihL6 0 0 h85 v53 v53Z v20 v20Z v22 v22Z v24 v24Z z70 z70Z tc_0 Ih85 Fh85 K86 K87 v53E K88 v20E K89 v22E K90 v24E K91 z70E K92 (by (first | decide +kernel | omega)) (by (first | decide +kernel | omega)) (by (first | decide +kernel | omega)) (by (first | decide +kernel | omega)) (by simp only [plM_m1, plM_0, plM_1, plM_2, plM_3] at hm32 ⊢; omega)
                          ·
                            refine V_aload_n 0 d_Mod_plansOf_151 rfl rfl ?_
                            refine V_getR fa_Mod_32 sk_116 rfl d_Mod_plansOf_152 ?_
                            refine V_iload d_Mod_plansOf_155 rfl ?_
                            refine V_aload_n 0 d_Mod_plansOf_157 rfl rfl ?_
                            refine V_getR fa_Mod_29 sk_116 rfl d_Mod_plansOf_158 ?_
                            refine V_iload d_Mod_plansOf_161 rfl ?_
                            refine N_iald sk_123 v84E (by (first | decide +kernel | omega)) d_Mod_plansOf_163 (fun z96 z96Z z96E z96e => ?_)
                            have g97 : -1 ≤ z96Z ∧ z96Z ≤ 16 := inv_at Ih85 z96E z96e rfl
                            refine N_iast sk_124 v84E (by (first | decide +kernel | omega)) d_Mod_plansOf_164 (fun h98 eh98 => ?_)
                            have hI99 : Inv h98 := inv_full Ih85 eh98 rfl
                            have f100 : fr S_Mod_plansOf h h98 := fr_put Fh85 eh98 rfl
                            obtain ⟨z101, z101E, z101e⟩ : ∃ y : Int32, y.toInt = v84Z + 1 ∧ y = v84 + Int32.ofInt 1 := ⟨_, ti_add v84E (by decide) (by (first | decide +kernel | omega)), rfl⟩
                            refine V_iinc 7 [some (.ref 116), some (.int o), some (.int d), some (.int n), some (.int 0), some (.long z70), none, some (.int z101)] d_Mod_plansOf_165 rfl z101e.symm (by decide) rfl rfl ?_
                            refine V_goto 145 d_Mod_plansOf_168 (by decide) ?_
                            exact ihL82 z101 ((v84Z + 1)) h98 z101E hI99 f100 (kn_ne eh98 K86 (by decide)) (kn_ne eh98 K87 (by decide)) (kn_ne eh98 K88 (by decide)) (kn_ne eh98 K89 (by decide)) (kn_ne eh98 K90 (by decide)) (kn_ne eh98 K91 (by decide)) (knL_put eh98 K92) (by (first | decide +kernel | omega)) (by (first | decide +kernel | omega))
                      exact L82 (Int.toNat ((nZ - 0 : Int) + 1)) 0 0 h79 tc_0 hI80 f81 (kn_nei eh79 (kn_long eh76 K47) (by decide)) (kn_nei eh79 (kn_long eh76 K48) (by decide)) (kn_ne eh79 (kn_long eh76 K54) (by decide)) (kn_ne eh79 (kn_long eh76 K49) (by decide)) (kn_ne eh79 (kn_long eh76 K50) (by decide)) (kn_ne eh79 (kn_long eh76 K51) (by decide)) (knL_put eh79 (knL_long eh76)) (by (first | decide +kernel | omega)) (by (first | decide +kernel | omega))
                  ·
                    refine V_iinc (v := 1) 4 [some (.ref 116), some (.int o), some (.int d), some (.int n), some (.int 1), none, none, none] d_Mod_plansOf_99 rfl (by decide) (by decide) rfl rfl ?_
                    refine V_aload_n 0 d_Mod_plansOf_102 rfl rfl ?_
                    refine V_getR fa_Mod_29 sk_116 rfl d_Mod_plansOf_103 ?_
                    refine V_iload d_Mod_plansOf_106 rfl ?_
                    refine V_iconst (-1) d_Mod_plansOf_108 (by decide) ?_
                    refine N_iast sk_123 tc_1 (by (first | decide +kernel | omega)) d_Mod_plansOf_109 (fun h103 eh103 => ?_)
                    have hI104 : Inv h103 := inv_put (lo := -1) (hi := 16) Ih46 eh103 rfl tc_m1 (by (first | decide +kernel | omega))
                    have f105 : fr S_Mod_plansOf h h103 := fr_put Fh46 eh103 rfl
                    refine V_goto 10 d_Mod_plansOf_110 (by decide) ?_
                    exact ihL6 1 1 h103 v53 v53Z (-1) ((-1)) v22 v22Z v24 v24Z v26 v26Z tc_1 hI104 f105 (kn_ne eh103 K47 (by decide)) (kn_ne eh103 K48 (by decide)) v53E (kn_nei eh103 K54 (by decide)) tc_m1 (kn_put eh103) v22E (kn_nei eh103 K50 (by decide)) v24E (kn_nei eh103 K51 (by decide)) v26E (knL_put eh103 K52) (by (first | decide +kernel | omega)) (by (first | decide +kernel | omega)) (by (first | decide +kernel | omega)) (by (first | decide +kernel | omega)) (by simp only [plM_m1, plM_0, plM_1, plM_2, plM_3] at hm32 ⊢; omega)
                ·
                  refine V_iinc (v := (-1)) 4 [some (.ref 116), some (.int o), some (.int d), some (.int n), some (.int (-1)), none, none, none] d_Mod_plansOf_85 rfl (by decide) (by decide) rfl rfl ?_
                  refine V_goto 10 d_Mod_plansOf_88 (by decide) ?_
                  exact ihL6 (-1) ((-1)) h46 v53 v53Z v20 v20Z v22 v22Z v24 v24Z v26 v26Z tc_m1 Ih46 Fh46 K47 K48 v53E K54 v20E K49 v22E K50 v24E K51 v26E K52 (by (first | decide +kernel | omega)) (by (first | decide +kernel | omega)) (by (first | decide +kernel | omega)) (by (first | decide +kernel | omega)) (by simp only [plM_m1, plM_0, plM_1, plM_2, plM_3] at hm32 ⊢; omega)
              ·
                refine V_aload_n 0 d_Mod_plansOf_40 rfl rfl ?_
                refine V_iload_n 1 d_Mod_plansOf_41 rfl rfl ?_
                refine V_aload_n 0 d_Mod_plansOf_42 rfl rfl ?_
                refine V_getR fa_Mod_29 sk_116 rfl d_Mod_plansOf_43 ?_
                refine V_iload d_Mod_plansOf_46 rfl ?_
                refine N_ialdK sk_123 tc_0 (by (first | decide +kernel | omega)) d_Mod_plansOf_48 K54 ?_
                refine V_iload d_Mod_plansOf_49 rfl ?_
                refine N_callVI [.int o, .int v53, .int 0] [] cv_Mod_261 sk_116 rfl d_Mod_plansOf_51 rfl (Nat.le_of_ble_eq_true rfl) (by decide) (by decide) (c_Mod_isFree h46 Ih46 o oZ oE v53 v53Z v53E 0 0 tc_0 (by (first | decide +kernel | omega)) (by (first | decide +kernel | omega))) (fun z108 h109 z108Z z108E p110 => ?_)
                obtain ⟨eh109, p110⟩ := p110
                subst eh109
                refine V_if_ne 71 z108E d_Mod_plansOf_54 (by decide) (fun c111 => ?_) (fun c111 => ?_)
                ·
                  refine V_aload_n 0 d_Mod_plansOf_71 rfl rfl ?_
                  refine V_getR fa_Mod_29 sk_116 rfl d_Mod_plansOf_72 ?_
                  refine V_iload d_Mod_plansOf_75 rfl ?_
                  refine N_ialdK sk_123 tc_0 (by (first | decide +kernel | omega)) d_Mod_plansOf_77 K54 ?_
                  refine V_aload_n 0 d_Mod_plansOf_78 rfl rfl ?_
                  refine N_callVI [] [.int v53] cv_Mod_183 sk_116 rfl d_Mod_plansOf_79 rfl (Nat.le_of_ble_eq_true rfl) (by decide) (by decide) (c_Mod_cellMany h46 Ih46 w wZ wE K47 g gZ gE K48) (fun z113 h114 z113Z z113E p115 => ?_)
                  obtain ⟨eh114, p115⟩ := p115
                  subst eh114
                  refine V_icmp_lt 91 v53E z113E d_Mod_plansOf_82 (by decide) (fun c116 => ?_) (fun c116 => ?_)
                  ·
                    refine V_iload d_Mod_plansOf_91 rfl ?_
                    refine V_iload_n 3 d_Mod_plansOf_93 rfl rfl ?_
                    refine V_iconst 1 d_Mod_plansOf_94 (by decide) ?_
                    refine V_isub nE tc_1 (by (first | decide +kernel | omega)) d_Mod_plansOf_95 (fun z117 z117e z117E => ?_)
                    refine V_icmp_ge 113 tc_0 z117E d_Mod_plansOf_96 (by decide) (fun c118 => ?_) (fun c118 => ?_)
                    ·
                      refine V_aload_n 0 d_Mod_plansOf_113 rfl rfl ?_
                      refine V_iload_n 3 d_Mod_plansOf_114 rfl rfl ?_
                      refine V_iload_n 2 d_Mod_plansOf_115 rfl rfl ?_
                      refine N_callVL [.int n, .int d] [] cv_Mod_264 sk_116 rfl d_Mod_plansOf_116 rfl (Nat.le_of_ble_eq_true rfl) (by decide) (by decide) (c_Mod_meanOf h46 Ih46 n nZ nE d dZ dE (by (first | decide +kernel | omega))) (fun z119 h120 z119Z z119E p121 => ?_)
                      subst p121
                      refine V_lstore 5 [some (.ref 116), some (.int o), some (.int d), some (.int n), some (.int 0), some (.long z119), none, none] d_Mod_plansOf_119 (by decide) rfl rfl ?_
                      refine V_lload d_Mod_plansOf_121 rfl ?_
                      refine V_aload_n 0 d_Mod_plansOf_123 rfl rfl ?_
                      refine N_getLK fa_Mod_268 sk_116 rfl d_Mod_plansOf_124 K52 ?_
                      refine N_lcmp d_Mod_plansOf_127 (fun z122 z122Z z122E z122e => ?_)
                      have g123 := lcmp_ti z119E v26E z122e z122E
                      refine V_if_le 171 z122E d_Mod_plansOf_128 (by decide) (fun c124 => ?_) (fun c124 => ?_)
                      ·
                        refine V_goto 10 d_Mod_plansOf_171 (by decide) ?_
                        refine V_drop 5 [some (.ref 116), some (.int o), some (.int d), some (.int n), some (.int 0), none, none, none] rfl ?_
                        exact ihL6 0 0 h46 v53 v53Z v20 v20Z v22 v22Z v24 v24Z v26 v26Z tc_0 Ih46 Fh46 K47 K48 v53E K54 v20E K49 v22E K50 v24E K51 v26E K52 (by (first | decide +kernel | omega)) (by (first | decide +kernel | omega)) (by (first | decide +kernel | omega)) (by (first | decide +kernel | omega)) (by simp only [plM_m1, plM_0, plM_1, plM_2, plM_3] at hm32 ⊢; omega)
                      ·
                        refine V_aload_n 0 d_Mod_plansOf_131 rfl rfl ?_
                        refine V_lload d_Mod_plansOf_132 rfl ?_
                        refine N_putL fp_Mod_268 sk_116 rfl lo_116 d_Mod_plansOf_134 (fun h125 eh125 => ?_)
                        have hI126 : Inv h125 := inv_long Ih46 eh125
                        have f127 : fr S_Mod_plansOf h h125 := fr_long Fh46 eh125 rfl
                        refine V_aload_n 0 d_Mod_plansOf_137 rfl rfl ?_
                        refine V_iload_n 3 d_Mod_plansOf_138 rfl rfl ?_
                        refine N_putI fp_Mod_272 sk_116 rfl d_Mod_plansOf_139 (fun h128 eh128 => ?_)
                        have hI129 : Inv h128 := inv_put (lo := 0) (hi := 4) hI126 eh128 rfl nE (by (first | decide +kernel | omega))
                        have f130 : fr S_Mod_plansOf h h128 := fr_put f127 eh128 rfl
                        refine V_iconst 0 d_Mod_plansOf_142 (by decide) ?_
                        refine V_istore 7 [some (.ref 116), some (.int o), some (.int d), some (.int n), some (.int 0), some (.long z119), none, some (.int 0)] d_Mod_plansOf_143 (by decide) rfl rfl ?_
                        have L131 : ∀ (nn : Nat) (v133 : Int32) (v133Z : Int) (h134 : Hp), v133.toInt = v133Z → Inv h134 → fr S_Mod_plansOf h h134 → h134.1 116 2 = w → h134.1 116 3 = g → h134.1 123 0 = v53 → h134.1 123 1 = v20 → h134.1 123 2 = v22 → h134.1 123 3 = v24 → h134.2 = z119 → 0 ≤ v133Z ∧ v133Z ≤ nZ → nZ - v133Z < (nn : Int) → V R_Mod b_Mod_plansOf 8 none 1 31 (q_Mod_plansOf h o oZ d dZ n nZ w wZ g gZ m mZ) h134 145 [some (.ref 116), some (.int o), some (.int d), some (.int n), some (.int 0), some (.long z119), none, some (.int v133)] [] := by
                          intro nn
                          induction nn with
                          | zero => intro v133 v133Z h134 v133E Ih134 Fh134 K135 K136 K137 K138 K139 K140 K141 q142 hm143; exact absurd hm143 (by (first | decide +kernel | omega))
                          | succ nn ihL131 =>
                            intro v133 v133Z h134 v133E Ih134 Fh134 K135 K136 K137 K138 K139 K140 K141 q142 hm143
                            refine V_iload d_Mod_plansOf_145 rfl ?_
                            refine V_iload_n 3 d_Mod_plansOf_147 rfl rfl ?_
                            refine V_icmp_ge 171 v133E nE d_Mod_plansOf_148 (by decide) (fun c144 => ?_) (fun c144 => ?_)
                            ·
                              refine V_goto 10 d_Mod_plansOf_171 (by decide) ?_
                              refine V_drop 5 [some (.ref 116), some (.int o), some (.int d), some (.int n), some (.int 0), none, none, some (.int v133)] rfl ?_
                              refine V_drop 7 [some (.ref 116), some (.int o), some (.int d), some (.int n), some (.int 0), none, none, none] rfl ?_
                              exact ihL6 0 0 h134 v53 v53Z v20 v20Z v22 v22Z v24 v24Z z119 z119Z tc_0 Ih134 Fh134 K135 K136 v53E K137 v20E K138 v22E K139 v24E K140 z119E K141 (by (first | decide +kernel | omega)) (by (first | decide +kernel | omega)) (by (first | decide +kernel | omega)) (by (first | decide +kernel | omega)) (by simp only [plM_m1, plM_0, plM_1, plM_2, plM_3] at hm32 ⊢; omega)
                            ·
                              refine V_aload_n 0 d_Mod_plansOf_151 rfl rfl ?_
                              refine V_getR fa_Mod_32 sk_116 rfl d_Mod_plansOf_152 ?_
                              refine V_iload d_Mod_plansOf_155 rfl ?_
                              refine V_aload_n 0 d_Mod_plansOf_157 rfl rfl ?_
                              refine V_getR fa_Mod_29 sk_116 rfl d_Mod_plansOf_158 ?_
                              refine V_iload d_Mod_plansOf_161 rfl ?_
                              refine N_iald sk_123 v133E (by (first | decide +kernel | omega)) d_Mod_plansOf_163 (fun z145 z145Z z145E z145e => ?_)
                              have g146 : -1 ≤ z145Z ∧ z145Z ≤ 16 := inv_at Ih134 z145E z145e rfl
                              refine N_iast sk_124 v133E (by (first | decide +kernel | omega)) d_Mod_plansOf_164 (fun h147 eh147 => ?_)
                              have hI148 : Inv h147 := inv_full Ih134 eh147 rfl
                              have f149 : fr S_Mod_plansOf h h147 := fr_put Fh134 eh147 rfl
                              obtain ⟨z150, z150E, z150e⟩ : ∃ y : Int32, y.toInt = v133Z + 1 ∧ y = v133 + Int32.ofInt 1 := ⟨_, ti_add v133E (by decide) (by (first | decide +kernel | omega)), rfl⟩
                              refine V_iinc 7 [some (.ref 116), some (.int o), some (.int d), some (.int n), some (.int 0), some (.long z119), none, some (.int z150)] d_Mod_plansOf_165 rfl z150e.symm (by decide) rfl rfl ?_
                              refine V_goto 145 d_Mod_plansOf_168 (by decide) ?_
                              exact ihL131 z150 ((v133Z + 1)) h147 z150E hI148 f149 (kn_ne eh147 K135 (by decide)) (kn_ne eh147 K136 (by decide)) (kn_ne eh147 K137 (by decide)) (kn_ne eh147 K138 (by decide)) (kn_ne eh147 K139 (by decide)) (kn_ne eh147 K140 (by decide)) (knL_put eh147 K141) (by (first | decide +kernel | omega)) (by (first | decide +kernel | omega))
                        exact L131 (Int.toNat ((nZ - 0 : Int) + 1)) 0 0 h128 tc_0 hI129 f130 (kn_nei eh128 (kn_long eh125 K47) (by decide)) (kn_nei eh128 (kn_long eh125 K48) (by decide)) (kn_ne eh128 (kn_long eh125 K54) (by decide)) (kn_ne eh128 (kn_long eh125 K49) (by decide)) (kn_ne eh128 (kn_long eh125 K50) (by decide)) (kn_ne eh128 (kn_long eh125 K51) (by decide)) (knL_put eh128 (knL_long eh125)) (by (first | decide +kernel | omega)) (by (first | decide +kernel | omega))
                    ·
                      refine V_iinc (v := 1) 4 [some (.ref 116), some (.int o), some (.int d), some (.int n), some (.int 1), none, none, none] d_Mod_plansOf_99 rfl (by decide) (by decide) rfl rfl ?_
                      refine V_aload_n 0 d_Mod_plansOf_102 rfl rfl ?_
                      refine V_getR fa_Mod_29 sk_116 rfl d_Mod_plansOf_103 ?_
                      refine V_iload d_Mod_plansOf_106 rfl ?_
                      refine V_iconst (-1) d_Mod_plansOf_108 (by decide) ?_
                      refine N_iast sk_123 tc_1 (by (first | decide +kernel | omega)) d_Mod_plansOf_109 (fun h152 eh152 => ?_)
                      have hI153 : Inv h152 := inv_put (lo := -1) (hi := 16) Ih46 eh152 rfl tc_m1 (by (first | decide +kernel | omega))
                      have f154 : fr S_Mod_plansOf h h152 := fr_put Fh46 eh152 rfl
                      refine V_goto 10 d_Mod_plansOf_110 (by decide) ?_
                      exact ihL6 1 1 h152 v53 v53Z (-1) ((-1)) v22 v22Z v24 v24Z v26 v26Z tc_1 hI153 f154 (kn_ne eh152 K47 (by decide)) (kn_ne eh152 K48 (by decide)) v53E (kn_nei eh152 K54 (by decide)) tc_m1 (kn_put eh152) v22E (kn_nei eh152 K50 (by decide)) v24E (kn_nei eh152 K51 (by decide)) v26E (knL_put eh152 K52) (by (first | decide +kernel | omega)) (by (first | decide +kernel | omega)) (by (first | decide +kernel | omega)) (by (first | decide +kernel | omega)) (by simp only [plM_m1, plM_0, plM_1, plM_2, plM_3] at hm32 ⊢; omega)
                  ·
                    refine V_iinc (v := (-1)) 4 [some (.ref 116), some (.int o), some (.int d), some (.int n), some (.int (-1)), none, none, none] d_Mod_plansOf_85 rfl (by decide) (by decide) rfl rfl ?_
                    refine V_goto 10 d_Mod_plansOf_88 (by decide) ?_
                    exact ihL6 (-1) ((-1)) h46 v53 v53Z v20 v20Z v22 v22Z v24 v24Z v26 v26Z tc_m1 Ih46 Fh46 K47 K48 v53E K54 v20E K49 v22E K50 v24E K51 v26E K52 (by (first | decide +kernel | omega)) (by (first | decide +kernel | omega)) (by (first | decide +kernel | omega)) (by (first | decide +kernel | omega)) (by simp only [plM_m1, plM_0, plM_1, plM_2, plM_3] at hm32 ⊢; omega)
                ·
                  refine V_aload_n 0 d_Mod_plansOf_57 rfl rfl ?_
                  refine V_getR fa_Mod_29 sk_116 rfl d_Mod_plansOf_58 ?_
                  refine V_iload d_Mod_plansOf_61 rfl ?_
                  refine V_dup2 d_Mod_plansOf_63 rfl rfl ?_
                  refine N_ialdK sk_123 tc_0 (by (first | decide +kernel | omega)) d_Mod_plansOf_64 K54 ?_
                  refine V_iconst 1 d_Mod_plansOf_65 (by decide) ?_
                  refine V_iadd v53E tc_1 (by (first | decide +kernel | omega)) d_Mod_plansOf_66 (fun z157 z157e z157E => ?_)
                  refine N_iast sk_123 tc_0 (by (first | decide +kernel | omega)) d_Mod_plansOf_67 (fun h158 eh158 => ?_)
                  have hI159 : Inv h158 := inv_put (lo := -1) (hi := 16) Ih46 eh158 rfl z157E (by (first | decide +kernel | omega))
                  have f160 : fr S_Mod_plansOf h h158 := fr_put Fh46 eh158 rfl
                  refine V_goto 26 d_Mod_plansOf_68 (by decide) ?_
                  exact ihL44 h158 z157 ((v53Z + 1)) hI159 f160 (kn_ne eh158 K47 (by decide)) (kn_ne eh158 K48 (by decide)) (kn_nei eh158 K49 (by decide)) (kn_nei eh158 K50 (by decide)) (kn_nei eh158 K51 (by decide)) (knL_put eh158 K52) z157E (kn_put eh158) (by (first | decide +kernel | omega)) (by (first | decide +kernel | omega))
          exact L44 (Int.toNat ((16 - (v18Z + 1) : Int) + 1)) h41 z40 ((v18Z + 1)) hI42 f43 (kn_ne eh41 K10 (by decide)) (kn_ne eh41 K11 (by decide)) (kn_nei eh41 K21 (by decide)) (kn_nei eh41 K23 (by decide)) (kn_nei eh41 K25 (by decide)) (knL_put eh41 K27) z40E (kn_put eh41) (by (first | decide +kernel | omega)) (by (first | decide +kernel | omega))
        ·
          obtain rfl : v8 = 1 := (ti_eq v8E tc_1).mpr c38
          subst c38
          refine V_aload_n 0 d_Mod_plansOf_15 rfl rfl ?_
          refine V_getR fa_Mod_29 sk_116 rfl d_Mod_plansOf_16 ?_
          refine V_iload d_Mod_plansOf_19 rfl ?_
          refine V_dup2 d_Mod_plansOf_21 rfl rfl ?_
          refine N_ialdK sk_123 tc_1 (by (first | decide +kernel | omega)) d_Mod_plansOf_22 K21 ?_
          refine V_iconst 1 d_Mod_plansOf_23 (by decide) ?_
          refine V_iadd v20E tc_1 (by (first | decide +kernel | omega)) d_Mod_plansOf_24 (fun z162 z162e z162E => ?_)
          refine N_iast sk_123 tc_1 (by (first | decide +kernel | omega)) d_Mod_plansOf_25 (fun h163 eh163 => ?_)
          have hI164 : Inv h163 := inv_put (lo := -1) (hi := 16) Ih9 eh163 rfl z162E (by (first | decide +kernel | omega))
          have f165 : fr S_Mod_plansOf h h163 := fr_put Fh9 eh163 rfl
          have L166 : ∀ (nn : Nat) (h168 : Hp) (v175 : Int32) (v175Z : Int), Inv h168 → fr S_Mod_plansOf h h168 → h168.1 116 2 = w → h168.1 116 3 = g → h168.1 123 0 = v18 → h168.1 123 2 = v22 → h168.1 123 3 = v24 → h168.2 = v26 → v175.toInt = v175Z → h168.1 123 1 = v175 → (v20Z + 1) ≤ v175Z ∧ 0 ≤ v175Z ∧ v175Z ≤ 16 → 16 - v175Z < (nn : Int) → V R_Mod b_Mod_plansOf 8 none 1 31 (q_Mod_plansOf h o oZ d dZ n nZ w wZ g gZ m mZ) h168 26 [some (.ref 116), some (.int o), some (.int d), some (.int n), some (.int 1), none, none, none] [] := by
            intro nn
            induction nn with
            | zero => intro h168 v175 v175Z Ih168 Fh168 K169 K170 K171 K172 K173 K174 v175E K176 q177 hm178; exact absurd hm178 (by (first | decide +kernel | omega))
            | succ nn ihL166 =>
              intro h168 v175 v175Z Ih168 Fh168 K169 K170 K171 K172 K173 K174 v175E K176 q177 hm178
              have g179 : -1 ≤ v175Z ∧ v175Z ≤ 16 := inv_at Ih168 v175E K176.symm rfl
              refine V_aload_n 0 d_Mod_plansOf_26 rfl rfl ?_
              refine V_getR fa_Mod_29 sk_116 rfl d_Mod_plansOf_27 ?_
              refine V_iload d_Mod_plansOf_30 rfl ?_
              refine N_ialdK sk_123 tc_1 (by (first | decide +kernel | omega)) d_Mod_plansOf_32 K176 ?_
              refine V_aload_n 0 d_Mod_plansOf_33 rfl rfl ?_
              refine N_callVI [] [.int v175] cv_Mod_183 sk_116 rfl d_Mod_plansOf_34 rfl (Nat.le_of_ble_eq_true rfl) (by decide) (by decide) (c_Mod_cellMany h168 Ih168 w wZ wE K169 g gZ gE K170) (fun z181 h182 z181Z z181E p183 => ?_)
              obtain ⟨eh182, p183⟩ := p183
              subst eh182
              refine V_icmp_ge 71 v175E z181E d_Mod_plansOf_37 (by decide) (fun c184 => ?_) (fun c184 => ?_)
              ·
                refine V_aload_n 0 d_Mod_plansOf_71 rfl rfl ?_
                refine V_getR fa_Mod_29 sk_116 rfl d_Mod_plansOf_72 ?_
                refine V_iload d_Mod_plansOf_75 rfl ?_
                refine N_ialdK sk_123 tc_1 (by (first | decide +kernel | omega)) d_Mod_plansOf_77 K176 ?_
                refine V_aload_n 0 d_Mod_plansOf_78 rfl rfl ?_
                refine N_callVI [] [.int v175] cv_Mod_183 sk_116 rfl d_Mod_plansOf_79 rfl (Nat.le_of_ble_eq_true rfl) (by decide) (by decide) (c_Mod_cellMany h168 Ih168 w wZ wE K169 g gZ gE K170) (fun z186 h187 z186Z z186E p188 => ?_)
                obtain ⟨eh187, p188⟩ := p188
                subst eh187
                refine V_icmp_lt 91 v175E z186E d_Mod_plansOf_82 (by decide) (fun c189 => ?_) (fun c189 => ?_)
                ·
                  refine V_iload d_Mod_plansOf_91 rfl ?_
                  refine V_iload_n 3 d_Mod_plansOf_93 rfl rfl ?_
                  refine V_iconst 1 d_Mod_plansOf_94 (by decide) ?_
                  refine V_isub nE tc_1 (by (first | decide +kernel | omega)) d_Mod_plansOf_95 (fun z190 z190e z190E => ?_)
                  refine V_icmp_ge 113 tc_1 z190E d_Mod_plansOf_96 (by decide) (fun c191 => ?_) (fun c191 => ?_)
                  ·
                    refine V_aload_n 0 d_Mod_plansOf_113 rfl rfl ?_
                    refine V_iload_n 3 d_Mod_plansOf_114 rfl rfl ?_
                    refine V_iload_n 2 d_Mod_plansOf_115 rfl rfl ?_
                    refine N_callVL [.int n, .int d] [] cv_Mod_264 sk_116 rfl d_Mod_plansOf_116 rfl (Nat.le_of_ble_eq_true rfl) (by decide) (by decide) (c_Mod_meanOf h168 Ih168 n nZ nE d dZ dE (by (first | decide +kernel | omega))) (fun z192 h193 z192Z z192E p194 => ?_)
                    subst p194
                    refine V_lstore 5 [some (.ref 116), some (.int o), some (.int d), some (.int n), some (.int 1), some (.long z192), none, none] d_Mod_plansOf_119 (by decide) rfl rfl ?_
                    refine V_lload d_Mod_plansOf_121 rfl ?_
                    refine V_aload_n 0 d_Mod_plansOf_123 rfl rfl ?_
                    refine N_getLK fa_Mod_268 sk_116 rfl d_Mod_plansOf_124 K174 ?_
                    refine N_lcmp d_Mod_plansOf_127 (fun z195 z195Z z195E z195e => ?_)
                    have g196 := lcmp_ti z192E v26E z195e z195E
                    refine V_if_le 171 z195E d_Mod_plansOf_128 (by decide) (fun c197 => ?_) (fun c197 => ?_)
                    ·
                      refine V_goto 10 d_Mod_plansOf_171 (by decide) ?_
                      refine V_drop 5 [some (.ref 116), some (.int o), some (.int d), some (.int n), some (.int 1), none, none, none] rfl ?_
                      exact ihL6 1 1 h168 v18 v18Z v175 v175Z v22 v22Z v24 v24Z v26 v26Z tc_1 Ih168 Fh168 K169 K170 v18E K171 v175E K176 v22E K172 v24E K173 v26E K174 (by (first | decide +kernel | omega)) (by (first | decide +kernel | omega)) (by (first | decide +kernel | omega)) (by (first | decide +kernel | omega)) (by simp only [plM_m1, plM_0, plM_1, plM_2, plM_3] at hm32 ⊢; omega)
                    ·
                      refine V_aload_n 0 d_Mod_plansOf_131 rfl rfl ?_
                      refine V_lload d_Mod_plansOf_132 rfl ?_
                      refine N_putL fp_Mod_268 sk_116 rfl lo_116 d_Mod_plansOf_134 (fun h198 eh198 => ?_)
                      have hI199 : Inv h198 := inv_long Ih168 eh198
                      have f200 : fr S_Mod_plansOf h h198 := fr_long Fh168 eh198 rfl
                      refine V_aload_n 0 d_Mod_plansOf_137 rfl rfl ?_
                      refine V_iload_n 3 d_Mod_plansOf_138 rfl rfl ?_
                      refine N_putI fp_Mod_272 sk_116 rfl d_Mod_plansOf_139 (fun h201 eh201 => ?_)
                      have hI202 : Inv h201 := inv_put (lo := 0) (hi := 4) hI199 eh201 rfl nE (by (first | decide +kernel | omega))
                      have f203 : fr S_Mod_plansOf h h201 := fr_put f200 eh201 rfl
                      refine V_iconst 0 d_Mod_plansOf_142 (by decide) ?_
                      refine V_istore 7 [some (.ref 116), some (.int o), some (.int d), some (.int n), some (.int 1), some (.long z192), none, some (.int 0)] d_Mod_plansOf_143 (by decide) rfl rfl ?_
                      have L204 : ∀ (nn : Nat) (v206 : Int32) (v206Z : Int) (h207 : Hp), v206.toInt = v206Z → Inv h207 → fr S_Mod_plansOf h h207 → h207.1 116 2 = w → h207.1 116 3 = g → h207.1 123 0 = v18 → h207.1 123 1 = v175 → h207.1 123 2 = v22 → h207.1 123 3 = v24 → h207.2 = z192 → 0 ≤ v206Z ∧ v206Z ≤ nZ → nZ - v206Z < (nn : Int) → V R_Mod b_Mod_plansOf 8 none 1 31 (q_Mod_plansOf h o oZ d dZ n nZ w wZ g gZ m mZ) h207 145 [some (.ref 116), some (.int o), some (.int d), some (.int n), some (.int 1), some (.long z192), none, some (.int v206)] [] := by
                        intro nn
                        induction nn with
                        | zero => intro v206 v206Z h207 v206E Ih207 Fh207 K208 K209 K210 K211 K212 K213 K214 q215 hm216; exact absurd hm216 (by (first | decide +kernel | omega))
                        | succ nn ihL204 =>
                          intro v206 v206Z h207 v206E Ih207 Fh207 K208 K209 K210 K211 K212 K213 K214 q215 hm216
                          refine V_iload d_Mod_plansOf_145 rfl ?_
                          refine V_iload_n 3 d_Mod_plansOf_147 rfl rfl ?_
                          refine V_icmp_ge 171 v206E nE d_Mod_plansOf_148 (by decide) (fun c217 => ?_) (fun c217 => ?_)
                          ·
                            refine V_goto 10 d_Mod_plansOf_171 (by decide) ?_
                            refine V_drop 5 [some (.ref 116), some (.int o), some (.int d), some (.int n), some (.int 1), none, none, some (.int v206)] rfl ?_
                            refine V_drop 7 [some (.ref 116), some (.int o), some (.int d), some (.int n), some (.int 1), none, none, none] rfl ?_
                            exact ihL6 1 1 h207 v18 v18Z v175 v175Z v22 v22Z v24 v24Z z192 z192Z tc_1 Ih207 Fh207 K208 K209 v18E K210 v175E K211 v22E K212 v24E K213 z192E K214 (by (first | decide +kernel | omega)) (by (first | decide +kernel | omega)) (by (first | decide +kernel | omega)) (by (first | decide +kernel | omega)) (by simp only [plM_m1, plM_0, plM_1, plM_2, plM_3] at hm32 ⊢; omega)
                          ·
                            refine V_aload_n 0 d_Mod_plansOf_151 rfl rfl ?_
                            refine V_getR fa_Mod_32 sk_116 rfl d_Mod_plansOf_152 ?_
                            refine V_iload d_Mod_plansOf_155 rfl ?_
                            refine V_aload_n 0 d_Mod_plansOf_157 rfl rfl ?_
                            refine V_getR fa_Mod_29 sk_116 rfl d_Mod_plansOf_158 ?_
                            refine V_iload d_Mod_plansOf_161 rfl ?_
                            refine N_iald sk_123 v206E (by (first | decide +kernel | omega)) d_Mod_plansOf_163 (fun z218 z218Z z218E z218e => ?_)
                            have g219 : -1 ≤ z218Z ∧ z218Z ≤ 16 := inv_at Ih207 z218E z218e rfl
                            refine N_iast sk_124 v206E (by (first | decide +kernel | omega)) d_Mod_plansOf_164 (fun h220 eh220 => ?_)
                            have hI221 : Inv h220 := inv_full Ih207 eh220 rfl
                            have f222 : fr S_Mod_plansOf h h220 := fr_put Fh207 eh220 rfl
                            obtain ⟨z223, z223E, z223e⟩ : ∃ y : Int32, y.toInt = v206Z + 1 ∧ y = v206 + Int32.ofInt 1 := ⟨_, ti_add v206E (by decide) (by (first | decide +kernel | omega)), rfl⟩
                            refine V_iinc 7 [some (.ref 116), some (.int o), some (.int d), some (.int n), some (.int 1), some (.long z192), none, some (.int z223)] d_Mod_plansOf_165 rfl z223e.symm (by decide) rfl rfl ?_
                            refine V_goto 145 d_Mod_plansOf_168 (by decide) ?_
                            exact ihL204 z223 ((v206Z + 1)) h220 z223E hI221 f222 (kn_ne eh220 K208 (by decide)) (kn_ne eh220 K209 (by decide)) (kn_ne eh220 K210 (by decide)) (kn_ne eh220 K211 (by decide)) (kn_ne eh220 K212 (by decide)) (kn_ne eh220 K213 (by decide)) (knL_put eh220 K214) (by (first | decide +kernel | omega)) (by (first | decide +kernel | omega))
                      exact L204 (Int.toNat ((nZ - 0 : Int) + 1)) 0 0 h201 tc_0 hI202 f203 (kn_nei eh201 (kn_long eh198 K169) (by decide)) (kn_nei eh201 (kn_long eh198 K170) (by decide)) (kn_ne eh201 (kn_long eh198 K171) (by decide)) (kn_ne eh201 (kn_long eh198 K176) (by decide)) (kn_ne eh201 (kn_long eh198 K172) (by decide)) (kn_ne eh201 (kn_long eh198 K173) (by decide)) (knL_put eh201 (knL_long eh198)) (by (first | decide +kernel | omega)) (by (first | decide +kernel | omega))
                  ·
                    refine V_iinc (v := 2) 4 [some (.ref 116), some (.int o), some (.int d), some (.int n), some (.int 2), none, none, none] d_Mod_plansOf_99 rfl (by decide) (by decide) rfl rfl ?_
                    refine V_aload_n 0 d_Mod_plansOf_102 rfl rfl ?_
                    refine V_getR fa_Mod_29 sk_116 rfl d_Mod_plansOf_103 ?_
                    refine V_iload d_Mod_plansOf_106 rfl ?_
                    refine V_iconst (-1) d_Mod_plansOf_108 (by decide) ?_
                    refine N_iast sk_123 tc_2 (by (first | decide +kernel | omega)) d_Mod_plansOf_109 (fun h225 eh225 => ?_)
                    have hI226 : Inv h225 := inv_put (lo := -1) (hi := 16) Ih168 eh225 rfl tc_m1 (by (first | decide +kernel | omega))
                    have f227 : fr S_Mod_plansOf h h225 := fr_put Fh168 eh225 rfl
                    refine V_goto 10 d_Mod_plansOf_110 (by decide) ?_
                    exact ihL6 2 2 h225 v18 v18Z v175 v175Z (-1) ((-1)) v24 v24Z v26 v26Z tc_2 hI226 f227 (kn_ne eh225 K169 (by decide)) (kn_ne eh225 K170 (by decide)) v18E (kn_nei eh225 K171 (by decide)) v175E (kn_nei eh225 K176 (by decide)) tc_m1 (kn_put eh225) v24E (kn_nei eh225 K173 (by decide)) v26E (knL_put eh225 K174) (by (first | decide +kernel | omega)) (by (first | decide +kernel | omega)) (by (first | decide +kernel | omega)) (by (first | decide +kernel | omega)) (by simp only [plM_m1, plM_0, plM_1, plM_2, plM_3] at hm32 ⊢; omega)
                ·
                  refine V_iinc (v := 0) 4 [some (.ref 116), some (.int o), some (.int d), some (.int n), some (.int 0), none, none, none] d_Mod_plansOf_85 rfl (by decide) (by decide) rfl rfl ?_
                  refine V_goto 10 d_Mod_plansOf_88 (by decide) ?_
                  exact ihL6 0 0 h168 v18 v18Z v175 v175Z v22 v22Z v24 v24Z v26 v26Z tc_0 Ih168 Fh168 K169 K170 v18E K171 v175E K176 v22E K172 v24E K173 v26E K174 (by (first | decide +kernel | omega)) (by (first | decide +kernel | omega)) (by (first | decide +kernel | omega)) (by (first | decide +kernel | omega)) (by simp only [plM_m1, plM_0, plM_1, plM_2, plM_3] at hm32 ⊢; omega)
              ·
                refine V_aload_n 0 d_Mod_plansOf_40 rfl rfl ?_
                refine V_iload_n 1 d_Mod_plansOf_41 rfl rfl ?_
                refine V_aload_n 0 d_Mod_plansOf_42 rfl rfl ?_
                refine V_getR fa_Mod_29 sk_116 rfl d_Mod_plansOf_43 ?_
                refine V_iload d_Mod_plansOf_46 rfl ?_
                refine N_ialdK sk_123 tc_1 (by (first | decide +kernel | omega)) d_Mod_plansOf_48 K176 ?_
                refine V_iload d_Mod_plansOf_49 rfl ?_
                refine N_callVI [.int o, .int v175, .int 1] [] cv_Mod_261 sk_116 rfl d_Mod_plansOf_51 rfl (Nat.le_of_ble_eq_true rfl) (by decide) (by decide) (c_Mod_isFree h168 Ih168 o oZ oE v175 v175Z v175E 1 1 tc_1 (by (first | decide +kernel | omega)) (by (first | decide +kernel | omega))) (fun z230 h231 z230Z z230E p232 => ?_)
                obtain ⟨eh231, p232⟩ := p232
                subst eh231
                refine V_if_ne 71 z230E d_Mod_plansOf_54 (by decide) (fun c233 => ?_) (fun c233 => ?_)
                ·
                  refine V_aload_n 0 d_Mod_plansOf_71 rfl rfl ?_
                  refine V_getR fa_Mod_29 sk_116 rfl d_Mod_plansOf_72 ?_
                  refine V_iload d_Mod_plansOf_75 rfl ?_
                  refine N_ialdK sk_123 tc_1 (by (first | decide +kernel | omega)) d_Mod_plansOf_77 K176 ?_
                  refine V_aload_n 0 d_Mod_plansOf_78 rfl rfl ?_
                  refine N_callVI [] [.int v175] cv_Mod_183 sk_116 rfl d_Mod_plansOf_79 rfl (Nat.le_of_ble_eq_true rfl) (by decide) (by decide) (c_Mod_cellMany h168 Ih168 w wZ wE K169 g gZ gE K170) (fun z235 h236 z235Z z235E p237 => ?_)
                  obtain ⟨eh236, p237⟩ := p237
                  subst eh236
                  refine V_icmp_lt 91 v175E z235E d_Mod_plansOf_82 (by decide) (fun c238 => ?_) (fun c238 => ?_)
                  ·
                    refine V_iload d_Mod_plansOf_91 rfl ?_
                    refine V_iload_n 3 d_Mod_plansOf_93 rfl rfl ?_
                    refine V_iconst 1 d_Mod_plansOf_94 (by decide) ?_
                    refine V_isub nE tc_1 (by (first | decide +kernel | omega)) d_Mod_plansOf_95 (fun z239 z239e z239E => ?_)
                    refine V_icmp_ge 113 tc_1 z239E d_Mod_plansOf_96 (by decide) (fun c240 => ?_) (fun c240 => ?_)
                    ·
                      refine V_aload_n 0 d_Mod_plansOf_113 rfl rfl ?_
                      refine V_iload_n 3 d_Mod_plansOf_114 rfl rfl ?_
                      refine V_iload_n 2 d_Mod_plansOf_115 rfl rfl ?_
                      refine N_callVL [.int n, .int d] [] cv_Mod_264 sk_116 rfl d_Mod_plansOf_116 rfl (Nat.le_of_ble_eq_true rfl) (by decide) (by decide) (c_Mod_meanOf h168 Ih168 n nZ nE d dZ dE (by (first | decide +kernel | omega))) (fun z241 h242 z241Z z241E p243 => ?_)
                      subst p243
                      refine V_lstore 5 [some (.ref 116), some (.int o), some (.int d), some (.int n), some (.int 1), some (.long z241), none, none] d_Mod_plansOf_119 (by decide) rfl rfl ?_
                      refine V_lload d_Mod_plansOf_121 rfl ?_
                      refine V_aload_n 0 d_Mod_plansOf_123 rfl rfl ?_
                      refine N_getLK fa_Mod_268 sk_116 rfl d_Mod_plansOf_124 K174 ?_
                      refine N_lcmp d_Mod_plansOf_127 (fun z244 z244Z z244E z244e => ?_)
                      have g245 := lcmp_ti z241E v26E z244e z244E
                      refine V_if_le 171 z244E d_Mod_plansOf_128 (by decide) (fun c246 => ?_) (fun c246 => ?_)
                      ·
                        refine V_goto 10 d_Mod_plansOf_171 (by decide) ?_
                        refine V_drop 5 [some (.ref 116), some (.int o), some (.int d), some (.int n), some (.int 1), none, none, none] rfl ?_
                        exact ihL6 1 1 h168 v18 v18Z v175 v175Z v22 v22Z v24 v24Z v26 v26Z tc_1 Ih168 Fh168 K169 K170 v18E K171 v175E K176 v22E K172 v24E K173 v26E K174 (by (first | decide +kernel | omega)) (by (first | decide +kernel | omega)) (by (first | decide +kernel | omega)) (by (first | decide +kernel | omega)) (by simp only [plM_m1, plM_0, plM_1, plM_2, plM_3] at hm32 ⊢; omega)
                      ·
                        refine V_aload_n 0 d_Mod_plansOf_131 rfl rfl ?_
                        refine V_lload d_Mod_plansOf_132 rfl ?_
                        refine N_putL fp_Mod_268 sk_116 rfl lo_116 d_Mod_plansOf_134 (fun h247 eh247 => ?_)
                        have hI248 : Inv h247 := inv_long Ih168 eh247
                        have f249 : fr S_Mod_plansOf h h247 := fr_long Fh168 eh247 rfl
                        refine V_aload_n 0 d_Mod_plansOf_137 rfl rfl ?_
                        refine V_iload_n 3 d_Mod_plansOf_138 rfl rfl ?_
                        refine N_putI fp_Mod_272 sk_116 rfl d_Mod_plansOf_139 (fun h250 eh250 => ?_)
                        have hI251 : Inv h250 := inv_put (lo := 0) (hi := 4) hI248 eh250 rfl nE (by (first | decide +kernel | omega))
                        have f252 : fr S_Mod_plansOf h h250 := fr_put f249 eh250 rfl
                        refine V_iconst 0 d_Mod_plansOf_142 (by decide) ?_
                        refine V_istore 7 [some (.ref 116), some (.int o), some (.int d), some (.int n), some (.int 1), some (.long z241), none, some (.int 0)] d_Mod_plansOf_143 (by decide) rfl rfl ?_
                        have L253 : ∀ (nn : Nat) (v255 : Int32) (v255Z : Int) (h256 : Hp), v255.toInt = v255Z → Inv h256 → fr S_Mod_plansOf h h256 → h256.1 116 2 = w → h256.1 116 3 = g → h256.1 123 0 = v18 → h256.1 123 1 = v175 → h256.1 123 2 = v22 → h256.1 123 3 = v24 → h256.2 = z241 → 0 ≤ v255Z ∧ v255Z ≤ nZ → nZ - v255Z < (nn : Int) → V R_Mod b_Mod_plansOf 8 none 1 31 (q_Mod_plansOf h o oZ d dZ n nZ w wZ g gZ m mZ) h256 145 [some (.ref 116), some (.int o), some (.int d), some (.int n), some (.int 1), some (.long z241), none, some (.int v255)] [] := by
                          intro nn
                          induction nn with
                          | zero => intro v255 v255Z h256 v255E Ih256 Fh256 K257 K258 K259 K260 K261 K262 K263 q264 hm265; exact absurd hm265 (by (first | decide +kernel | omega))
                          | succ nn ihL253 =>
                            intro v255 v255Z h256 v255E Ih256 Fh256 K257 K258 K259 K260 K261 K262 K263 q264 hm265
                            refine V_iload d_Mod_plansOf_145 rfl ?_
                            refine V_iload_n 3 d_Mod_plansOf_147 rfl rfl ?_
                            refine V_icmp_ge 171 v255E nE d_Mod_plansOf_148 (by decide) (fun c266 => ?_) (fun c266 => ?_)
                            ·
                              refine V_goto 10 d_Mod_plansOf_171 (by decide) ?_
                              refine V_drop 5 [some (.ref 116), some (.int o), some (.int d), some (.int n), some (.int 1), none, none, some (.int v255)] rfl ?_
                              refine V_drop 7 [some (.ref 116), some (.int o), some (.int d), some (.int n), some (.int 1), none, none, none] rfl ?_
                              exact ihL6 1 1 h256 v18 v18Z v175 v175Z v22 v22Z v24 v24Z z241 z241Z tc_1 Ih256 Fh256 K257 K258 v18E K259 v175E K260 v22E K261 v24E K262 z241E K263 (by (first | decide +kernel | omega)) (by (first | decide +kernel | omega)) (by (first | decide +kernel | omega)) (by (first | decide +kernel | omega)) (by simp only [plM_m1, plM_0, plM_1, plM_2, plM_3] at hm32 ⊢; omega)
                            ·
                              refine V_aload_n 0 d_Mod_plansOf_151 rfl rfl ?_
                              refine V_getR fa_Mod_32 sk_116 rfl d_Mod_plansOf_152 ?_
                              refine V_iload d_Mod_plansOf_155 rfl ?_
                              refine V_aload_n 0 d_Mod_plansOf_157 rfl rfl ?_
                              refine V_getR fa_Mod_29 sk_116 rfl d_Mod_plansOf_158 ?_
                              refine V_iload d_Mod_plansOf_161 rfl ?_
                              refine N_iald sk_123 v255E (by (first | decide +kernel | omega)) d_Mod_plansOf_163 (fun z267 z267Z z267E z267e => ?_)
                              have g268 : -1 ≤ z267Z ∧ z267Z ≤ 16 := inv_at Ih256 z267E z267e rfl
                              refine N_iast sk_124 v255E (by (first | decide +kernel | omega)) d_Mod_plansOf_164 (fun h269 eh269 => ?_)
                              have hI270 : Inv h269 := inv_full Ih256 eh269 rfl
                              have f271 : fr S_Mod_plansOf h h269 := fr_put Fh256 eh269 rfl
                              obtain ⟨z272, z272E, z272e⟩ : ∃ y : Int32, y.toInt = v255Z + 1 ∧ y = v255 + Int32.ofInt 1 := ⟨_, ti_add v255E (by decide) (by (first | decide +kernel | omega)), rfl⟩
                              refine V_iinc 7 [some (.ref 116), some (.int o), some (.int d), some (.int n), some (.int 1), some (.long z241), none, some (.int z272)] d_Mod_plansOf_165 rfl z272e.symm (by decide) rfl rfl ?_
                              refine V_goto 145 d_Mod_plansOf_168 (by decide) ?_
                              exact ihL253 z272 ((v255Z + 1)) h269 z272E hI270 f271 (kn_ne eh269 K257 (by decide)) (kn_ne eh269 K258 (by decide)) (kn_ne eh269 K259 (by decide)) (kn_ne eh269 K260 (by decide)) (kn_ne eh269 K261 (by decide)) (kn_ne eh269 K262 (by decide)) (knL_put eh269 K263) (by (first | decide +kernel | omega)) (by (first | decide +kernel | omega))
                        exact L253 (Int.toNat ((nZ - 0 : Int) + 1)) 0 0 h250 tc_0 hI251 f252 (kn_nei eh250 (kn_long eh247 K169) (by decide)) (kn_nei eh250 (kn_long eh247 K170) (by decide)) (kn_ne eh250 (kn_long eh247 K171) (by decide)) (kn_ne eh250 (kn_long eh247 K176) (by decide)) (kn_ne eh250 (kn_long eh247 K172) (by decide)) (kn_ne eh250 (kn_long eh247 K173) (by decide)) (knL_put eh250 (knL_long eh247)) (by (first | decide +kernel | omega)) (by (first | decide +kernel | omega))
                    ·
                      refine V_iinc (v := 2) 4 [some (.ref 116), some (.int o), some (.int d), some (.int n), some (.int 2), none, none, none] d_Mod_plansOf_99 rfl (by decide) (by decide) rfl rfl ?_
                      refine V_aload_n 0 d_Mod_plansOf_102 rfl rfl ?_
                      refine V_getR fa_Mod_29 sk_116 rfl d_Mod_plansOf_103 ?_
                      refine V_iload d_Mod_plansOf_106 rfl ?_
                      refine V_iconst (-1) d_Mod_plansOf_108 (by decide) ?_
                      refine N_iast sk_123 tc_2 (by (first | decide +kernel | omega)) d_Mod_plansOf_109 (fun h274 eh274 => ?_)
                      have hI275 : Inv h274 := inv_put (lo := -1) (hi := 16) Ih168 eh274 rfl tc_m1 (by (first | decide +kernel | omega))
                      have f276 : fr S_Mod_plansOf h h274 := fr_put Fh168 eh274 rfl
                      refine V_goto 10 d_Mod_plansOf_110 (by decide) ?_
                      exact ihL6 2 2 h274 v18 v18Z v175 v175Z (-1) ((-1)) v24 v24Z v26 v26Z tc_2 hI275 f276 (kn_ne eh274 K169 (by decide)) (kn_ne eh274 K170 (by decide)) v18E (kn_nei eh274 K171 (by decide)) v175E (kn_nei eh274 K176 (by decide)) tc_m1 (kn_put eh274) v24E (kn_nei eh274 K173 (by decide)) v26E (knL_put eh274 K174) (by (first | decide +kernel | omega)) (by (first | decide +kernel | omega)) (by (first | decide +kernel | omega)) (by (first | decide +kernel | omega)) (by simp only [plM_m1, plM_0, plM_1, plM_2, plM_3] at hm32 ⊢; omega)
                  ·
                    refine V_iinc (v := 0) 4 [some (.ref 116), some (.int o), some (.int d), some (.int n), some (.int 0), none, none, none] d_Mod_plansOf_85 rfl (by decide) (by decide) rfl rfl ?_
                    refine V_goto 10 d_Mod_plansOf_88 (by decide) ?_
                    exact ihL6 0 0 h168 v18 v18Z v175 v175Z v22 v22Z v24 v24Z v26 v26Z tc_0 Ih168 Fh168 K169 K170 v18E K171 v175E K176 v22E K172 v24E K173 v26E K174 (by (first | decide +kernel | omega)) (by (first | decide +kernel | omega)) (by (first | decide +kernel | omega)) (by (first | decide +kernel | omega)) (by simp only [plM_m1, plM_0, plM_1, plM_2, plM_3] at hm32 ⊢; omega)
                ·
                  refine V_aload_n 0 d_Mod_plansOf_57 rfl rfl ?_
                  refine V_getR fa_Mod_29 sk_116 rfl d_Mod_plansOf_58 ?_
                  refine V_iload d_Mod_plansOf_61 rfl ?_
                  refine V_dup2 d_Mod_plansOf_63 rfl rfl ?_
                  refine N_ialdK sk_123 tc_1 (by (first | decide +kernel | omega)) d_Mod_plansOf_64 K176 ?_
                  refine V_iconst 1 d_Mod_plansOf_65 (by decide) ?_
                  refine V_iadd v175E tc_1 (by (first | decide +kernel | omega)) d_Mod_plansOf_66 (fun z279 z279e z279E => ?_)
                  refine N_iast sk_123 tc_1 (by (first | decide +kernel | omega)) d_Mod_plansOf_67 (fun h280 eh280 => ?_)
                  have hI281 : Inv h280 := inv_put (lo := -1) (hi := 16) Ih168 eh280 rfl z279E (by (first | decide +kernel | omega))
                  have f282 : fr S_Mod_plansOf h h280 := fr_put Fh168 eh280 rfl
                  refine V_goto 26 d_Mod_plansOf_68 (by decide) ?_
                  exact ihL166 h280 z279 ((v175Z + 1)) hI281 f282 (kn_ne eh280 K169 (by decide)) (kn_ne eh280 K170 (by decide)) (kn_nei eh280 K171 (by decide)) (kn_nei eh280 K172 (by decide)) (kn_nei eh280 K173 (by decide)) (knL_put eh280 K174) z279E (kn_put eh280) (by (first | decide +kernel | omega)) (by (first | decide +kernel | omega))
          exact L166 (Int.toNat ((16 - (v20Z + 1) : Int) + 1)) h163 z162 ((v20Z + 1)) hI164 f165 (kn_ne eh163 K10 (by decide)) (kn_ne eh163 K11 (by decide)) (kn_nei eh163 K19 (by decide)) (kn_nei eh163 K23 (by decide)) (kn_nei eh163 K25 (by decide)) (knL_put eh163 K27) z162E (kn_put eh163) (by (first | decide +kernel | omega)) (by (first | decide +kernel | omega))
        ·
          obtain rfl : v8 = 2 := (ti_eq v8E tc_2).mpr c38
          subst c38
          refine V_aload_n 0 d_Mod_plansOf_15 rfl rfl ?_
          refine V_getR fa_Mod_29 sk_116 rfl d_Mod_plansOf_16 ?_
          refine V_iload d_Mod_plansOf_19 rfl ?_
          refine V_dup2 d_Mod_plansOf_21 rfl rfl ?_
          refine N_ialdK sk_123 tc_2 (by (first | decide +kernel | omega)) d_Mod_plansOf_22 K23 ?_
          refine V_iconst 1 d_Mod_plansOf_23 (by decide) ?_
          refine V_iadd v22E tc_1 (by (first | decide +kernel | omega)) d_Mod_plansOf_24 (fun z284 z284e z284E => ?_)
          refine N_iast sk_123 tc_2 (by (first | decide +kernel | omega)) d_Mod_plansOf_25 (fun h285 eh285 => ?_)
          have hI286 : Inv h285 := inv_put (lo := -1) (hi := 16) Ih9 eh285 rfl z284E (by (first | decide +kernel | omega))
          have f287 : fr S_Mod_plansOf h h285 := fr_put Fh9 eh285 rfl
          have L288 : ∀ (nn : Nat) (h290 : Hp) (v297 : Int32) (v297Z : Int), Inv h290 → fr S_Mod_plansOf h h290 → h290.1 116 2 = w → h290.1 116 3 = g → h290.1 123 0 = v18 → h290.1 123 1 = v20 → h290.1 123 3 = v24 → h290.2 = v26 → v297.toInt = v297Z → h290.1 123 2 = v297 → (v22Z + 1) ≤ v297Z ∧ 0 ≤ v297Z ∧ v297Z ≤ 16 → 16 - v297Z < (nn : Int) → V R_Mod b_Mod_plansOf 8 none 1 31 (q_Mod_plansOf h o oZ d dZ n nZ w wZ g gZ m mZ) h290 26 [some (.ref 116), some (.int o), some (.int d), some (.int n), some (.int 2), none, none, none] [] := by
            intro nn
            induction nn with
            | zero => intro h290 v297 v297Z Ih290 Fh290 K291 K292 K293 K294 K295 K296 v297E K298 q299 hm300; exact absurd hm300 (by (first | decide +kernel | omega))
            | succ nn ihL288 =>
              intro h290 v297 v297Z Ih290 Fh290 K291 K292 K293 K294 K295 K296 v297E K298 q299 hm300
              have g301 : -1 ≤ v297Z ∧ v297Z ≤ 16 := inv_at Ih290 v297E K298.symm rfl
              refine V_aload_n 0 d_Mod_plansOf_26 rfl rfl ?_
              refine V_getR fa_Mod_29 sk_116 rfl d_Mod_plansOf_27 ?_
              refine V_iload d_Mod_plansOf_30 rfl ?_
              refine N_ialdK sk_123 tc_2 (by (first | decide +kernel | omega)) d_Mod_plansOf_32 K298 ?_
              refine V_aload_n 0 d_Mod_plansOf_33 rfl rfl ?_
              refine N_callVI [] [.int v297] cv_Mod_183 sk_116 rfl d_Mod_plansOf_34 rfl (Nat.le_of_ble_eq_true rfl) (by decide) (by decide) (c_Mod_cellMany h290 Ih290 w wZ wE K291 g gZ gE K292) (fun z303 h304 z303Z z303E p305 => ?_)
              obtain ⟨eh304, p305⟩ := p305
              subst eh304
              refine V_icmp_ge 71 v297E z303E d_Mod_plansOf_37 (by decide) (fun c306 => ?_) (fun c306 => ?_)
              ·
                refine V_aload_n 0 d_Mod_plansOf_71 rfl rfl ?_
                refine V_getR fa_Mod_29 sk_116 rfl d_Mod_plansOf_72 ?_
                refine V_iload d_Mod_plansOf_75 rfl ?_
                refine N_ialdK sk_123 tc_2 (by (first | decide +kernel | omega)) d_Mod_plansOf_77 K298 ?_
                refine V_aload_n 0 d_Mod_plansOf_78 rfl rfl ?_
                refine N_callVI [] [.int v297] cv_Mod_183 sk_116 rfl d_Mod_plansOf_79 rfl (Nat.le_of_ble_eq_true rfl) (by decide) (by decide) (c_Mod_cellMany h290 Ih290 w wZ wE K291 g gZ gE K292) (fun z308 h309 z308Z z308E p310 => ?_)
                obtain ⟨eh309, p310⟩ := p310
                subst eh309
                refine V_icmp_lt 91 v297E z308E d_Mod_plansOf_82 (by decide) (fun c311 => ?_) (fun c311 => ?_)
                ·
                  refine V_iload d_Mod_plansOf_91 rfl ?_
                  refine V_iload_n 3 d_Mod_plansOf_93 rfl rfl ?_
                  refine V_iconst 1 d_Mod_plansOf_94 (by decide) ?_
                  refine V_isub nE tc_1 (by (first | decide +kernel | omega)) d_Mod_plansOf_95 (fun z312 z312e z312E => ?_)
                  refine V_icmp_ge 113 tc_2 z312E d_Mod_plansOf_96 (by decide) (fun c313 => ?_) (fun c313 => ?_)
                  ·
                    refine V_aload_n 0 d_Mod_plansOf_113 rfl rfl ?_
                    refine V_iload_n 3 d_Mod_plansOf_114 rfl rfl ?_
                    refine V_iload_n 2 d_Mod_plansOf_115 rfl rfl ?_
                    refine N_callVL [.int n, .int d] [] cv_Mod_264 sk_116 rfl d_Mod_plansOf_116 rfl (Nat.le_of_ble_eq_true rfl) (by decide) (by decide) (c_Mod_meanOf h290 Ih290 n nZ nE d dZ dE (by (first | decide +kernel | omega))) (fun z314 h315 z314Z z314E p316 => ?_)
                    subst p316
                    refine V_lstore 5 [some (.ref 116), some (.int o), some (.int d), some (.int n), some (.int 2), some (.long z314), none, none] d_Mod_plansOf_119 (by decide) rfl rfl ?_
                    refine V_lload d_Mod_plansOf_121 rfl ?_
                    refine V_aload_n 0 d_Mod_plansOf_123 rfl rfl ?_
                    refine N_getLK fa_Mod_268 sk_116 rfl d_Mod_plansOf_124 K296 ?_
                    refine N_lcmp d_Mod_plansOf_127 (fun z317 z317Z z317E z317e => ?_)
                    have g318 := lcmp_ti z314E v26E z317e z317E
                    refine V_if_le 171 z317E d_Mod_plansOf_128 (by decide) (fun c319 => ?_) (fun c319 => ?_)
                    ·
                      refine V_goto 10 d_Mod_plansOf_171 (by decide) ?_
                      refine V_drop 5 [some (.ref 116), some (.int o), some (.int d), some (.int n), some (.int 2), none, none, none] rfl ?_
                      exact ihL6 2 2 h290 v18 v18Z v20 v20Z v297 v297Z v24 v24Z v26 v26Z tc_2 Ih290 Fh290 K291 K292 v18E K293 v20E K294 v297E K298 v24E K295 v26E K296 (by (first | decide +kernel | omega)) (by (first | decide +kernel | omega)) (by (first | decide +kernel | omega)) (by (first | decide +kernel | omega)) (by simp only [plM_m1, plM_0, plM_1, plM_2, plM_3] at hm32 ⊢; omega)
                    ·
                      refine V_aload_n 0 d_Mod_plansOf_131 rfl rfl ?_
                      refine V_lload d_Mod_plansOf_132 rfl ?_
                      refine N_putL fp_Mod_268 sk_116 rfl lo_116 d_Mod_plansOf_134 (fun h320 eh320 => ?_)
                      have hI321 : Inv h320 := inv_long Ih290 eh320
                      have f322 : fr S_Mod_plansOf h h320 := fr_long Fh290 eh320 rfl
                      refine V_aload_n 0 d_Mod_plansOf_137 rfl rfl ?_
                      refine V_iload_n 3 d_Mod_plansOf_138 rfl rfl ?_
                      refine N_putI fp_Mod_272 sk_116 rfl d_Mod_plansOf_139 (fun h323 eh323 => ?_)
                      have hI324 : Inv h323 := inv_put (lo := 0) (hi := 4) hI321 eh323 rfl nE (by (first | decide +kernel | omega))
                      have f325 : fr S_Mod_plansOf h h323 := fr_put f322 eh323 rfl
                      refine V_iconst 0 d_Mod_plansOf_142 (by decide) ?_
                      refine V_istore 7 [some (.ref 116), some (.int o), some (.int d), some (.int n), some (.int 2), some (.long z314), none, some (.int 0)] d_Mod_plansOf_143 (by decide) rfl rfl ?_
                      have L326 : ∀ (nn : Nat) (v328 : Int32) (v328Z : Int) (h329 : Hp), v328.toInt = v328Z → Inv h329 → fr S_Mod_plansOf h h329 → h329.1 116 2 = w → h329.1 116 3 = g → h329.1 123 0 = v18 → h329.1 123 1 = v20 → h329.1 123 2 = v297 → h329.1 123 3 = v24 → h329.2 = z314 → 0 ≤ v328Z ∧ v328Z ≤ nZ → nZ - v328Z < (nn : Int) → V R_Mod b_Mod_plansOf 8 none 1 31 (q_Mod_plansOf h o oZ d dZ n nZ w wZ g gZ m mZ) h329 145 [some (.ref 116), some (.int o), some (.int d), some (.int n), some (.int 2), some (.long z314), none, some (.int v328)] [] := by
                        intro nn
                        induction nn with
                        | zero => intro v328 v328Z h329 v328E Ih329 Fh329 K330 K331 K332 K333 K334 K335 K336 q337 hm338; exact absurd hm338 (by (first | decide +kernel | omega))
                        | succ nn ihL326 =>
                          intro v328 v328Z h329 v328E Ih329 Fh329 K330 K331 K332 K333 K334 K335 K336 q337 hm338
                          refine V_iload d_Mod_plansOf_145 rfl ?_
                          refine V_iload_n 3 d_Mod_plansOf_147 rfl rfl ?_
                          refine V_icmp_ge 171 v328E nE d_Mod_plansOf_148 (by decide) (fun c339 => ?_) (fun c339 => ?_)
                          ·
                            refine V_goto 10 d_Mod_plansOf_171 (by decide) ?_
                            refine V_drop 5 [some (.ref 116), some (.int o), some (.int d), some (.int n), some (.int 2), none, none, some (.int v328)] rfl ?_
                            refine V_drop 7 [some (.ref 116), some (.int o), some (.int d), some (.int n), some (.int 2), none, none, none] rfl ?_
                            exact ihL6 2 2 h329 v18 v18Z v20 v20Z v297 v297Z v24 v24Z z314 z314Z tc_2 Ih329 Fh329 K330 K331 v18E K332 v20E K333 v297E K334 v24E K335 z314E K336 (by (first | decide +kernel | omega)) (by (first | decide +kernel | omega)) (by (first | decide +kernel | omega)) (by (first | decide +kernel | omega)) (by simp only [plM_m1, plM_0, plM_1, plM_2, plM_3] at hm32 ⊢; omega)
                          ·
                            refine V_aload_n 0 d_Mod_plansOf_151 rfl rfl ?_
                            refine V_getR fa_Mod_32 sk_116 rfl d_Mod_plansOf_152 ?_
                            refine V_iload d_Mod_plansOf_155 rfl ?_
                            refine V_aload_n 0 d_Mod_plansOf_157 rfl rfl ?_
                            refine V_getR fa_Mod_29 sk_116 rfl d_Mod_plansOf_158 ?_
                            refine V_iload d_Mod_plansOf_161 rfl ?_
                            refine N_iald sk_123 v328E (by (first | decide +kernel | omega)) d_Mod_plansOf_163 (fun z340 z340Z z340E z340e => ?_)
                            have g341 : -1 ≤ z340Z ∧ z340Z ≤ 16 := inv_at Ih329 z340E z340e rfl
                            refine N_iast sk_124 v328E (by (first | decide +kernel | omega)) d_Mod_plansOf_164 (fun h342 eh342 => ?_)
                            have hI343 : Inv h342 := inv_full Ih329 eh342 rfl
                            have f344 : fr S_Mod_plansOf h h342 := fr_put Fh329 eh342 rfl
                            obtain ⟨z345, z345E, z345e⟩ : ∃ y : Int32, y.toInt = v328Z + 1 ∧ y = v328 + Int32.ofInt 1 := ⟨_, ti_add v328E (by decide) (by (first | decide +kernel | omega)), rfl⟩
                            refine V_iinc 7 [some (.ref 116), some (.int o), some (.int d), some (.int n), some (.int 2), some (.long z314), none, some (.int z345)] d_Mod_plansOf_165 rfl z345e.symm (by decide) rfl rfl ?_
                            refine V_goto 145 d_Mod_plansOf_168 (by decide) ?_
                            exact ihL326 z345 ((v328Z + 1)) h342 z345E hI343 f344 (kn_ne eh342 K330 (by decide)) (kn_ne eh342 K331 (by decide)) (kn_ne eh342 K332 (by decide)) (kn_ne eh342 K333 (by decide)) (kn_ne eh342 K334 (by decide)) (kn_ne eh342 K335 (by decide)) (knL_put eh342 K336) (by (first | decide +kernel | omega)) (by (first | decide +kernel | omega))
                      exact L326 (Int.toNat ((nZ - 0 : Int) + 1)) 0 0 h323 tc_0 hI324 f325 (kn_nei eh323 (kn_long eh320 K291) (by decide)) (kn_nei eh323 (kn_long eh320 K292) (by decide)) (kn_ne eh323 (kn_long eh320 K293) (by decide)) (kn_ne eh323 (kn_long eh320 K294) (by decide)) (kn_ne eh323 (kn_long eh320 K298) (by decide)) (kn_ne eh323 (kn_long eh320 K295) (by decide)) (knL_put eh323 (knL_long eh320)) (by (first | decide +kernel | omega)) (by (first | decide +kernel | omega))
                  ·
                    refine V_iinc (v := 3) 4 [some (.ref 116), some (.int o), some (.int d), some (.int n), some (.int 3), none, none, none] d_Mod_plansOf_99 rfl (by decide) (by decide) rfl rfl ?_
                    refine V_aload_n 0 d_Mod_plansOf_102 rfl rfl ?_
                    refine V_getR fa_Mod_29 sk_116 rfl d_Mod_plansOf_103 ?_
                    refine V_iload d_Mod_plansOf_106 rfl ?_
                    refine V_iconst (-1) d_Mod_plansOf_108 (by decide) ?_
                    refine N_iast sk_123 tc_3 (by (first | decide +kernel | omega)) d_Mod_plansOf_109 (fun h347 eh347 => ?_)
                    have hI348 : Inv h347 := inv_put (lo := -1) (hi := 16) Ih290 eh347 rfl tc_m1 (by (first | decide +kernel | omega))
                    have f349 : fr S_Mod_plansOf h h347 := fr_put Fh290 eh347 rfl
                    refine V_goto 10 d_Mod_plansOf_110 (by decide) ?_
                    exact ihL6 3 3 h347 v18 v18Z v20 v20Z v297 v297Z (-1) ((-1)) v26 v26Z tc_3 hI348 f349 (kn_ne eh347 K291 (by decide)) (kn_ne eh347 K292 (by decide)) v18E (kn_nei eh347 K293 (by decide)) v20E (kn_nei eh347 K294 (by decide)) v297E (kn_nei eh347 K298 (by decide)) tc_m1 (kn_put eh347) v26E (knL_put eh347 K296) (by (first | decide +kernel | omega)) (by (first | decide +kernel | omega)) (by (first | decide +kernel | omega)) (by (first | decide +kernel | omega)) (by simp only [plM_m1, plM_0, plM_1, plM_2, plM_3] at hm32 ⊢; omega)
                ·
                  refine V_iinc (v := 1) 4 [some (.ref 116), some (.int o), some (.int d), some (.int n), some (.int 1), none, none, none] d_Mod_plansOf_85 rfl (by decide) (by decide) rfl rfl ?_
                  refine V_goto 10 d_Mod_plansOf_88 (by decide) ?_
                  exact ihL6 1 1 h290 v18 v18Z v20 v20Z v297 v297Z v24 v24Z v26 v26Z tc_1 Ih290 Fh290 K291 K292 v18E K293 v20E K294 v297E K298 v24E K295 v26E K296 (by (first | decide +kernel | omega)) (by (first | decide +kernel | omega)) (by (first | decide +kernel | omega)) (by (first | decide +kernel | omega)) (by simp only [plM_m1, plM_0, plM_1, plM_2, plM_3] at hm32 ⊢; omega)
              ·
                refine V_aload_n 0 d_Mod_plansOf_40 rfl rfl ?_
                refine V_iload_n 1 d_Mod_plansOf_41 rfl rfl ?_
                refine V_aload_n 0 d_Mod_plansOf_42 rfl rfl ?_
                refine V_getR fa_Mod_29 sk_116 rfl d_Mod_plansOf_43 ?_
                refine V_iload d_Mod_plansOf_46 rfl ?_
                refine N_ialdK sk_123 tc_2 (by (first | decide +kernel | omega)) d_Mod_plansOf_48 K298 ?_
                refine V_iload d_Mod_plansOf_49 rfl ?_
                refine N_callVI [.int o, .int v297, .int 2] [] cv_Mod_261 sk_116 rfl d_Mod_plansOf_51 rfl (Nat.le_of_ble_eq_true rfl) (by decide) (by decide) (c_Mod_isFree h290 Ih290 o oZ oE v297 v297Z v297E 2 2 tc_2 (by (first | decide +kernel | omega)) (by (first | decide +kernel | omega))) (fun z352 h353 z352Z z352E p354 => ?_)
                obtain ⟨eh353, p354⟩ := p354
                subst eh353
                refine V_if_ne 71 z352E d_Mod_plansOf_54 (by decide) (fun c355 => ?_) (fun c355 => ?_)
                ·
                  refine V_aload_n 0 d_Mod_plansOf_71 rfl rfl ?_
                  refine V_getR fa_Mod_29 sk_116 rfl d_Mod_plansOf_72 ?_
                  refine V_iload d_Mod_plansOf_75 rfl ?_
                  refine N_ialdK sk_123 tc_2 (by (first | decide +kernel | omega)) d_Mod_plansOf_77 K298 ?_
                  refine V_aload_n 0 d_Mod_plansOf_78 rfl rfl ?_
                  refine N_callVI [] [.int v297] cv_Mod_183 sk_116 rfl d_Mod_plansOf_79 rfl (Nat.le_of_ble_eq_true rfl) (by decide) (by decide) (c_Mod_cellMany h290 Ih290 w wZ wE K291 g gZ gE K292) (fun z357 h358 z357Z z357E p359 => ?_)
                  obtain ⟨eh358, p359⟩ := p359
                  subst eh358
                  refine V_icmp_lt 91 v297E z357E d_Mod_plansOf_82 (by decide) (fun c360 => ?_) (fun c360 => ?_)
                  ·
                    refine V_iload d_Mod_plansOf_91 rfl ?_
                    refine V_iload_n 3 d_Mod_plansOf_93 rfl rfl ?_
                    refine V_iconst 1 d_Mod_plansOf_94 (by decide) ?_
                    refine V_isub nE tc_1 (by (first | decide +kernel | omega)) d_Mod_plansOf_95 (fun z361 z361e z361E => ?_)
                    refine V_icmp_ge 113 tc_2 z361E d_Mod_plansOf_96 (by decide) (fun c362 => ?_) (fun c362 => ?_)
                    ·
                      refine V_aload_n 0 d_Mod_plansOf_113 rfl rfl ?_
                      refine V_iload_n 3 d_Mod_plansOf_114 rfl rfl ?_
                      refine V_iload_n 2 d_Mod_plansOf_115 rfl rfl ?_
                      refine N_callVL [.int n, .int d] [] cv_Mod_264 sk_116 rfl d_Mod_plansOf_116 rfl (Nat.le_of_ble_eq_true rfl) (by decide) (by decide) (c_Mod_meanOf h290 Ih290 n nZ nE d dZ dE (by (first | decide +kernel | omega))) (fun z363 h364 z363Z z363E p365 => ?_)
                      subst p365
                      refine V_lstore 5 [some (.ref 116), some (.int o), some (.int d), some (.int n), some (.int 2), some (.long z363), none, none] d_Mod_plansOf_119 (by decide) rfl rfl ?_
                      refine V_lload d_Mod_plansOf_121 rfl ?_
                      refine V_aload_n 0 d_Mod_plansOf_123 rfl rfl ?_
                      refine N_getLK fa_Mod_268 sk_116 rfl d_Mod_plansOf_124 K296 ?_
                      refine N_lcmp d_Mod_plansOf_127 (fun z366 z366Z z366E z366e => ?_)
                      have g367 := lcmp_ti z363E v26E z366e z366E
                      refine V_if_le 171 z366E d_Mod_plansOf_128 (by decide) (fun c368 => ?_) (fun c368 => ?_)
                      ·
                        refine V_goto 10 d_Mod_plansOf_171 (by decide) ?_
                        refine V_drop 5 [some (.ref 116), some (.int o), some (.int d), some (.int n), some (.int 2), none, none, none] rfl ?_
                        exact ihL6 2 2 h290 v18 v18Z v20 v20Z v297 v297Z v24 v24Z v26 v26Z tc_2 Ih290 Fh290 K291 K292 v18E K293 v20E K294 v297E K298 v24E K295 v26E K296 (by (first | decide +kernel | omega)) (by (first | decide +kernel | omega)) (by (first | decide +kernel | omega)) (by (first | decide +kernel | omega)) (by simp only [plM_m1, plM_0, plM_1, plM_2, plM_3] at hm32 ⊢; omega)
                      ·
                        refine V_aload_n 0 d_Mod_plansOf_131 rfl rfl ?_
                        refine V_lload d_Mod_plansOf_132 rfl ?_
                        refine N_putL fp_Mod_268 sk_116 rfl lo_116 d_Mod_plansOf_134 (fun h369 eh369 => ?_)
                        have hI370 : Inv h369 := inv_long Ih290 eh369
                        have f371 : fr S_Mod_plansOf h h369 := fr_long Fh290 eh369 rfl
                        refine V_aload_n 0 d_Mod_plansOf_137 rfl rfl ?_
                        refine V_iload_n 3 d_Mod_plansOf_138 rfl rfl ?_
                        refine N_putI fp_Mod_272 sk_116 rfl d_Mod_plansOf_139 (fun h372 eh372 => ?_)
                        have hI373 : Inv h372 := inv_put (lo := 0) (hi := 4) hI370 eh372 rfl nE (by (first | decide +kernel | omega))
                        have f374 : fr S_Mod_plansOf h h372 := fr_put f371 eh372 rfl
                        refine V_iconst 0 d_Mod_plansOf_142 (by decide) ?_
                        refine V_istore 7 [some (.ref 116), some (.int o), some (.int d), some (.int n), some (.int 2), some (.long z363), none, some (.int 0)] d_Mod_plansOf_143 (by decide) rfl rfl ?_
                        have L375 : ∀ (nn : Nat) (v377 : Int32) (v377Z : Int) (h378 : Hp), v377.toInt = v377Z → Inv h378 → fr S_Mod_plansOf h h378 → h378.1 116 2 = w → h378.1 116 3 = g → h378.1 123 0 = v18 → h378.1 123 1 = v20 → h378.1 123 2 = v297 → h378.1 123 3 = v24 → h378.2 = z363 → 0 ≤ v377Z ∧ v377Z ≤ nZ → nZ - v377Z < (nn : Int) → V R_Mod b_Mod_plansOf 8 none 1 31 (q_Mod_plansOf h o oZ d dZ n nZ w wZ g gZ m mZ) h378 145 [some (.ref 116), some (.int o), some (.int d), some (.int n), some (.int 2), some (.long z363), none, some (.int v377)] [] := by
                          intro nn
                          induction nn with
                          | zero => intro v377 v377Z h378 v377E Ih378 Fh378 K379 K380 K381 K382 K383 K384 K385 q386 hm387; exact absurd hm387 (by (first | decide +kernel | omega))
                          | succ nn ihL375 =>
                            intro v377 v377Z h378 v377E Ih378 Fh378 K379 K380 K381 K382 K383 K384 K385 q386 hm387
                            refine V_iload d_Mod_plansOf_145 rfl ?_
                            refine V_iload_n 3 d_Mod_plansOf_147 rfl rfl ?_
                            refine V_icmp_ge 171 v377E nE d_Mod_plansOf_148 (by decide) (fun c388 => ?_) (fun c388 => ?_)
                            ·
                              refine V_goto 10 d_Mod_plansOf_171 (by decide) ?_
                              refine V_drop 5 [some (.ref 116), some (.int o), some (.int d), some (.int n), some (.int 2), none, none, some (.int v377)] rfl ?_
                              refine V_drop 7 [some (.ref 116), some (.int o), some (.int d), some (.int n), some (.int 2), none, none, none] rfl ?_
                              exact ihL6 2 2 h378 v18 v18Z v20 v20Z v297 v297Z v24 v24Z z363 z363Z tc_2 Ih378 Fh378 K379 K380 v18E K381 v20E K382 v297E K383 v24E K384 z363E K385 (by (first | decide +kernel | omega)) (by (first | decide +kernel | omega)) (by (first | decide +kernel | omega)) (by (first | decide +kernel | omega)) (by simp only [plM_m1, plM_0, plM_1, plM_2, plM_3] at hm32 ⊢; omega)
                            ·
                              refine V_aload_n 0 d_Mod_plansOf_151 rfl rfl ?_
                              refine V_getR fa_Mod_32 sk_116 rfl d_Mod_plansOf_152 ?_
                              refine V_iload d_Mod_plansOf_155 rfl ?_
                              refine V_aload_n 0 d_Mod_plansOf_157 rfl rfl ?_
                              refine V_getR fa_Mod_29 sk_116 rfl d_Mod_plansOf_158 ?_
                              refine V_iload d_Mod_plansOf_161 rfl ?_
                              refine N_iald sk_123 v377E (by (first | decide +kernel | omega)) d_Mod_plansOf_163 (fun z389 z389Z z389E z389e => ?_)
                              have g390 : -1 ≤ z389Z ∧ z389Z ≤ 16 := inv_at Ih378 z389E z389e rfl
                              refine N_iast sk_124 v377E (by (first | decide +kernel | omega)) d_Mod_plansOf_164 (fun h391 eh391 => ?_)
                              have hI392 : Inv h391 := inv_full Ih378 eh391 rfl
                              have f393 : fr S_Mod_plansOf h h391 := fr_put Fh378 eh391 rfl
                              obtain ⟨z394, z394E, z394e⟩ : ∃ y : Int32, y.toInt = v377Z + 1 ∧ y = v377 + Int32.ofInt 1 := ⟨_, ti_add v377E (by decide) (by (first | decide +kernel | omega)), rfl⟩
                              refine V_iinc 7 [some (.ref 116), some (.int o), some (.int d), some (.int n), some (.int 2), some (.long z363), none, some (.int z394)] d_Mod_plansOf_165 rfl z394e.symm (by decide) rfl rfl ?_
                              refine V_goto 145 d_Mod_plansOf_168 (by decide) ?_
                              exact ihL375 z394 ((v377Z + 1)) h391 z394E hI392 f393 (kn_ne eh391 K379 (by decide)) (kn_ne eh391 K380 (by decide)) (kn_ne eh391 K381 (by decide)) (kn_ne eh391 K382 (by decide)) (kn_ne eh391 K383 (by decide)) (kn_ne eh391 K384 (by decide)) (knL_put eh391 K385) (by (first | decide +kernel | omega)) (by (first | decide +kernel | omega))
                        exact L375 (Int.toNat ((nZ - 0 : Int) + 1)) 0 0 h372 tc_0 hI373 f374 (kn_nei eh372 (kn_long eh369 K291) (by decide)) (kn_nei eh372 (kn_long eh369 K292) (by decide)) (kn_ne eh372 (kn_long eh369 K293) (by decide)) (kn_ne eh372 (kn_long eh369 K294) (by decide)) (kn_ne eh372 (kn_long eh369 K298) (by decide)) (kn_ne eh372 (kn_long eh369 K295) (by decide)) (knL_put eh372 (knL_long eh369)) (by (first | decide +kernel | omega)) (by (first | decide +kernel | omega))
                    ·
                      refine V_iinc (v := 3) 4 [some (.ref 116), some (.int o), some (.int d), some (.int n), some (.int 3), none, none, none] d_Mod_plansOf_99 rfl (by decide) (by decide) rfl rfl ?_
                      refine V_aload_n 0 d_Mod_plansOf_102 rfl rfl ?_
                      refine V_getR fa_Mod_29 sk_116 rfl d_Mod_plansOf_103 ?_
                      refine V_iload d_Mod_plansOf_106 rfl ?_
                      refine V_iconst (-1) d_Mod_plansOf_108 (by decide) ?_
                      refine N_iast sk_123 tc_3 (by (first | decide +kernel | omega)) d_Mod_plansOf_109 (fun h396 eh396 => ?_)
                      have hI397 : Inv h396 := inv_put (lo := -1) (hi := 16) Ih290 eh396 rfl tc_m1 (by (first | decide +kernel | omega))
                      have f398 : fr S_Mod_plansOf h h396 := fr_put Fh290 eh396 rfl
                      refine V_goto 10 d_Mod_plansOf_110 (by decide) ?_
                      exact ihL6 3 3 h396 v18 v18Z v20 v20Z v297 v297Z (-1) ((-1)) v26 v26Z tc_3 hI397 f398 (kn_ne eh396 K291 (by decide)) (kn_ne eh396 K292 (by decide)) v18E (kn_nei eh396 K293 (by decide)) v20E (kn_nei eh396 K294 (by decide)) v297E (kn_nei eh396 K298 (by decide)) tc_m1 (kn_put eh396) v26E (knL_put eh396 K296) (by (first | decide +kernel | omega)) (by (first | decide +kernel | omega)) (by (first | decide +kernel | omega)) (by (first | decide +kernel | omega)) (by simp only [plM_m1, plM_0, plM_1, plM_2, plM_3] at hm32 ⊢; omega)
                  ·
                    refine V_iinc (v := 1) 4 [some (.ref 116), some (.int o), some (.int d), some (.int n), some (.int 1), none, none, none] d_Mod_plansOf_85 rfl (by decide) (by decide) rfl rfl ?_
                    refine V_goto 10 d_Mod_plansOf_88 (by decide) ?_
                    exact ihL6 1 1 h290 v18 v18Z v20 v20Z v297 v297Z v24 v24Z v26 v26Z tc_1 Ih290 Fh290 K291 K292 v18E K293 v20E K294 v297E K298 v24E K295 v26E K296 (by (first | decide +kernel | omega)) (by (first | decide +kernel | omega)) (by (first | decide +kernel | omega)) (by (first | decide +kernel | omega)) (by simp only [plM_m1, plM_0, plM_1, plM_2, plM_3] at hm32 ⊢; omega)
                ·
                  refine V_aload_n 0 d_Mod_plansOf_57 rfl rfl ?_
                  refine V_getR fa_Mod_29 sk_116 rfl d_Mod_plansOf_58 ?_
                  refine V_iload d_Mod_plansOf_61 rfl ?_
                  refine V_dup2 d_Mod_plansOf_63 rfl rfl ?_
                  refine N_ialdK sk_123 tc_2 (by (first | decide +kernel | omega)) d_Mod_plansOf_64 K298 ?_
                  refine V_iconst 1 d_Mod_plansOf_65 (by decide) ?_
                  refine V_iadd v297E tc_1 (by (first | decide +kernel | omega)) d_Mod_plansOf_66 (fun z401 z401e z401E => ?_)
                  refine N_iast sk_123 tc_2 (by (first | decide +kernel | omega)) d_Mod_plansOf_67 (fun h402 eh402 => ?_)
                  have hI403 : Inv h402 := inv_put (lo := -1) (hi := 16) Ih290 eh402 rfl z401E (by (first | decide +kernel | omega))
                  have f404 : fr S_Mod_plansOf h h402 := fr_put Fh290 eh402 rfl
                  refine V_goto 26 d_Mod_plansOf_68 (by decide) ?_
                  exact ihL288 h402 z401 ((v297Z + 1)) hI403 f404 (kn_ne eh402 K291 (by decide)) (kn_ne eh402 K292 (by decide)) (kn_nei eh402 K293 (by decide)) (kn_nei eh402 K294 (by decide)) (kn_nei eh402 K295 (by decide)) (knL_put eh402 K296) z401E (kn_put eh402) (by (first | decide +kernel | omega)) (by (first | decide +kernel | omega))
          exact L288 (Int.toNat ((16 - (v22Z + 1) : Int) + 1)) h285 z284 ((v22Z + 1)) hI286 f287 (kn_ne eh285 K10 (by decide)) (kn_ne eh285 K11 (by decide)) (kn_nei eh285 K19 (by decide)) (kn_nei eh285 K21 (by decide)) (kn_nei eh285 K25 (by decide)) (knL_put eh285 K27) z284E (kn_put eh285) (by (first | decide +kernel | omega)) (by (first | decide +kernel | omega))
        ·
          obtain rfl : v8 = 3 := (ti_eq v8E tc_3).mpr c38
          subst c38
          refine V_aload_n 0 d_Mod_plansOf_15 rfl rfl ?_
          refine V_getR fa_Mod_29 sk_116 rfl d_Mod_plansOf_16 ?_
          refine V_iload d_Mod_plansOf_19 rfl ?_
          refine V_dup2 d_Mod_plansOf_21 rfl rfl ?_
          refine N_ialdK sk_123 tc_3 (by (first | decide +kernel | omega)) d_Mod_plansOf_22 K25 ?_
          refine V_iconst 1 d_Mod_plansOf_23 (by decide) ?_
          refine V_iadd v24E tc_1 (by (first | decide +kernel | omega)) d_Mod_plansOf_24 (fun z406 z406e z406E => ?_)
          refine N_iast sk_123 tc_3 (by (first | decide +kernel | omega)) d_Mod_plansOf_25 (fun h407 eh407 => ?_)
          have hI408 : Inv h407 := inv_put (lo := -1) (hi := 16) Ih9 eh407 rfl z406E (by (first | decide +kernel | omega))
          have f409 : fr S_Mod_plansOf h h407 := fr_put Fh9 eh407 rfl
          have L410 : ∀ (nn : Nat) (h412 : Hp) (v419 : Int32) (v419Z : Int), Inv h412 → fr S_Mod_plansOf h h412 → h412.1 116 2 = w → h412.1 116 3 = g → h412.1 123 0 = v18 → h412.1 123 1 = v20 → h412.1 123 2 = v22 → h412.2 = v26 → v419.toInt = v419Z → h412.1 123 3 = v419 → (v24Z + 1) ≤ v419Z ∧ 0 ≤ v419Z ∧ v419Z ≤ 16 → 16 - v419Z < (nn : Int) → V R_Mod b_Mod_plansOf 8 none 1 31 (q_Mod_plansOf h o oZ d dZ n nZ w wZ g gZ m mZ) h412 26 [some (.ref 116), some (.int o), some (.int d), some (.int n), some (.int 3), none, none, none] [] := by
            intro nn
            induction nn with
            | zero => intro h412 v419 v419Z Ih412 Fh412 K413 K414 K415 K416 K417 K418 v419E K420 q421 hm422; exact absurd hm422 (by (first | decide +kernel | omega))
            | succ nn ihL410 =>
              intro h412 v419 v419Z Ih412 Fh412 K413 K414 K415 K416 K417 K418 v419E K420 q421 hm422
              have g423 : -1 ≤ v419Z ∧ v419Z ≤ 16 := inv_at Ih412 v419E K420.symm rfl
              refine V_aload_n 0 d_Mod_plansOf_26 rfl rfl ?_
              refine V_getR fa_Mod_29 sk_116 rfl d_Mod_plansOf_27 ?_
              refine V_iload d_Mod_plansOf_30 rfl ?_
              refine N_ialdK sk_123 tc_3 (by (first | decide +kernel | omega)) d_Mod_plansOf_32 K420 ?_
              refine V_aload_n 0 d_Mod_plansOf_33 rfl rfl ?_
              refine N_callVI [] [.int v419] cv_Mod_183 sk_116 rfl d_Mod_plansOf_34 rfl (Nat.le_of_ble_eq_true rfl) (by decide) (by decide) (c_Mod_cellMany h412 Ih412 w wZ wE K413 g gZ gE K414) (fun z425 h426 z425Z z425E p427 => ?_)
              obtain ⟨eh426, p427⟩ := p427
              subst eh426
              refine V_icmp_ge 71 v419E z425E d_Mod_plansOf_37 (by decide) (fun c428 => ?_) (fun c428 => ?_)
              ·
                refine V_aload_n 0 d_Mod_plansOf_71 rfl rfl ?_
                refine V_getR fa_Mod_29 sk_116 rfl d_Mod_plansOf_72 ?_
                refine V_iload d_Mod_plansOf_75 rfl ?_
                refine N_ialdK sk_123 tc_3 (by (first | decide +kernel | omega)) d_Mod_plansOf_77 K420 ?_
                refine V_aload_n 0 d_Mod_plansOf_78 rfl rfl ?_
                refine N_callVI [] [.int v419] cv_Mod_183 sk_116 rfl d_Mod_plansOf_79 rfl (Nat.le_of_ble_eq_true rfl) (by decide) (by decide) (c_Mod_cellMany h412 Ih412 w wZ wE K413 g gZ gE K414) (fun z430 h431 z430Z z430E p432 => ?_)
                obtain ⟨eh431, p432⟩ := p432
                subst eh431
                refine V_icmp_lt 91 v419E z430E d_Mod_plansOf_82 (by decide) (fun c433 => ?_) (fun c433 => ?_)
                ·
                  refine V_iload d_Mod_plansOf_91 rfl ?_
                  refine V_iload_n 3 d_Mod_plansOf_93 rfl rfl ?_
                  refine V_iconst 1 d_Mod_plansOf_94 (by decide) ?_
                  refine V_isub nE tc_1 (by (first | decide +kernel | omega)) d_Mod_plansOf_95 (fun z434 z434e z434E => ?_)
                  refine V_icmp_ge 113 tc_3 z434E d_Mod_plansOf_96 (by decide) (fun c435 => ?_) (fun c435 => ?_)
                  ·
                    refine V_aload_n 0 d_Mod_plansOf_113 rfl rfl ?_
                    refine V_iload_n 3 d_Mod_plansOf_114 rfl rfl ?_
                    refine V_iload_n 2 d_Mod_plansOf_115 rfl rfl ?_
                    refine N_callVL [.int n, .int d] [] cv_Mod_264 sk_116 rfl d_Mod_plansOf_116 rfl (Nat.le_of_ble_eq_true rfl) (by decide) (by decide) (c_Mod_meanOf h412 Ih412 n nZ nE d dZ dE (by (first | decide +kernel | omega))) (fun z436 h437 z436Z z436E p438 => ?_)
                    subst p438
                    refine V_lstore 5 [some (.ref 116), some (.int o), some (.int d), some (.int n), some (.int 3), some (.long z436), none, none] d_Mod_plansOf_119 (by decide) rfl rfl ?_
                    refine V_lload d_Mod_plansOf_121 rfl ?_
                    refine V_aload_n 0 d_Mod_plansOf_123 rfl rfl ?_
                    refine N_getLK fa_Mod_268 sk_116 rfl d_Mod_plansOf_124 K418 ?_
                    refine N_lcmp d_Mod_plansOf_127 (fun z439 z439Z z439E z439e => ?_)
                    have g440 := lcmp_ti z436E v26E z439e z439E
                    refine V_if_le 171 z439E d_Mod_plansOf_128 (by decide) (fun c441 => ?_) (fun c441 => ?_)
                    ·
                      refine V_goto 10 d_Mod_plansOf_171 (by decide) ?_
                      refine V_drop 5 [some (.ref 116), some (.int o), some (.int d), some (.int n), some (.int 3), none, none, none] rfl ?_
                      exact ihL6 3 3 h412 v18 v18Z v20 v20Z v22 v22Z v419 v419Z v26 v26Z tc_3 Ih412 Fh412 K413 K414 v18E K415 v20E K416 v22E K417 v419E K420 v26E K418 (by (first | decide +kernel | omega)) (by (first | decide +kernel | omega)) (by (first | decide +kernel | omega)) (by (first | decide +kernel | omega)) (by simp only [plM_m1, plM_0, plM_1, plM_2, plM_3] at hm32 ⊢; omega)
                    ·
                      refine V_aload_n 0 d_Mod_plansOf_131 rfl rfl ?_
                      refine V_lload d_Mod_plansOf_132 rfl ?_
                      refine N_putL fp_Mod_268 sk_116 rfl lo_116 d_Mod_plansOf_134 (fun h442 eh442 => ?_)
                      have hI443 : Inv h442 := inv_long Ih412 eh442
                      have f444 : fr S_Mod_plansOf h h442 := fr_long Fh412 eh442 rfl
                      refine V_aload_n 0 d_Mod_plansOf_137 rfl rfl ?_
                      refine V_iload_n 3 d_Mod_plansOf_138 rfl rfl ?_
                      refine N_putI fp_Mod_272 sk_116 rfl d_Mod_plansOf_139 (fun h445 eh445 => ?_)
                      have hI446 : Inv h445 := inv_put (lo := 0) (hi := 4) hI443 eh445 rfl nE (by (first | decide +kernel | omega))
                      have f447 : fr S_Mod_plansOf h h445 := fr_put f444 eh445 rfl
                      refine V_iconst 0 d_Mod_plansOf_142 (by decide) ?_
                      refine V_istore 7 [some (.ref 116), some (.int o), some (.int d), some (.int n), some (.int 3), some (.long z436), none, some (.int 0)] d_Mod_plansOf_143 (by decide) rfl rfl ?_
                      have L448 : ∀ (nn : Nat) (v450 : Int32) (v450Z : Int) (h451 : Hp), v450.toInt = v450Z → Inv h451 → fr S_Mod_plansOf h h451 → h451.1 116 2 = w → h451.1 116 3 = g → h451.1 123 0 = v18 → h451.1 123 1 = v20 → h451.1 123 2 = v22 → h451.1 123 3 = v419 → h451.2 = z436 → 0 ≤ v450Z ∧ v450Z ≤ nZ → nZ - v450Z < (nn : Int) → V R_Mod b_Mod_plansOf 8 none 1 31 (q_Mod_plansOf h o oZ d dZ n nZ w wZ g gZ m mZ) h451 145 [some (.ref 116), some (.int o), some (.int d), some (.int n), some (.int 3), some (.long z436), none, some (.int v450)] [] := by
                        intro nn
                        induction nn with
                        | zero => intro v450 v450Z h451 v450E Ih451 Fh451 K452 K453 K454 K455 K456 K457 K458 q459 hm460; exact absurd hm460 (by (first | decide +kernel | omega))
                        | succ nn ihL448 =>
                          intro v450 v450Z h451 v450E Ih451 Fh451 K452 K453 K454 K455 K456 K457 K458 q459 hm460
                          refine V_iload d_Mod_plansOf_145 rfl ?_
                          refine V_iload_n 3 d_Mod_plansOf_147 rfl rfl ?_
                          refine V_icmp_ge 171 v450E nE d_Mod_plansOf_148 (by decide) (fun c461 => ?_) (fun c461 => ?_)
                          ·
                            refine V_goto 10 d_Mod_plansOf_171 (by decide) ?_
                            refine V_drop 5 [some (.ref 116), some (.int o), some (.int d), some (.int n), some (.int 3), none, none, some (.int v450)] rfl ?_
                            refine V_drop 7 [some (.ref 116), some (.int o), some (.int d), some (.int n), some (.int 3), none, none, none] rfl ?_
                            exact ihL6 3 3 h451 v18 v18Z v20 v20Z v22 v22Z v419 v419Z z436 z436Z tc_3 Ih451 Fh451 K452 K453 v18E K454 v20E K455 v22E K456 v419E K457 z436E K458 (by (first | decide +kernel | omega)) (by (first | decide +kernel | omega)) (by (first | decide +kernel | omega)) (by (first | decide +kernel | omega)) (by simp only [plM_m1, plM_0, plM_1, plM_2, plM_3] at hm32 ⊢; omega)
                          ·
                            refine V_aload_n 0 d_Mod_plansOf_151 rfl rfl ?_
                            refine V_getR fa_Mod_32 sk_116 rfl d_Mod_plansOf_152 ?_
                            refine V_iload d_Mod_plansOf_155 rfl ?_
                            refine V_aload_n 0 d_Mod_plansOf_157 rfl rfl ?_
                            refine V_getR fa_Mod_29 sk_116 rfl d_Mod_plansOf_158 ?_
                            refine V_iload d_Mod_plansOf_161 rfl ?_
                            refine N_iald sk_123 v450E (by (first | decide +kernel | omega)) d_Mod_plansOf_163 (fun z462 z462Z z462E z462e => ?_)
                            have g463 : -1 ≤ z462Z ∧ z462Z ≤ 16 := inv_at Ih451 z462E z462e rfl
                            refine N_iast sk_124 v450E (by (first | decide +kernel | omega)) d_Mod_plansOf_164 (fun h464 eh464 => ?_)
                            have hI465 : Inv h464 := inv_full Ih451 eh464 rfl
                            have f466 : fr S_Mod_plansOf h h464 := fr_put Fh451 eh464 rfl
                            obtain ⟨z467, z467E, z467e⟩ : ∃ y : Int32, y.toInt = v450Z + 1 ∧ y = v450 + Int32.ofInt 1 := ⟨_, ti_add v450E (by decide) (by (first | decide +kernel | omega)), rfl⟩
                            refine V_iinc 7 [some (.ref 116), some (.int o), some (.int d), some (.int n), some (.int 3), some (.long z436), none, some (.int z467)] d_Mod_plansOf_165 rfl z467e.symm (by decide) rfl rfl ?_
                            refine V_goto 145 d_Mod_plansOf_168 (by decide) ?_
                            exact ihL448 z467 ((v450Z + 1)) h464 z467E hI465 f466 (kn_ne eh464 K452 (by decide)) (kn_ne eh464 K453 (by decide)) (kn_ne eh464 K454 (by decide)) (kn_ne eh464 K455 (by decide)) (kn_ne eh464 K456 (by decide)) (kn_ne eh464 K457 (by decide)) (knL_put eh464 K458) (by (first | decide +kernel | omega)) (by (first | decide +kernel | omega))
                      exact L448 (Int.toNat ((nZ - 0 : Int) + 1)) 0 0 h445 tc_0 hI446 f447 (kn_nei eh445 (kn_long eh442 K413) (by decide)) (kn_nei eh445 (kn_long eh442 K414) (by decide)) (kn_ne eh445 (kn_long eh442 K415) (by decide)) (kn_ne eh445 (kn_long eh442 K416) (by decide)) (kn_ne eh445 (kn_long eh442 K417) (by decide)) (kn_ne eh445 (kn_long eh442 K420) (by decide)) (knL_put eh445 (knL_long eh442)) (by (first | decide +kernel | omega)) (by (first | decide +kernel | omega))
                  ·
                    refine V_iinc (v := 4) 4 [some (.ref 116), some (.int o), some (.int d), some (.int n), some (.int 4), none, none, none] d_Mod_plansOf_99 rfl (by decide) (by decide) rfl rfl ?_
                    refine V_aload_n 0 d_Mod_plansOf_102 rfl rfl ?_
                    refine V_getR fa_Mod_29 sk_116 rfl d_Mod_plansOf_103 ?_
                    refine V_iload d_Mod_plansOf_106 rfl ?_
                    refine V_iconst (-1) d_Mod_plansOf_108 (by decide) ?_
                    refine N_iast sk_123 tc_4 (by (first | decide +kernel | omega)) d_Mod_plansOf_109 (fun h469 eh469 => ?_)
                    have hI470 : Inv h469 := inv_put (lo := -1) (hi := 16) Ih412 eh469 rfl tc_m1 (by (first | decide +kernel | omega))
                    have f471 : fr S_Mod_plansOf h h469 := fr_put Fh412 eh469 rfl
                    refine V_goto 10 d_Mod_plansOf_110 (by decide) ?_
                    exact ihL6 4 4 h469 v18 v18Z v20 v20Z v22 v22Z v419 v419Z v26 v26Z tc_4 hI470 f471 (kn_ne eh469 K413 (by decide)) (kn_ne eh469 K414 (by decide)) v18E (kn_nei eh469 K415 (by decide)) v20E (kn_nei eh469 K416 (by decide)) v22E (kn_nei eh469 K417 (by decide)) v419E (kn_nei eh469 K420 (by decide)) v26E (knL_put eh469 K418) (by (first | decide +kernel | omega)) (by (first | decide +kernel | omega)) (by (first | decide +kernel | omega)) (by (first | decide +kernel | omega)) (by simp only [plM_m1, plM_0, plM_1, plM_2, plM_3] at hm32 ⊢; omega)
                ·
                  refine V_iinc (v := 2) 4 [some (.ref 116), some (.int o), some (.int d), some (.int n), some (.int 2), none, none, none] d_Mod_plansOf_85 rfl (by decide) (by decide) rfl rfl ?_
                  refine V_goto 10 d_Mod_plansOf_88 (by decide) ?_
                  exact ihL6 2 2 h412 v18 v18Z v20 v20Z v22 v22Z v419 v419Z v26 v26Z tc_2 Ih412 Fh412 K413 K414 v18E K415 v20E K416 v22E K417 v419E K420 v26E K418 (by (first | decide +kernel | omega)) (by (first | decide +kernel | omega)) (by (first | decide +kernel | omega)) (by (first | decide +kernel | omega)) (by simp only [plM_m1, plM_0, plM_1, plM_2, plM_3] at hm32 ⊢; omega)
              ·
                refine V_aload_n 0 d_Mod_plansOf_40 rfl rfl ?_
                refine V_iload_n 1 d_Mod_plansOf_41 rfl rfl ?_
                refine V_aload_n 0 d_Mod_plansOf_42 rfl rfl ?_
                refine V_getR fa_Mod_29 sk_116 rfl d_Mod_plansOf_43 ?_
                refine V_iload d_Mod_plansOf_46 rfl ?_
                refine N_ialdK sk_123 tc_3 (by (first | decide +kernel | omega)) d_Mod_plansOf_48 K420 ?_
                refine V_iload d_Mod_plansOf_49 rfl ?_
                refine N_callVI [.int o, .int v419, .int 3] [] cv_Mod_261 sk_116 rfl d_Mod_plansOf_51 rfl (Nat.le_of_ble_eq_true rfl) (by decide) (by decide) (c_Mod_isFree h412 Ih412 o oZ oE v419 v419Z v419E 3 3 tc_3 (by (first | decide +kernel | omega)) (by (first | decide +kernel | omega))) (fun z474 h475 z474Z z474E p476 => ?_)
                obtain ⟨eh475, p476⟩ := p476
                subst eh475
                refine V_if_ne 71 z474E d_Mod_plansOf_54 (by decide) (fun c477 => ?_) (fun c477 => ?_)
                ·
                  refine V_aload_n 0 d_Mod_plansOf_71 rfl rfl ?_
                  refine V_getR fa_Mod_29 sk_116 rfl d_Mod_plansOf_72 ?_
                  refine V_iload d_Mod_plansOf_75 rfl ?_
                  refine N_ialdK sk_123 tc_3 (by (first | decide +kernel | omega)) d_Mod_plansOf_77 K420 ?_
                  refine V_aload_n 0 d_Mod_plansOf_78 rfl rfl ?_
                  refine N_callVI [] [.int v419] cv_Mod_183 sk_116 rfl d_Mod_plansOf_79 rfl (Nat.le_of_ble_eq_true rfl) (by decide) (by decide) (c_Mod_cellMany h412 Ih412 w wZ wE K413 g gZ gE K414) (fun z479 h480 z479Z z479E p481 => ?_)
                  obtain ⟨eh480, p481⟩ := p481
                  subst eh480
                  refine V_icmp_lt 91 v419E z479E d_Mod_plansOf_82 (by decide) (fun c482 => ?_) (fun c482 => ?_)
                  ·
                    refine V_iload d_Mod_plansOf_91 rfl ?_
                    refine V_iload_n 3 d_Mod_plansOf_93 rfl rfl ?_
                    refine V_iconst 1 d_Mod_plansOf_94 (by decide) ?_
                    refine V_isub nE tc_1 (by (first | decide +kernel | omega)) d_Mod_plansOf_95 (fun z483 z483e z483E => ?_)
                    refine V_icmp_ge 113 tc_3 z483E d_Mod_plansOf_96 (by decide) (fun c484 => ?_) (fun c484 => ?_)
                    ·
                      refine V_aload_n 0 d_Mod_plansOf_113 rfl rfl ?_
                      refine V_iload_n 3 d_Mod_plansOf_114 rfl rfl ?_
                      refine V_iload_n 2 d_Mod_plansOf_115 rfl rfl ?_
                      refine N_callVL [.int n, .int d] [] cv_Mod_264 sk_116 rfl d_Mod_plansOf_116 rfl (Nat.le_of_ble_eq_true rfl) (by decide) (by decide) (c_Mod_meanOf h412 Ih412 n nZ nE d dZ dE (by (first | decide +kernel | omega))) (fun z485 h486 z485Z z485E p487 => ?_)
                      subst p487
                      refine V_lstore 5 [some (.ref 116), some (.int o), some (.int d), some (.int n), some (.int 3), some (.long z485), none, none] d_Mod_plansOf_119 (by decide) rfl rfl ?_
                      refine V_lload d_Mod_plansOf_121 rfl ?_
                      refine V_aload_n 0 d_Mod_plansOf_123 rfl rfl ?_
                      refine N_getLK fa_Mod_268 sk_116 rfl d_Mod_plansOf_124 K418 ?_
                      refine N_lcmp d_Mod_plansOf_127 (fun z488 z488Z z488E z488e => ?_)
                      have g489 := lcmp_ti z485E v26E z488e z488E
                      refine V_if_le 171 z488E d_Mod_plansOf_128 (by decide) (fun c490 => ?_) (fun c490 => ?_)
                      ·
                        refine V_goto 10 d_Mod_plansOf_171 (by decide) ?_
                        refine V_drop 5 [some (.ref 116), some (.int o), some (.int d), some (.int n), some (.int 3), none, none, none] rfl ?_
                        exact ihL6 3 3 h412 v18 v18Z v20 v20Z v22 v22Z v419 v419Z v26 v26Z tc_3 Ih412 Fh412 K413 K414 v18E K415 v20E K416 v22E K417 v419E K420 v26E K418 (by (first | decide +kernel | omega)) (by (first | decide +kernel | omega)) (by (first | decide +kernel | omega)) (by (first | decide +kernel | omega)) (by simp only [plM_m1, plM_0, plM_1, plM_2, plM_3] at hm32 ⊢; omega)
                      ·
                        refine V_aload_n 0 d_Mod_plansOf_131 rfl rfl ?_
                        refine V_lload d_Mod_plansOf_132 rfl ?_
                        refine N_putL fp_Mod_268 sk_116 rfl lo_116 d_Mod_plansOf_134 (fun h491 eh491 => ?_)
                        have hI492 : Inv h491 := inv_long Ih412 eh491
                        have f493 : fr S_Mod_plansOf h h491 := fr_long Fh412 eh491 rfl
                        refine V_aload_n 0 d_Mod_plansOf_137 rfl rfl ?_
                        refine V_iload_n 3 d_Mod_plansOf_138 rfl rfl ?_
                        refine N_putI fp_Mod_272 sk_116 rfl d_Mod_plansOf_139 (fun h494 eh494 => ?_)
                        have hI495 : Inv h494 := inv_put (lo := 0) (hi := 4) hI492 eh494 rfl nE (by (first | decide +kernel | omega))
                        have f496 : fr S_Mod_plansOf h h494 := fr_put f493 eh494 rfl
                        refine V_iconst 0 d_Mod_plansOf_142 (by decide) ?_
                        refine V_istore 7 [some (.ref 116), some (.int o), some (.int d), some (.int n), some (.int 3), some (.long z485), none, some (.int 0)] d_Mod_plansOf_143 (by decide) rfl rfl ?_
                        have L497 : ∀ (nn : Nat) (v499 : Int32) (v499Z : Int) (h500 : Hp), v499.toInt = v499Z → Inv h500 → fr S_Mod_plansOf h h500 → h500.1 116 2 = w → h500.1 116 3 = g → h500.1 123 0 = v18 → h500.1 123 1 = v20 → h500.1 123 2 = v22 → h500.1 123 3 = v419 → h500.2 = z485 → 0 ≤ v499Z ∧ v499Z ≤ nZ → nZ - v499Z < (nn : Int) → V R_Mod b_Mod_plansOf 8 none 1 31 (q_Mod_plansOf h o oZ d dZ n nZ w wZ g gZ m mZ) h500 145 [some (.ref 116), some (.int o), some (.int d), some (.int n), some (.int 3), some (.long z485), none, some (.int v499)] [] := by
                          intro nn
                          induction nn with
                          | zero => intro v499 v499Z h500 v499E Ih500 Fh500 K501 K502 K503 K504 K505 K506 K507 q508 hm509; exact absurd hm509 (by (first | decide +kernel | omega))
                          | succ nn ihL497 =>
                            intro v499 v499Z h500 v499E Ih500 Fh500 K501 K502 K503 K504 K505 K506 K507 q508 hm509
                            refine V_iload d_Mod_plansOf_145 rfl ?_
                            refine V_iload_n 3 d_Mod_plansOf_147 rfl rfl ?_
                            refine V_icmp_ge 171 v499E nE d_Mod_plansOf_148 (by decide) (fun c510 => ?_) (fun c510 => ?_)
                            ·
                              refine V_goto 10 d_Mod_plansOf_171 (by decide) ?_
                              refine V_drop 5 [some (.ref 116), some (.int o), some (.int d), some (.int n), some (.int 3), none, none, some (.int v499)] rfl ?_
                              refine V_drop 7 [some (.ref 116), some (.int o), some (.int d), some (.int n), some (.int 3), none, none, none] rfl ?_
                              exact ihL6 3 3 h500 v18 v18Z v20 v20Z v22 v22Z v419 v419Z z485 z485Z tc_3 Ih500 Fh500 K501 K502 v18E K503 v20E K504 v22E K505 v419E K506 z485E K507 (by (first | decide +kernel | omega)) (by (first | decide +kernel | omega)) (by (first | decide +kernel | omega)) (by (first | decide +kernel | omega)) (by simp only [plM_m1, plM_0, plM_1, plM_2, plM_3] at hm32 ⊢; omega)
                            ·
                              refine V_aload_n 0 d_Mod_plansOf_151 rfl rfl ?_
                              refine V_getR fa_Mod_32 sk_116 rfl d_Mod_plansOf_152 ?_
                              refine V_iload d_Mod_plansOf_155 rfl ?_
                              refine V_aload_n 0 d_Mod_plansOf_157 rfl rfl ?_
                              refine V_getR fa_Mod_29 sk_116 rfl d_Mod_plansOf_158 ?_
                              refine V_iload d_Mod_plansOf_161 rfl ?_
                              refine N_iald sk_123 v499E (by (first | decide +kernel | omega)) d_Mod_plansOf_163 (fun z511 z511Z z511E z511e => ?_)
                              have g512 : -1 ≤ z511Z ∧ z511Z ≤ 16 := inv_at Ih500 z511E z511e rfl
                              refine N_iast sk_124 v499E (by (first | decide +kernel | omega)) d_Mod_plansOf_164 (fun h513 eh513 => ?_)
                              have hI514 : Inv h513 := inv_full Ih500 eh513 rfl
                              have f515 : fr S_Mod_plansOf h h513 := fr_put Fh500 eh513 rfl
                              obtain ⟨z516, z516E, z516e⟩ : ∃ y : Int32, y.toInt = v499Z + 1 ∧ y = v499 + Int32.ofInt 1 := ⟨_, ti_add v499E (by decide) (by (first | decide +kernel | omega)), rfl⟩
                              refine V_iinc 7 [some (.ref 116), some (.int o), some (.int d), some (.int n), some (.int 3), some (.long z485), none, some (.int z516)] d_Mod_plansOf_165 rfl z516e.symm (by decide) rfl rfl ?_
                              refine V_goto 145 d_Mod_plansOf_168 (by decide) ?_
                              exact ihL497 z516 ((v499Z + 1)) h513 z516E hI514 f515 (kn_ne eh513 K501 (by decide)) (kn_ne eh513 K502 (by decide)) (kn_ne eh513 K503 (by decide)) (kn_ne eh513 K504 (by decide)) (kn_ne eh513 K505 (by decide)) (kn_ne eh513 K506 (by decide)) (knL_put eh513 K507) (by (first | decide +kernel | omega)) (by (first | decide +kernel | omega))
                        exact L497 (Int.toNat ((nZ - 0 : Int) + 1)) 0 0 h494 tc_0 hI495 f496 (kn_nei eh494 (kn_long eh491 K413) (by decide)) (kn_nei eh494 (kn_long eh491 K414) (by decide)) (kn_ne eh494 (kn_long eh491 K415) (by decide)) (kn_ne eh494 (kn_long eh491 K416) (by decide)) (kn_ne eh494 (kn_long eh491 K417) (by decide)) (kn_ne eh494 (kn_long eh491 K420) (by decide)) (knL_put eh494 (knL_long eh491)) (by (first | decide +kernel | omega)) (by (first | decide +kernel | omega))
                    ·
                      refine V_iinc (v := 4) 4 [some (.ref 116), some (.int o), some (.int d), some (.int n), some (.int 4), none, none, none] d_Mod_plansOf_99 rfl (by decide) (by decide) rfl rfl ?_
                      refine V_aload_n 0 d_Mod_plansOf_102 rfl rfl ?_
                      refine V_getR fa_Mod_29 sk_116 rfl d_Mod_plansOf_103 ?_
                      refine V_iload d_Mod_plansOf_106 rfl ?_
                      refine V_iconst (-1) d_Mod_plansOf_108 (by decide) ?_
                      refine N_iast sk_123 tc_4 (by (first | decide +kernel | omega)) d_Mod_plansOf_109 (fun h518 eh518 => ?_)
                      have hI519 : Inv h518 := inv_put (lo := -1) (hi := 16) Ih412 eh518 rfl tc_m1 (by (first | decide +kernel | omega))
                      have f520 : fr S_Mod_plansOf h h518 := fr_put Fh412 eh518 rfl
                      refine V_goto 10 d_Mod_plansOf_110 (by decide) ?_
                      exact ihL6 4 4 h518 v18 v18Z v20 v20Z v22 v22Z v419 v419Z v26 v26Z tc_4 hI519 f520 (kn_ne eh518 K413 (by decide)) (kn_ne eh518 K414 (by decide)) v18E (kn_nei eh518 K415 (by decide)) v20E (kn_nei eh518 K416 (by decide)) v22E (kn_nei eh518 K417 (by decide)) v419E (kn_nei eh518 K420 (by decide)) v26E (knL_put eh518 K418) (by (first | decide +kernel | omega)) (by (first | decide +kernel | omega)) (by (first | decide +kernel | omega)) (by (first | decide +kernel | omega)) (by simp only [plM_m1, plM_0, plM_1, plM_2, plM_3] at hm32 ⊢; omega)
                  ·
                    refine V_iinc (v := 2) 4 [some (.ref 116), some (.int o), some (.int d), some (.int n), some (.int 2), none, none, none] d_Mod_plansOf_85 rfl (by decide) (by decide) rfl rfl ?_
                    refine V_goto 10 d_Mod_plansOf_88 (by decide) ?_
                    exact ihL6 2 2 h412 v18 v18Z v20 v20Z v22 v22Z v419 v419Z v26 v26Z tc_2 Ih412 Fh412 K413 K414 v18E K415 v20E K416 v22E K417 v419E K420 v26E K418 (by (first | decide +kernel | omega)) (by (first | decide +kernel | omega)) (by (first | decide +kernel | omega)) (by (first | decide +kernel | omega)) (by simp only [plM_m1, plM_0, plM_1, plM_2, plM_3] at hm32 ⊢; omega)
                ·
                  refine V_aload_n 0 d_Mod_plansOf_57 rfl rfl ?_
                  refine V_getR fa_Mod_29 sk_116 rfl d_Mod_plansOf_58 ?_
                  refine V_iload d_Mod_plansOf_61 rfl ?_
                  refine V_dup2 d_Mod_plansOf_63 rfl rfl ?_
                  refine N_ialdK sk_123 tc_3 (by (first | decide +kernel | omega)) d_Mod_plansOf_64 K420 ?_
                  refine V_iconst 1 d_Mod_plansOf_65 (by decide) ?_
                  refine V_iadd v419E tc_1 (by (first | decide +kernel | omega)) d_Mod_plansOf_66 (fun z523 z523e z523E => ?_)
                  refine N_iast sk_123 tc_3 (by (first | decide +kernel | omega)) d_Mod_plansOf_67 (fun h524 eh524 => ?_)
                  have hI525 : Inv h524 := inv_put (lo := -1) (hi := 16) Ih412 eh524 rfl z523E (by (first | decide +kernel | omega))
                  have f526 : fr S_Mod_plansOf h h524 := fr_put Fh412 eh524 rfl
                  refine V_goto 26 d_Mod_plansOf_68 (by decide) ?_
                  exact ihL410 h524 z523 ((v419Z + 1)) hI525 f526 (kn_ne eh524 K413 (by decide)) (kn_ne eh524 K414 (by decide)) (kn_nei eh524 K415 (by decide)) (kn_nei eh524 K416 (by decide)) (kn_nei eh524 K417 (by decide)) (knL_put eh524 K418) z523E (kn_put eh524) (by (first | decide +kernel | omega)) (by (first | decide +kernel | omega))
          exact L410 (Int.toNat ((16 - (v24Z + 1) : Int) + 1)) h407 z406 ((v24Z + 1)) hI408 f409 (kn_ne eh407 K10 (by decide)) (kn_ne eh407 K11 (by decide)) (kn_nei eh407 K19 (by decide)) (kn_nei eh407 K21 (by decide)) (kn_nei eh407 K23 (by decide)) (knL_put eh407 K27) z406E (kn_put eh407) (by (first | decide +kernel | omega)) (by (first | decide +kernel | omega))
  exact L6 (Int.toNat ((plM 0 (-1) z12Z z14Z z16Z : Int) + 1)) 0 0 h3 (-1) ((-1)) z12 z12Z z14 z14Z z16 z16Z m mZ tc_0 hI4 f5 (kn_ne eh3 wK (by decide)) (kn_ne eh3 gK (by decide)) tc_m1 (kn_put eh3) z12E z12e.symm z14E z14e.symm z16E z16e.symm mE (knL_put eh3 mK) (by (first | decide +kernel | omega)) (by (first | decide +kernel | omega)) (by (first | decide +kernel | omega)) (by (first | decide +kernel | omega)) (by rw [plM_0]; omega)
theorem d_Mod_plan_0 : decode b_Mod_plan 0 = .ok (.iload_n 1, 1) := dc_27 (by decide +kernel)
theorem d_Mod_plan_1 : decode b_Mod_plan 1 = .ok (.invokestatic 205, 3) := dc_184 (a := 0) (b := 205) (by decide +kernel) rfl
theorem d_Mod_plan_4 : decode b_Mod_plan 4 = .ok (.ifCond .eq 53, 3) := dc_153 (a := 0) (b := 53) (by decide +kernel) rfl
theorem d_Mod_plan_7 : decode b_Mod_plan 7 = .ok (.iload_n 2, 1) := dc_28 (by decide +kernel)
theorem d_Mod_plan_8 : decode b_Mod_plan 8 = .ok (.i2l, 1) := dc_133 (by decide +kernel)
theorem d_Mod_plan_9 : decode b_Mod_plan 9 = .ok (.lconst 1, 1) := dc_10 (by decide +kernel)
theorem d_Mod_plan_10 : decode b_Mod_plan 10 = .ok (.ldc2_w 208, 3) := dc_20 (a := 0) (b := 208) (by decide +kernel) rfl
theorem d_Mod_plan_13 : decode b_Mod_plan 13 = .ok (.invokestatic 95, 3) := dc_184 (a := 0) (b := 95) (by decide +kernel) rfl
theorem d_Mod_plan_16 : decode b_Mod_plan 16 = .ok (.ifCond .eq 41, 3) := dc_153 (a := 0) (b := 41) (by decide +kernel) rfl
theorem d_Mod_plan_19 : decode b_Mod_plan 19 = .ok (.iload_n 3, 1) := dc_29 (by decide +kernel)
theorem d_Mod_plan_20 : decode b_Mod_plan 20 = .ok (.i2l, 1) := dc_133 (by decide +kernel)
theorem d_Mod_plan_21 : decode b_Mod_plan 21 = .ok (.lconst 0, 1) := dc_9 (by decide +kernel)
theorem d_Mod_plan_22 : decode b_Mod_plan 22 = .ok (.ldc2_w 217, 3) := dc_20 (a := 0) (b := 217) (by decide +kernel) rfl
theorem d_Mod_plan_25 : decode b_Mod_plan 25 = .ok (.invokestatic 95, 3) := dc_184 (a := 0) (b := 95) (by decide +kernel) rfl
theorem d_Mod_plan_28 : decode b_Mod_plan 28 = .ok (.ifCond .eq 29, 3) := dc_153 (a := 0) (b := 29) (by decide +kernel) rfl
theorem d_Mod_plan_31 : decode b_Mod_plan 31 = .ok (.iload 4, 2) := dc_21 (a := 4) (by decide +kernel) rfl
theorem d_Mod_plan_33 : decode b_Mod_plan 33 = .ok (.i2l, 1) := dc_133 (by decide +kernel)
theorem d_Mod_plan_34 : decode b_Mod_plan 34 = .ok (.lconst 0, 1) := dc_9 (by decide +kernel)
theorem d_Mod_plan_35 : decode b_Mod_plan 35 = .ok (.lconst 1, 1) := dc_10 (by decide +kernel)
theorem d_Mod_plan_36 : decode b_Mod_plan 36 = .ok (.invokestatic 95, 3) := dc_184 (a := 0) (b := 95) (by decide +kernel) rfl
theorem d_Mod_plan_39 : decode b_Mod_plan 39 = .ok (.ifCond .ne 22, 3) := dc_154 (a := 0) (b := 22) (by decide +kernel) rfl
theorem d_Mod_plan_42 : decode b_Mod_plan 42 = .ok (.iload 4, 2) := dc_21 (a := 4) (by decide +kernel) rfl
theorem d_Mod_plan_44 : decode b_Mod_plan 44 = .ok (.i2l, 1) := dc_133 (by decide +kernel)
theorem d_Mod_plan_45 : decode b_Mod_plan 45 = .ok (.ldc2_w 213, 3) := dc_20 (a := 0) (b := 213) (by decide +kernel) rfl
theorem d_Mod_plan_48 : decode b_Mod_plan 48 = .ok (.ldc2_w 275, 3) := dc_20 (a := 1) (b := 19) (by decide +kernel) rfl
theorem d_Mod_plan_51 : decode b_Mod_plan 51 = .ok (.invokestatic 95, 3) := dc_184 (a := 0) (b := 95) (by decide +kernel) rfl
theorem d_Mod_plan_54 : decode b_Mod_plan 54 = .ok (.ifCond .ne 7, 3) := dc_154 (a := 0) (b := 7) (by decide +kernel) rfl
theorem d_Mod_plan_57 : decode b_Mod_plan 57 = .ok (.ldc2_w 277, 3) := dc_20 (a := 1) (b := 21) (by decide +kernel) rfl
theorem d_Mod_plan_60 : decode b_Mod_plan 60 = .ok (.lreturn, 1) := dc_173 (by decide +kernel)
theorem d_Mod_plan_61 : decode b_Mod_plan 61 = .ok (.aload_n 0, 1) := dc_42 (by decide +kernel)
theorem d_Mod_plan_62 : decode b_Mod_plan 62 = .ok (.lconst 0, 1) := dc_9 (by decide +kernel)
theorem d_Mod_plan_63 : decode b_Mod_plan 63 = .ok (.putfield 268, 3) := dc_181 (a := 1) (b := 12) (by decide +kernel) rfl
theorem d_Mod_plan_66 : decode b_Mod_plan 66 = .ok (.aload_n 0, 1) := dc_42 (by decide +kernel)
theorem d_Mod_plan_67 : decode b_Mod_plan 67 = .ok (.iconst 0, 1) := dc_3 (by decide +kernel)
theorem d_Mod_plan_68 : decode b_Mod_plan 68 = .ok (.putfield 272, 3) := dc_181 (a := 1) (b := 16) (by decide +kernel) rfl
theorem d_Mod_plan_71 : decode b_Mod_plan 71 = .ok (.iconst 1, 1) := dc_4 (by decide +kernel)
theorem d_Mod_plan_72 : decode b_Mod_plan 72 = .ok (.istore 5, 2) := dc_54 (a := 5) (by decide +kernel) rfl
theorem d_Mod_plan_74 : decode b_Mod_plan 74 = .ok (.iload 5, 2) := dc_21 (a := 5) (by decide +kernel) rfl
theorem d_Mod_plan_76 : decode b_Mod_plan 76 = .ok (.iload_n 3, 1) := dc_29 (by decide +kernel)
theorem d_Mod_plan_77 : decode b_Mod_plan 77 = .ok (.if_icmp .gt 17, 3) := dc_163 (a := 0) (b := 17) (by decide +kernel) rfl
theorem d_Mod_plan_80 : decode b_Mod_plan 80 = .ok (.aload_n 0, 1) := dc_42 (by decide +kernel)
theorem d_Mod_plan_81 : decode b_Mod_plan 81 = .ok (.iload_n 1, 1) := dc_27 (by decide +kernel)
theorem d_Mod_plan_82 : decode b_Mod_plan 82 = .ok (.iload_n 2, 1) := dc_28 (by decide +kernel)
theorem d_Mod_plan_83 : decode b_Mod_plan 83 = .ok (.iload 5, 2) := dc_21 (a := 5) (by decide +kernel) rfl
theorem d_Mod_plan_85 : decode b_Mod_plan 85 = .ok (.invokevirtual 279, 3) := dc_182 (a := 1) (b := 23) (by decide +kernel) rfl
theorem d_Mod_plan_88 : decode b_Mod_plan 88 = .ok (.iinc 5 1, 3) := dc_132 (a := 5) (b := 1) (by decide +kernel) rfl
theorem d_Mod_plan_91 : decode b_Mod_plan 91 = .ok (.goto (-17), 3) := dc_167 (a := 255) (b := 239) (by decide +kernel) rfl
theorem d_Mod_plan_94 : decode b_Mod_plan 94 = .ok (.iload 4, 2) := dc_21 (a := 4) (by decide +kernel) rfl
theorem d_Mod_plan_96 : decode b_Mod_plan 96 = .ok (.bipush 10, 2) := dc_16 (a := 10) (by decide +kernel) rfl
theorem d_Mod_plan_98 : decode b_Mod_plan 98 = .ok (.if_icmp .lt 33, 3) := dc_161 (a := 0) (b := 33) (by decide +kernel) rfl
theorem d_Mod_plan_101 : decode b_Mod_plan 101 = .ok (.iload 4, 2) := dc_21 (a := 4) (by decide +kernel) rfl
theorem d_Mod_plan_103 : decode b_Mod_plan 103 = .ok (.bipush 10, 2) := dc_16 (a := 10) (by decide +kernel) rfl
theorem d_Mod_plan_105 : decode b_Mod_plan 105 = .ok (.isub, 1) := dc_100 (by decide +kernel)
theorem d_Mod_plan_106 : decode b_Mod_plan 106 = .ok (.aload_n 0, 1) := dc_42 (by decide +kernel)
theorem d_Mod_plan_107 : decode b_Mod_plan 107 = .ok (.getfield 272, 3) := dc_180 (a := 1) (b := 16) (by decide +kernel) rfl
theorem d_Mod_plan_110 : decode b_Mod_plan 110 = .ok (.if_icmp .ge 17, 3) := dc_162 (a := 0) (b := 17) (by decide +kernel) rfl
theorem d_Mod_plan_113 : decode b_Mod_plan 113 = .ok (.aload_n 0, 1) := dc_42 (by decide +kernel)
theorem d_Mod_plan_114 : decode b_Mod_plan 114 = .ok (.getfield 32, 3) := dc_180 (a := 0) (b := 32) (by decide +kernel) rfl
theorem d_Mod_plan_117 : decode b_Mod_plan 117 = .ok (.iload 4, 2) := dc_21 (a := 4) (by decide +kernel) rfl
theorem d_Mod_plan_119 : decode b_Mod_plan 119 = .ok (.bipush 10, 2) := dc_16 (a := 10) (by decide +kernel) rfl
theorem d_Mod_plan_121 : decode b_Mod_plan 121 = .ok (.isub, 1) := dc_100 (by decide +kernel)
theorem d_Mod_plan_122 : decode b_Mod_plan 122 = .ok (.iaload, 1) := dc_46 (by decide +kernel)
theorem d_Mod_plan_123 : decode b_Mod_plan 123 = .ok (.i2l, 1) := dc_133 (by decide +kernel)
theorem d_Mod_plan_124 : decode b_Mod_plan 124 = .ok (.goto 6, 3) := dc_167 (a := 0) (b := 6) (by decide +kernel) rfl
theorem d_Mod_plan_127 : decode b_Mod_plan 127 = .ok (.ldc2_w 283, 3) := dc_20 (a := 1) (b := 27) (by decide +kernel) rfl
theorem d_Mod_plan_130 : decode b_Mod_plan 130 = .ok (.lreturn, 1) := dc_173 (by decide +kernel)
theorem d_Mod_plan_131 : decode b_Mod_plan 131 = .ok (.ldc2_w 259, 3) := dc_20 (a := 1) (b := 3) (by decide +kernel) rfl
theorem d_Mod_plan_134 : decode b_Mod_plan 134 = .ok (.aload_n 0, 1) := dc_42 (by decide +kernel)
theorem d_Mod_plan_135 : decode b_Mod_plan 135 = .ok (.getfield 268, 3) := dc_180 (a := 1) (b := 12) (by decide +kernel) rfl
theorem d_Mod_plan_138 : decode b_Mod_plan 138 = .ok (.invokestatic 285, 3) := dc_184 (a := 1) (b := 29) (by decide +kernel) rfl
theorem d_Mod_plan_141 : decode b_Mod_plan 141 = .ok (.lstore 5, 2) := dc_55 (a := 5) (by decide +kernel) rfl
theorem d_Mod_plan_143 : decode b_Mod_plan 143 = .ok (.iload 4, 2) := dc_21 (a := 4) (by decide +kernel) rfl
theorem d_Mod_plan_145 : decode b_Mod_plan 145 = .ok (.ifCond .ne 13, 3) := dc_154 (a := 0) (b := 13) (by decide +kernel) rfl
theorem d_Mod_plan_148 : decode b_Mod_plan 148 = .ok (.aload_n 0, 1) := dc_42 (by decide +kernel)
theorem d_Mod_plan_149 : decode b_Mod_plan 149 = .ok (.getfield 268, 3) := dc_180 (a := 1) (b := 12) (by decide +kernel) rfl
theorem d_Mod_plan_152 : decode b_Mod_plan 152 = .ok (.lload 5, 2) := dc_22 (a := 5) (by decide +kernel) rfl
theorem d_Mod_plan_154 : decode b_Mod_plan 154 = .ok (.ldiv, 1) := dc_109 (by decide +kernel)
theorem d_Mod_plan_155 : decode b_Mod_plan 155 = .ok (.goto 9, 3) := dc_167 (a := 0) (b := 9) (by decide +kernel) rfl
theorem d_Mod_plan_158 : decode b_Mod_plan 158 = .ok (.ldc2_w 259, 3) := dc_20 (a := 1) (b := 3) (by decide +kernel) rfl
theorem d_Mod_plan_161 : decode b_Mod_plan 161 = .ok (.lload 5, 2) := dc_22 (a := 5) (by decide +kernel) rfl
theorem d_Mod_plan_163 : decode b_Mod_plan 163 = .ok (.ldiv, 1) := dc_109 (by decide +kernel)
theorem d_Mod_plan_164 : decode b_Mod_plan 164 = .ok (.lreturn, 1) := dc_173 (by decide +kernel)
def S_Mod_plan : List (Nat × Option Nat) := [(123, none), (124, none), (116, some 25), (999, none)]
abbrev q_Mod_plan (h : Hp) (o : Int32) (oZ : Int) (d : Int32) (dZ : Int) (n : Int32) (nZ : Int) (a : Int32) (aZ : Int) (w : Int32) (wZ : Int) (g : Int32) (gZ : Int) : Option Value → Hp → Prop := pLng (fun r h' => Inv h' ∧ fr S_Mod_plan h h')
set_option maxRecDepth 100000 in
theorem c_Mod_plan (h : Hp) (hI : Inv h) (o : Int32) (oZ : Int) (oE : o.toInt = oZ) (d : Int32) (dZ : Int) (dE : d.toInt = dZ) (n : Int32) (nZ : Int) (nE : n.toInt = nZ) (a : Int32) (aZ : Int) (aE : a.toInt = aZ) (w : Int32) (wZ : Int) (wE : w.toInt = wZ) (wK : h.1 116 2 = w) (g : Int32) (gZ : Int) (gE : g.toInt = gZ) (gK : h.1 116 3 = g) : Ct y_Mod_plan b_Mod_plan 7 (some .long) 2 58 [.ref 116, .int o, .int d, .int n, .int a] h (q_Mod_plan h o oZ d dZ n nZ a aZ w wZ g gZ) := by
  refine ct_ow R_Mod [some (.ref 116), some (.int o), some (.int d), some (.int n), some (.int a), none, none] rfl (by decide) rfl (Nat.le_of_ble_eq_true rfl) ?_
  have f0 : fr S_Mod_plan h h := fr_rf
  have g1 : 2 ≤ wZ ∧ wZ ≤ 4 := inv_at hI wE wK.symm rfl
  have g2 : 2 ≤ gZ ∧ gZ ≤ 4 := inv_at hI gE gK.symm rfl
  refine V_iload_n 1 d_Mod_plan_0 rfl rfl ?_
  refine N_callSI [.int o] [] cs_Mod_205 d_Mod_plan_1 rfl (Nat.le_of_ble_eq_true rfl) (by decide) (by decide) (c_Mod_isOwner h o oZ oE) (fun z3 h4 z3Z z3E p5 => ?_)
  obtain ⟨eh4, p5⟩ := p5
  subst eh4
  refine V_if_eq 57 z3E d_Mod_plan_4 (by decide) (fun c6 => ?_) (fun c6 => ?_)
  ·
    refine V_ldc2 d_Mod_plan_57 wl_Mod_277 ?_
    exact V_lret rfl d_Mod_plan_60 ⟨(-1), rfl, ⟨hI, f0⟩⟩
  ·
    refine V_iload_n 2 d_Mod_plan_7 rfl rfl ?_
    refine V_i2l d_Mod_plan_8 (fun z7 z7e z7E => ?_)
    have z7F : z7.toInt = dZ := z7E.trans dE
    refine V_lconst 1 d_Mod_plan_9 (by decide) ?_
    refine V_ldc2 d_Mod_plan_10 wl_Mod_208 ?_
    refine N_callSI [.long z7, .long 1, .long 9] [] cs_Mod_95 d_Mod_plan_13 rfl (Nat.le_of_ble_eq_true rfl) (by decide) (by decide) (c_Mod_in h z7 dZ z7F 1 1 tl_1 9 9 tl_9) (fun z8 h9 z8Z z8E p10 => ?_)
    obtain ⟨eh9, p10⟩ := p10
    subst eh9
    refine V_if_eq 57 z8E d_Mod_plan_16 (by decide) (fun c11 => ?_) (fun c11 => ?_)
    ·
      refine V_ldc2 d_Mod_plan_57 wl_Mod_277 ?_
      exact V_lret rfl d_Mod_plan_60 ⟨(-1), rfl, ⟨hI, f0⟩⟩
    ·
      refine V_iload_n 3 d_Mod_plan_19 rfl rfl ?_
      refine V_i2l d_Mod_plan_20 (fun z12 z12e z12E => ?_)
      have z12F : z12.toInt = nZ := z12E.trans nE
      refine V_lconst 0 d_Mod_plan_21 (by decide) ?_
      refine V_ldc2 d_Mod_plan_22 wl_Mod_217 ?_
      refine N_callSI [.long z12, .long 0, .long 4] [] cs_Mod_95 d_Mod_plan_25 rfl (Nat.le_of_ble_eq_true rfl) (by decide) (by decide) (c_Mod_in h z12 nZ z12F 0 0 tl_0 4 4 tl_4) (fun z13 h14 z13Z z13E p15 => ?_)
      obtain ⟨eh14, p15⟩ := p15
      subst eh14
      refine V_if_eq 57 z13E d_Mod_plan_28 (by decide) (fun c16 => ?_) (fun c16 => ?_)
      ·
        refine V_ldc2 d_Mod_plan_57 wl_Mod_277 ?_
        exact V_lret rfl d_Mod_plan_60 ⟨(-1), rfl, ⟨hI, f0⟩⟩
      ·
        refine V_iload d_Mod_plan_31 rfl ?_
        refine V_i2l d_Mod_plan_33 (fun z17 z17e z17E => ?_)
        have z17F : z17.toInt = aZ := z17E.trans aE
        refine V_lconst 0 d_Mod_plan_34 (by decide) ?_
        refine V_lconst 1 d_Mod_plan_35 (by decide) ?_
        refine N_callSI [.long z17, .long 0, .long 1] [] cs_Mod_95 d_Mod_plan_36 rfl (Nat.le_of_ble_eq_true rfl) (by decide) (by decide) (c_Mod_in h z17 aZ z17F 0 0 tl_0 1 1 tl_1) (fun z18 h19 z18Z z18E p20 => ?_)
        obtain ⟨eh19, p20⟩ := p20
        subst eh19
        refine V_if_ne 61 z18E d_Mod_plan_39 (by decide) (fun c21 => ?_) (fun c21 => ?_)
        ·
          refine V_aload_n 0 d_Mod_plan_61 rfl rfl ?_
          refine V_lconst 0 d_Mod_plan_62 (by decide) ?_
          refine N_putL fp_Mod_268 sk_116 rfl lo_116 d_Mod_plan_63 (fun h22 eh22 => ?_)
          have hI23 : Inv h22 := inv_long hI eh22
          have f24 : fr S_Mod_plan h h22 := fr_long f0 eh22 rfl
          refine V_aload_n 0 d_Mod_plan_66 rfl rfl ?_
          refine V_iconst 0 d_Mod_plan_67 (by decide) ?_
          refine N_putI fp_Mod_272 sk_116 rfl d_Mod_plan_68 (fun h25 eh25 => ?_)
          have hI26 : Inv h25 := inv_put (lo := 0) (hi := 4) hI23 eh25 rfl tc_0 (by (first | decide +kernel | omega))
          have f27 : fr S_Mod_plan h h25 := fr_put f24 eh25 rfl
          refine V_iconst 1 d_Mod_plan_71 (by decide) ?_
          refine V_istore 5 [some (.ref 116), some (.int o), some (.int d), some (.int n), some (.int a), some (.int 1), none] d_Mod_plan_72 (by decide) rfl rfl ?_
          have L28 : ∀ (nn : Nat) (v30 : Int32) (v30Z : Int) (h31 : Hp) (v34 : Int64) (v34Z : Int), v30.toInt = v30Z → Inv h31 → fr S_Mod_plan h h31 → h31.1 116 2 = w → h31.1 116 3 = g → v34.toInt = v34Z → h31.2 = v34 → 1 ≤ v30Z ∧ v30Z ≤ nZ + 1 → 0 ≤ v34Z → nZ + 1 - v30Z < (nn : Int) → V R_Mod b_Mod_plan 7 (some .long) 2 58 (q_Mod_plan h o oZ d dZ n nZ a aZ w wZ g gZ) h31 74 [some (.ref 116), some (.int o), some (.int d), some (.int n), some (.int a), some (.int v30), none] [] := by
            intro nn
            induction nn with
            | zero => intro v30 v30Z h31 v34 v34Z v30E Ih31 Fh31 K32 K33 v34E K35 q36 q37 hm38; exact absurd hm38 (by (first | decide +kernel | omega))
            | succ nn ihL28 =>
              intro v30 v30Z h31 v34 v34Z v30E Ih31 Fh31 K32 K33 v34E K35 q36 q37 hm38
              refine V_iload d_Mod_plan_74 rfl ?_
              refine V_iload_n 3 d_Mod_plan_76 rfl rfl ?_
              refine V_icmp_gt 94 v30E nE d_Mod_plan_77 (by decide) (fun c39 => ?_) (fun c39 => ?_)
              ·
                refine V_iload d_Mod_plan_94 rfl ?_
                refine V_bipush 10 d_Mod_plan_96 (by decide) ?_
                refine V_icmp_lt 131 aE tc_10 d_Mod_plan_98 (by decide) (fun c40 => ?_) (fun c40 => ?_)
                ·
                  refine V_ldc2 d_Mod_plan_131 wl_Mod_259 ?_
                  refine V_aload_n 0 d_Mod_plan_134 rfl rfl ?_
                  refine N_getLK fa_Mod_268 sk_116 rfl d_Mod_plan_135 K35 ?_
                  refine N_callSL [.long 10000, .long v34] [] cs_Mod_285 d_Mod_plan_138 rfl (Nat.le_of_ble_eq_true rfl) (by decide) (by decide) (c_Mod_common h31 10000 10000 tl_10000 v34 v34Z v34E (by (first | decide +kernel | omega))) (fun z41 h42 z41Z z41E p43 => ?_)
                  obtain ⟨eh42, p43⟩ := p43
                  subst eh42
                  refine V_lstore 5 [some (.ref 116), some (.int o), some (.int d), some (.int n), some (.int a), some (.long z41), none] d_Mod_plan_141 (by decide) rfl rfl ?_
                  refine V_iload d_Mod_plan_143 rfl ?_
                  refine V_if_ne 158 aE d_Mod_plan_145 (by decide) (fun c44 => ?_) (fun c44 => ?_)
                  ·
                    refine V_ldc2 d_Mod_plan_158 wl_Mod_259 ?_
                    refine V_lload d_Mod_plan_161 rfl ?_
                    refine N_ldiv (fun q => by have := (t64_eq z41E tl_0).mp q; omega) d_Mod_plan_163 (fun z45 z45Z z45E z45e => ?_)
                    exact V_lret rfl d_Mod_plan_164 ⟨z45, rfl, ⟨Ih31, Fh31⟩⟩
                  ·
                    refine V_aload_n 0 d_Mod_plan_148 rfl rfl ?_
                    refine N_getLK fa_Mod_268 sk_116 rfl d_Mod_plan_149 K35 ?_
                    refine V_lload d_Mod_plan_152 rfl ?_
                    refine N_ldiv (fun q => by have := (t64_eq z41E tl_0).mp q; omega) d_Mod_plan_154 (fun z46 z46Z z46E z46e => ?_)
                    refine V_goto 164 d_Mod_plan_155 (by decide) ?_
                    exact V_lret rfl d_Mod_plan_164 ⟨z46, rfl, ⟨Ih31, Fh31⟩⟩
                ·
                  refine V_iload d_Mod_plan_101 rfl ?_
                  refine V_bipush 10 d_Mod_plan_103 (by decide) ?_
                  refine V_isub aE tc_10 (by (first | decide +kernel | omega)) d_Mod_plan_105 (fun z47 z47e z47E => ?_)
                  refine V_aload_n 0 d_Mod_plan_106 rfl rfl ?_
                  refine N_getI fa_Mod_272 sk_116 rfl d_Mod_plan_107 (fun z48 z48Z z48E z48e => ?_)
                  have g49 : 0 ≤ z48Z ∧ z48Z ≤ 4 := inv_at Ih31 z48E z48e rfl
                  refine V_icmp_ge 127 z47E z48E d_Mod_plan_110 (by decide) (fun c50 => ?_) (fun c50 => ?_)
                  ·
                    refine V_ldc2 d_Mod_plan_127 wl_Mod_283 ?_
                    exact V_lret rfl d_Mod_plan_130 ⟨(-4), rfl, ⟨Ih31, Fh31⟩⟩
                  ·
                    refine V_aload_n 0 d_Mod_plan_113 rfl rfl ?_
                    refine V_getR fa_Mod_32 sk_116 rfl d_Mod_plan_114 ?_
                    refine V_iload d_Mod_plan_117 rfl ?_
                    refine V_bipush 10 d_Mod_plan_119 (by decide) ?_
                    refine V_isub aE tc_10 (by (first | decide +kernel | omega)) d_Mod_plan_121 (fun z51 z51e z51E => ?_)
                    refine N_iald sk_124 z51E (by (first | decide +kernel | omega)) d_Mod_plan_122 (fun z52 z52Z z52E z52e => ?_)
                    refine V_i2l d_Mod_plan_123 (fun z53 z53e z53E => ?_)
                    have z53F : z53.toInt = z52Z := z53E.trans z52E
                    refine V_goto 130 d_Mod_plan_124 (by decide) ?_
                    exact V_lret rfl d_Mod_plan_130 ⟨z53, rfl, ⟨Ih31, Fh31⟩⟩
              ·
                refine V_aload_n 0 d_Mod_plan_80 rfl rfl ?_
                refine V_iload_n 1 d_Mod_plan_81 rfl rfl ?_
                refine V_iload_n 2 d_Mod_plan_82 rfl rfl ?_
                refine V_iload d_Mod_plan_83 rfl ?_
                refine N_callVV [.int o, .int d, .int v30] [] cv_Mod_279 sk_116 rfl d_Mod_plan_85 rfl (Nat.le_of_ble_eq_true rfl) (by decide) (by decide) (c_Mod_plansOf h31 Ih31 o oZ oE d dZ dE v30 v30Z v30E w wZ wE K32 g gZ gE K33 v34 v34Z v34E K35 (by (first | decide +kernel | omega)) (by (first | decide +kernel | omega))) (fun h55 p56 => ?_)
                obtain ⟨hI57, fh55, o59, o59Z, o59E, o59K, p56⟩ := p56
                have f58 : fr S_Mod_plan h h55 := fr_call Fh31 fh55 rfl
                obtain ⟨z60, z60E, z60e⟩ : ∃ y : Int32, y.toInt = v30Z + 1 ∧ y = v30 + Int32.ofInt 1 := ⟨_, ti_add v30E (by decide) (by (first | decide +kernel | omega)), rfl⟩
                refine V_iinc 5 [some (.ref 116), some (.int o), some (.int d), some (.int n), some (.int a), some (.int z60), none] d_Mod_plan_88 rfl z60e.symm (by decide) rfl rfl ?_
                refine V_goto 74 d_Mod_plan_91 (by decide) ?_
                exact ihL28 z60 ((v30Z + 1)) h55 o59 o59Z z60E hI57 f58 (kn_call fh55 K32 rfl) (kn_call fh55 K33 rfl) o59E o59K (by (first | decide +kernel | omega)) (by (first | decide +kernel | omega)) (by (first | decide +kernel | omega))
          exact L28 (Int.toNat ((nZ + 1 - 1 : Int) + 1)) 1 1 h25 0 0 tc_1 hI26 f27 (kn_nei eh25 (kn_long eh22 wK) (by decide)) (kn_nei eh25 (kn_long eh22 gK) (by decide)) tl_0 (knL_put eh25 (knL_long eh22)) (by (first | decide +kernel | omega)) (by (first | decide +kernel | omega)) (by (first | decide +kernel | omega))
        ·
          refine V_iload d_Mod_plan_42 rfl ?_
          refine V_i2l d_Mod_plan_44 (fun z61 z61e z61E => ?_)
          have z61F : z61.toInt = aZ := z61E.trans aE
          refine V_ldc2 d_Mod_plan_45 wl_Mod_213 ?_
          refine V_ldc2 d_Mod_plan_48 wl_Mod_275 ?_
          refine N_callSI [.long z61, .long 10, .long 13] [] cs_Mod_95 d_Mod_plan_51 rfl (Nat.le_of_ble_eq_true rfl) (by decide) (by decide) (c_Mod_in h z61 aZ z61F 10 10 tl_10 13 13 tl_13) (fun z62 h63 z62Z z62E p64 => ?_)
          obtain ⟨eh63, p64⟩ := p64
          subst eh63
          refine V_if_ne 61 z62E d_Mod_plan_54 (by decide) (fun c65 => ?_) (fun c65 => ?_)
          ·
            refine V_aload_n 0 d_Mod_plan_61 rfl rfl ?_
            refine V_lconst 0 d_Mod_plan_62 (by decide) ?_
            refine N_putL fp_Mod_268 sk_116 rfl lo_116 d_Mod_plan_63 (fun h66 eh66 => ?_)
            have hI67 : Inv h66 := inv_long hI eh66
            have f68 : fr S_Mod_plan h h66 := fr_long f0 eh66 rfl
            refine V_aload_n 0 d_Mod_plan_66 rfl rfl ?_
            refine V_iconst 0 d_Mod_plan_67 (by decide) ?_
            refine N_putI fp_Mod_272 sk_116 rfl d_Mod_plan_68 (fun h69 eh69 => ?_)
            have hI70 : Inv h69 := inv_put (lo := 0) (hi := 4) hI67 eh69 rfl tc_0 (by (first | decide +kernel | omega))
            have f71 : fr S_Mod_plan h h69 := fr_put f68 eh69 rfl
            refine V_iconst 1 d_Mod_plan_71 (by decide) ?_
            refine V_istore 5 [some (.ref 116), some (.int o), some (.int d), some (.int n), some (.int a), some (.int 1), none] d_Mod_plan_72 (by decide) rfl rfl ?_
            have L72 : ∀ (nn : Nat) (v74 : Int32) (v74Z : Int) (h75 : Hp) (v78 : Int64) (v78Z : Int), v74.toInt = v74Z → Inv h75 → fr S_Mod_plan h h75 → h75.1 116 2 = w → h75.1 116 3 = g → v78.toInt = v78Z → h75.2 = v78 → 1 ≤ v74Z ∧ v74Z ≤ nZ + 1 → 0 ≤ v78Z → nZ + 1 - v74Z < (nn : Int) → V R_Mod b_Mod_plan 7 (some .long) 2 58 (q_Mod_plan h o oZ d dZ n nZ a aZ w wZ g gZ) h75 74 [some (.ref 116), some (.int o), some (.int d), some (.int n), some (.int a), some (.int v74), none] [] := by
              intro nn
              induction nn with
              | zero => intro v74 v74Z h75 v78 v78Z v74E Ih75 Fh75 K76 K77 v78E K79 q80 q81 hm82; exact absurd hm82 (by (first | decide +kernel | omega))
              | succ nn ihL72 =>
                intro v74 v74Z h75 v78 v78Z v74E Ih75 Fh75 K76 K77 v78E K79 q80 q81 hm82
                refine V_iload d_Mod_plan_74 rfl ?_
                refine V_iload_n 3 d_Mod_plan_76 rfl rfl ?_
                refine V_icmp_gt 94 v74E nE d_Mod_plan_77 (by decide) (fun c83 => ?_) (fun c83 => ?_)
                ·
                  refine V_iload d_Mod_plan_94 rfl ?_
                  refine V_bipush 10 d_Mod_plan_96 (by decide) ?_
                  refine V_icmp_lt 131 aE tc_10 d_Mod_plan_98 (by decide) (fun c84 => ?_) (fun c84 => ?_)
                  ·
                    refine V_ldc2 d_Mod_plan_131 wl_Mod_259 ?_
                    refine V_aload_n 0 d_Mod_plan_134 rfl rfl ?_
                    refine N_getLK fa_Mod_268 sk_116 rfl d_Mod_plan_135 K79 ?_
                    refine N_callSL [.long 10000, .long v78] [] cs_Mod_285 d_Mod_plan_138 rfl (Nat.le_of_ble_eq_true rfl) (by decide) (by decide) (c_Mod_common h75 10000 10000 tl_10000 v78 v78Z v78E (by (first | decide +kernel | omega))) (fun z85 h86 z85Z z85E p87 => ?_)
                    obtain ⟨eh86, p87⟩ := p87
                    subst eh86
                    refine V_lstore 5 [some (.ref 116), some (.int o), some (.int d), some (.int n), some (.int a), some (.long z85), none] d_Mod_plan_141 (by decide) rfl rfl ?_
                    refine V_iload d_Mod_plan_143 rfl ?_
                    refine V_if_ne 158 aE d_Mod_plan_145 (by decide) (fun c88 => ?_) (fun c88 => ?_)
                    ·
                      refine V_ldc2 d_Mod_plan_158 wl_Mod_259 ?_
                      refine V_lload d_Mod_plan_161 rfl ?_
                      refine N_ldiv (fun q => by have := (t64_eq z85E tl_0).mp q; omega) d_Mod_plan_163 (fun z89 z89Z z89E z89e => ?_)
                      exact V_lret rfl d_Mod_plan_164 ⟨z89, rfl, ⟨Ih75, Fh75⟩⟩
                    ·
                      refine V_aload_n 0 d_Mod_plan_148 rfl rfl ?_
                      refine N_getLK fa_Mod_268 sk_116 rfl d_Mod_plan_149 K79 ?_
                      refine V_lload d_Mod_plan_152 rfl ?_
                      refine N_ldiv (fun q => by have := (t64_eq z85E tl_0).mp q; omega) d_Mod_plan_154 (fun z90 z90Z z90E z90e => ?_)
                      refine V_goto 164 d_Mod_plan_155 (by decide) ?_
                      exact V_lret rfl d_Mod_plan_164 ⟨z90, rfl, ⟨Ih75, Fh75⟩⟩
                  ·
                    refine V_iload d_Mod_plan_101 rfl ?_
                    refine V_bipush 10 d_Mod_plan_103 (by decide) ?_
                    refine V_isub aE tc_10 (by (first | decide +kernel | omega)) d_Mod_plan_105 (fun z91 z91e z91E => ?_)
                    refine V_aload_n 0 d_Mod_plan_106 rfl rfl ?_
                    refine N_getI fa_Mod_272 sk_116 rfl d_Mod_plan_107 (fun z92 z92Z z92E z92e => ?_)
                    have g93 : 0 ≤ z92Z ∧ z92Z ≤ 4 := inv_at Ih75 z92E z92e rfl
                    refine V_icmp_ge 127 z91E z92E d_Mod_plan_110 (by decide) (fun c94 => ?_) (fun c94 => ?_)
                    ·
                      refine V_ldc2 d_Mod_plan_127 wl_Mod_283 ?_
                      exact V_lret rfl d_Mod_plan_130 ⟨(-4), rfl, ⟨Ih75, Fh75⟩⟩
                    ·
                      refine V_aload_n 0 d_Mod_plan_113 rfl rfl ?_
                      refine V_getR fa_Mod_32 sk_116 rfl d_Mod_plan_114 ?_
                      refine V_iload d_Mod_plan_117 rfl ?_
                      refine V_bipush 10 d_Mod_plan_119 (by decide) ?_
                      refine V_isub aE tc_10 (by (first | decide +kernel | omega)) d_Mod_plan_121 (fun z95 z95e z95E => ?_)
                      refine N_iald sk_124 z95E (by (first | decide +kernel | omega)) d_Mod_plan_122 (fun z96 z96Z z96E z96e => ?_)
                      refine V_i2l d_Mod_plan_123 (fun z97 z97e z97E => ?_)
                      have z97F : z97.toInt = z96Z := z97E.trans z96E
                      refine V_goto 130 d_Mod_plan_124 (by decide) ?_
                      exact V_lret rfl d_Mod_plan_130 ⟨z97, rfl, ⟨Ih75, Fh75⟩⟩
                ·
                  refine V_aload_n 0 d_Mod_plan_80 rfl rfl ?_
                  refine V_iload_n 1 d_Mod_plan_81 rfl rfl ?_
                  refine V_iload_n 2 d_Mod_plan_82 rfl rfl ?_
                  refine V_iload d_Mod_plan_83 rfl ?_
                  refine N_callVV [.int o, .int d, .int v74] [] cv_Mod_279 sk_116 rfl d_Mod_plan_85 rfl (Nat.le_of_ble_eq_true rfl) (by decide) (by decide) (c_Mod_plansOf h75 Ih75 o oZ oE d dZ dE v74 v74Z v74E w wZ wE K76 g gZ gE K77 v78 v78Z v78E K79 (by (first | decide +kernel | omega)) (by (first | decide +kernel | omega))) (fun h99 p100 => ?_)
                  obtain ⟨hI101, fh99, o103, o103Z, o103E, o103K, p100⟩ := p100
                  have f102 : fr S_Mod_plan h h99 := fr_call Fh75 fh99 rfl
                  obtain ⟨z104, z104E, z104e⟩ : ∃ y : Int32, y.toInt = v74Z + 1 ∧ y = v74 + Int32.ofInt 1 := ⟨_, ti_add v74E (by decide) (by (first | decide +kernel | omega)), rfl⟩
                  refine V_iinc 5 [some (.ref 116), some (.int o), some (.int d), some (.int n), some (.int a), some (.int z104), none] d_Mod_plan_88 rfl z104e.symm (by decide) rfl rfl ?_
                  refine V_goto 74 d_Mod_plan_91 (by decide) ?_
                  exact ihL72 z104 ((v74Z + 1)) h99 o103 o103Z z104E hI101 f102 (kn_call fh99 K76 rfl) (kn_call fh99 K77 rfl) o103E o103K (by (first | decide +kernel | omega)) (by (first | decide +kernel | omega)) (by (first | decide +kernel | omega))
            exact L72 (Int.toNat ((nZ + 1 - 1 : Int) + 1)) 1 1 h69 0 0 tc_1 hI70 f71 (kn_nei eh69 (kn_long eh66 wK) (by decide)) (kn_nei eh69 (kn_long eh66 gK) (by decide)) tl_0 (knL_put eh69 (knL_long eh66)) (by (first | decide +kernel | omega)) (by (first | decide +kernel | omega)) (by (first | decide +kernel | omega))
          ·
            refine V_ldc2 d_Mod_plan_57 wl_Mod_277 ?_
            exact V_lret rfl d_Mod_plan_60 ⟨(-1), rfl, ⟨hI, f0⟩⟩
theorem d_Mod_addBed_0 : decode b_Mod_addBed 0 = .ok (.iconst 0, 1) := dc_3 (by decide +kernel)
theorem d_Mod_addBed_1 : decode b_Mod_addBed 1 = .ok (.istore 4, 2) := dc_54 (a := 4) (by decide +kernel) rfl
theorem d_Mod_addBed_3 : decode b_Mod_addBed 3 = .ok (.iconst 0, 1) := dc_3 (by decide +kernel)
theorem d_Mod_addBed_4 : decode b_Mod_addBed 4 = .ok (.istore 5, 2) := dc_54 (a := 5) (by decide +kernel) rfl
theorem d_Mod_addBed_6 : decode b_Mod_addBed 6 = .ok (.iload 5, 2) := dc_21 (a := 5) (by decide +kernel) rfl
theorem d_Mod_addBed_8 : decode b_Mod_addBed 8 = .ok (.iload_n 3, 1) := dc_29 (by decide +kernel)
theorem d_Mod_addBed_9 : decode b_Mod_addBed 9 = .ok (.if_icmp .ge 22, 3) := dc_162 (a := 0) (b := 22) (by decide +kernel) rfl
theorem d_Mod_addBed_12 : decode b_Mod_addBed 12 = .ok (.iload 4, 2) := dc_21 (a := 4) (by decide +kernel) rfl
theorem d_Mod_addBed_14 : decode b_Mod_addBed 14 = .ok (.iconst 1, 1) := dc_4 (by decide +kernel)
theorem d_Mod_addBed_15 : decode b_Mod_addBed 15 = .ok (.iload_n 1, 1) := dc_27 (by decide +kernel)
theorem d_Mod_addBed_16 : decode b_Mod_addBed 16 = .ok (.iload_n 2, 1) := dc_28 (by decide +kernel)
theorem d_Mod_addBed_17 : decode b_Mod_addBed 17 = .ok (.iload 5, 2) := dc_21 (a := 5) (by decide +kernel) rfl
theorem d_Mod_addBed_19 : decode b_Mod_addBed 19 = .ok (.imul, 1) := dc_104 (by decide +kernel)
theorem d_Mod_addBed_20 : decode b_Mod_addBed 20 = .ok (.iadd, 1) := dc_96 (by decide +kernel)
theorem d_Mod_addBed_21 : decode b_Mod_addBed 21 = .ok (.ishl, 1) := dc_120 (by decide +kernel)
theorem d_Mod_addBed_22 : decode b_Mod_addBed 22 = .ok (.ior, 1) := dc_128 (by decide +kernel)
theorem d_Mod_addBed_23 : decode b_Mod_addBed 23 = .ok (.istore 4, 2) := dc_54 (a := 4) (by decide +kernel) rfl
theorem d_Mod_addBed_25 : decode b_Mod_addBed 25 = .ok (.iinc 5 1, 3) := dc_132 (a := 5) (b := 1) (by decide +kernel) rfl
theorem d_Mod_addBed_28 : decode b_Mod_addBed 28 = .ok (.goto (-22), 3) := dc_167 (a := 255) (b := 234) (by decide +kernel) rfl
theorem d_Mod_addBed_31 : decode b_Mod_addBed 31 = .ok (.aload_n 0, 1) := dc_42 (by decide +kernel)
theorem d_Mod_addBed_32 : decode b_Mod_addBed 32 = .ok (.getfield 35, 3) := dc_180 (a := 0) (b := 35) (by decide +kernel) rfl
theorem d_Mod_addBed_35 : decode b_Mod_addBed 35 = .ok (.aload_n 0, 1) := dc_42 (by decide +kernel)
theorem d_Mod_addBed_36 : decode b_Mod_addBed 36 = .ok (.getfield 289, 3) := dc_180 (a := 1) (b := 33) (by decide +kernel) rfl
theorem d_Mod_addBed_39 : decode b_Mod_addBed 39 = .ok (.iload 4, 2) := dc_21 (a := 4) (by decide +kernel) rfl
theorem d_Mod_addBed_41 : decode b_Mod_addBed 41 = .ok (.iastore, 1) := dc_79 (by decide +kernel)
theorem d_Mod_addBed_42 : decode b_Mod_addBed 42 = .ok (.aload_n 0, 1) := dc_42 (by decide +kernel)
theorem d_Mod_addBed_43 : decode b_Mod_addBed 43 = .ok (.dup, 1) := dc_89 (by decide +kernel)
theorem d_Mod_addBed_44 : decode b_Mod_addBed 44 = .ok (.getfield 289, 3) := dc_180 (a := 1) (b := 33) (by decide +kernel) rfl
theorem d_Mod_addBed_47 : decode b_Mod_addBed 47 = .ok (.iconst 1, 1) := dc_4 (by decide +kernel)
theorem d_Mod_addBed_48 : decode b_Mod_addBed 48 = .ok (.iadd, 1) := dc_96 (by decide +kernel)
theorem d_Mod_addBed_49 : decode b_Mod_addBed 49 = .ok (.putfield 289, 3) := dc_181 (a := 1) (b := 33) (by decide +kernel) rfl
theorem d_Mod_addBed_52 : decode b_Mod_addBed 52 = .ok (.return_, 1) := dc_177 (by decide +kernel)
theorem d_Mod_findBeds_0 : decode b_Mod_findBeds 0 = .ok (.aload_n 0, 1) := dc_42 (by decide +kernel)
theorem d_Mod_findBeds_1 : decode b_Mod_findBeds 1 = .ok (.iconst 0, 1) := dc_3 (by decide +kernel)
theorem d_Mod_findBeds_2 : decode b_Mod_findBeds 2 = .ok (.putfield 289, 3) := dc_181 (a := 1) (b := 33) (by decide +kernel) rfl
theorem d_Mod_findBeds_5 : decode b_Mod_findBeds 5 = .ok (.iconst 0, 1) := dc_3 (by decide +kernel)
theorem d_Mod_findBeds_6 : decode b_Mod_findBeds 6 = .ok (.istore_n 1, 1) := dc_60 (by decide +kernel)
theorem d_Mod_findBeds_7 : decode b_Mod_findBeds 7 = .ok (.iload_n 1, 1) := dc_27 (by decide +kernel)
theorem d_Mod_findBeds_8 : decode b_Mod_findBeds 8 = .ok (.aload_n 0, 1) := dc_42 (by decide +kernel)
theorem d_Mod_findBeds_9 : decode b_Mod_findBeds 9 = .ok (.invokevirtual 183, 3) := dc_182 (a := 0) (b := 183) (by decide +kernel) rfl
theorem d_Mod_findBeds_12 : decode b_Mod_findBeds 12 = .ok (.if_icmp .ge 72, 3) := dc_162 (a := 0) (b := 72) (by decide +kernel) rfl
theorem d_Mod_findBeds_15 : decode b_Mod_findBeds 15 = .ok (.iconst 2, 1) := dc_5 (by decide +kernel)
theorem d_Mod_findBeds_16 : decode b_Mod_findBeds 16 = .ok (.istore_n 2, 1) := dc_61 (by decide +kernel)
theorem d_Mod_findBeds_17 : decode b_Mod_findBeds 17 = .ok (.iload_n 1, 1) := dc_27 (by decide +kernel)
theorem d_Mod_findBeds_18 : decode b_Mod_findBeds 18 = .ok (.aload_n 0, 1) := dc_42 (by decide +kernel)
theorem d_Mod_findBeds_19 : decode b_Mod_findBeds 19 = .ok (.getfield 81, 3) := dc_180 (a := 0) (b := 81) (by decide +kernel) rfl
theorem d_Mod_findBeds_22 : decode b_Mod_findBeds 22 = .ok (.irem, 1) := dc_112 (by decide +kernel)
theorem d_Mod_findBeds_23 : decode b_Mod_findBeds 23 = .ok (.iload_n 2, 1) := dc_28 (by decide +kernel)
theorem d_Mod_findBeds_24 : decode b_Mod_findBeds 24 = .ok (.iadd, 1) := dc_96 (by decide +kernel)
theorem d_Mod_findBeds_25 : decode b_Mod_findBeds 25 = .ok (.aload_n 0, 1) := dc_42 (by decide +kernel)
theorem d_Mod_findBeds_26 : decode b_Mod_findBeds 26 = .ok (.getfield 81, 3) := dc_180 (a := 0) (b := 81) (by decide +kernel) rfl
theorem d_Mod_findBeds_29 : decode b_Mod_findBeds 29 = .ok (.if_icmp .gt 16, 3) := dc_163 (a := 0) (b := 16) (by decide +kernel) rfl
theorem d_Mod_findBeds_32 : decode b_Mod_findBeds 32 = .ok (.aload_n 0, 1) := dc_42 (by decide +kernel)
theorem d_Mod_findBeds_33 : decode b_Mod_findBeds 33 = .ok (.iload_n 1, 1) := dc_27 (by decide +kernel)
theorem d_Mod_findBeds_34 : decode b_Mod_findBeds 34 = .ok (.iconst 1, 1) := dc_4 (by decide +kernel)
theorem d_Mod_findBeds_35 : decode b_Mod_findBeds 35 = .ok (.iload_n 2, 1) := dc_28 (by decide +kernel)
theorem d_Mod_findBeds_36 : decode b_Mod_findBeds 36 = .ok (.invokevirtual 292, 3) := dc_182 (a := 1) (b := 36) (by decide +kernel) rfl
theorem d_Mod_findBeds_39 : decode b_Mod_findBeds 39 = .ok (.iinc 2 1, 3) := dc_132 (a := 2) (b := 1) (by decide +kernel) rfl
theorem d_Mod_findBeds_42 : decode b_Mod_findBeds 42 = .ok (.goto (-25), 3) := dc_167 (a := 255) (b := 231) (by decide +kernel) rfl
theorem d_Mod_findBeds_45 : decode b_Mod_findBeds 45 = .ok (.iconst 2, 1) := dc_5 (by decide +kernel)
theorem d_Mod_findBeds_46 : decode b_Mod_findBeds 46 = .ok (.istore_n 2, 1) := dc_61 (by decide +kernel)
theorem d_Mod_findBeds_47 : decode b_Mod_findBeds 47 = .ok (.iload_n 1, 1) := dc_27 (by decide +kernel)
theorem d_Mod_findBeds_48 : decode b_Mod_findBeds 48 = .ok (.aload_n 0, 1) := dc_42 (by decide +kernel)
theorem d_Mod_findBeds_49 : decode b_Mod_findBeds 49 = .ok (.getfield 81, 3) := dc_180 (a := 0) (b := 81) (by decide +kernel) rfl
theorem d_Mod_findBeds_52 : decode b_Mod_findBeds 52 = .ok (.idiv, 1) := dc_108 (by decide +kernel)
theorem d_Mod_findBeds_53 : decode b_Mod_findBeds 53 = .ok (.iload_n 2, 1) := dc_28 (by decide +kernel)
theorem d_Mod_findBeds_54 : decode b_Mod_findBeds 54 = .ok (.iadd, 1) := dc_96 (by decide +kernel)
theorem d_Mod_findBeds_55 : decode b_Mod_findBeds 55 = .ok (.aload_n 0, 1) := dc_42 (by decide +kernel)
theorem d_Mod_findBeds_56 : decode b_Mod_findBeds 56 = .ok (.getfield 84, 3) := dc_180 (a := 0) (b := 84) (by decide +kernel) rfl
theorem d_Mod_findBeds_59 : decode b_Mod_findBeds 59 = .ok (.if_icmp .gt 19, 3) := dc_163 (a := 0) (b := 19) (by decide +kernel) rfl
theorem d_Mod_findBeds_62 : decode b_Mod_findBeds 62 = .ok (.aload_n 0, 1) := dc_42 (by decide +kernel)
theorem d_Mod_findBeds_63 : decode b_Mod_findBeds 63 = .ok (.iload_n 1, 1) := dc_27 (by decide +kernel)
theorem d_Mod_findBeds_64 : decode b_Mod_findBeds 64 = .ok (.aload_n 0, 1) := dc_42 (by decide +kernel)
theorem d_Mod_findBeds_65 : decode b_Mod_findBeds 65 = .ok (.getfield 81, 3) := dc_180 (a := 0) (b := 81) (by decide +kernel) rfl
theorem d_Mod_findBeds_68 : decode b_Mod_findBeds 68 = .ok (.iload_n 2, 1) := dc_28 (by decide +kernel)
theorem d_Mod_findBeds_69 : decode b_Mod_findBeds 69 = .ok (.invokevirtual 292, 3) := dc_182 (a := 1) (b := 36) (by decide +kernel) rfl
theorem d_Mod_findBeds_72 : decode b_Mod_findBeds 72 = .ok (.iinc 2 1, 3) := dc_132 (a := 2) (b := 1) (by decide +kernel) rfl
theorem d_Mod_findBeds_75 : decode b_Mod_findBeds 75 = .ok (.goto (-28), 3) := dc_167 (a := 255) (b := 228) (by decide +kernel) rfl
theorem d_Mod_findBeds_78 : decode b_Mod_findBeds 78 = .ok (.iinc 1 1, 3) := dc_132 (a := 1) (b := 1) (by decide +kernel) rfl
theorem d_Mod_findBeds_81 : decode b_Mod_findBeds 81 = .ok (.goto (-74), 3) := dc_167 (a := 255) (b := 182) (by decide +kernel) rfl
theorem d_Mod_findBeds_84 : decode b_Mod_findBeds 84 = .ok (.return_, 1) := dc_177 (by decide +kernel)
theorem d_Mod_doesBedFit_0 : decode b_Mod_doesBedFit 0 = .ok (.iconst 1, 1) := dc_4 (by decide +kernel)
theorem d_Mod_doesBedFit_1 : decode b_Mod_doesBedFit 1 = .ok (.istore_n 3, 1) := dc_62 (by decide +kernel)
theorem d_Mod_doesBedFit_2 : decode b_Mod_doesBedFit 2 = .ok (.iconst 0, 1) := dc_3 (by decide +kernel)
theorem d_Mod_doesBedFit_3 : decode b_Mod_doesBedFit 3 = .ok (.istore 4, 2) := dc_54 (a := 4) (by decide +kernel) rfl
theorem d_Mod_doesBedFit_5 : decode b_Mod_doesBedFit 5 = .ok (.iload 4, 2) := dc_21 (a := 4) (by decide +kernel) rfl
theorem d_Mod_doesBedFit_7 : decode b_Mod_doesBedFit 7 = .ok (.aload_n 0, 1) := dc_42 (by decide +kernel)
theorem d_Mod_doesBedFit_8 : decode b_Mod_doesBedFit 8 = .ok (.invokevirtual 183, 3) := dc_182 (a := 0) (b := 183) (by decide +kernel) rfl
theorem d_Mod_doesBedFit_11 : decode b_Mod_doesBedFit 11 = .ok (.if_icmp .ge 74, 3) := dc_162 (a := 0) (b := 74) (by decide +kernel) rfl
theorem d_Mod_doesBedFit_14 : decode b_Mod_doesBedFit 14 = .ok (.iload_n 1, 1) := dc_27 (by decide +kernel)
theorem d_Mod_doesBedFit_15 : decode b_Mod_doesBedFit 15 = .ok (.iload 4, 2) := dc_21 (a := 4) (by decide +kernel) rfl
theorem d_Mod_doesBedFit_17 : decode b_Mod_doesBedFit 17 = .ok (.ishr, 1) := dc_122 (by decide +kernel)
theorem d_Mod_doesBedFit_18 : decode b_Mod_doesBedFit 18 = .ok (.iconst 1, 1) := dc_4 (by decide +kernel)
theorem d_Mod_doesBedFit_19 : decode b_Mod_doesBedFit 19 = .ok (.iand, 1) := dc_126 (by decide +kernel)
theorem d_Mod_doesBedFit_20 : decode b_Mod_doesBedFit 20 = .ok (.iconst 1, 1) := dc_4 (by decide +kernel)
theorem d_Mod_doesBedFit_21 : decode b_Mod_doesBedFit 21 = .ok (.if_icmp .ne 21, 3) := dc_160 (a := 0) (b := 21) (by decide +kernel) rfl
theorem d_Mod_doesBedFit_24 : decode b_Mod_doesBedFit 24 = .ok (.iload_n 2, 1) := dc_28 (by decide +kernel)
theorem d_Mod_doesBedFit_25 : decode b_Mod_doesBedFit 25 = .ok (.aload_n 0, 1) := dc_42 (by decide +kernel)
theorem d_Mod_doesBedFit_26 : decode b_Mod_doesBedFit 26 = .ok (.getfield 7, 3) := dc_180 (a := 0) (b := 7) (by decide +kernel) rfl
theorem d_Mod_doesBedFit_29 : decode b_Mod_doesBedFit 29 = .ok (.bipush 64, 2) := dc_16 (a := 64) (by decide +kernel) rfl
theorem d_Mod_doesBedFit_31 : decode b_Mod_doesBedFit 31 = .ok (.iload 4, 2) := dc_21 (a := 4) (by decide +kernel) rfl
theorem d_Mod_doesBedFit_33 : decode b_Mod_doesBedFit 33 = .ok (.iadd, 1) := dc_96 (by decide +kernel)
theorem d_Mod_doesBedFit_34 : decode b_Mod_doesBedFit 34 = .ok (.iaload, 1) := dc_46 (by decide +kernel)
theorem d_Mod_doesBedFit_35 : decode b_Mod_doesBedFit 35 = .ok (.if_icmp .gt 7, 3) := dc_163 (a := 0) (b := 7) (by decide +kernel) rfl
theorem d_Mod_doesBedFit_38 : decode b_Mod_doesBedFit 38 = .ok (.iconst 1, 1) := dc_4 (by decide +kernel)
theorem d_Mod_doesBedFit_39 : decode b_Mod_doesBedFit 39 = .ok (.goto 4, 3) := dc_167 (a := 0) (b := 4) (by decide +kernel) rfl
theorem d_Mod_doesBedFit_42 : decode b_Mod_doesBedFit 42 = .ok (.iconst 0, 1) := dc_3 (by decide +kernel)
theorem d_Mod_doesBedFit_43 : decode b_Mod_doesBedFit 43 = .ok (.istore 5, 2) := dc_54 (a := 5) (by decide +kernel) rfl
theorem d_Mod_doesBedFit_45 : decode b_Mod_doesBedFit 45 = .ok (.iload_n 3, 1) := dc_29 (by decide +kernel)
theorem d_Mod_doesBedFit_46 : decode b_Mod_doesBedFit 46 = .ok (.ifCond .eq 31, 3) := dc_153 (a := 0) (b := 31) (by decide +kernel) rfl
theorem d_Mod_doesBedFit_49 : decode b_Mod_doesBedFit 49 = .ok (.aload_n 0, 1) := dc_42 (by decide +kernel)
theorem d_Mod_doesBedFit_50 : decode b_Mod_doesBedFit 50 = .ok (.getfield 7, 3) := dc_180 (a := 0) (b := 7) (by decide +kernel) rfl
theorem d_Mod_doesBedFit_53 : decode b_Mod_doesBedFit 53 = .ok (.bipush 64, 2) := dc_16 (a := 64) (by decide +kernel) rfl
theorem d_Mod_doesBedFit_55 : decode b_Mod_doesBedFit 55 = .ok (.iload 4, 2) := dc_21 (a := 4) (by decide +kernel) rfl
theorem d_Mod_doesBedFit_57 : decode b_Mod_doesBedFit 57 = .ok (.iadd, 1) := dc_96 (by decide +kernel)
theorem d_Mod_doesBedFit_58 : decode b_Mod_doesBedFit 58 = .ok (.iaload, 1) := dc_46 (by decide +kernel)
theorem d_Mod_doesBedFit_59 : decode b_Mod_doesBedFit 59 = .ok (.ifCond .eq 14, 3) := dc_153 (a := 0) (b := 14) (by decide +kernel) rfl
theorem d_Mod_doesBedFit_62 : decode b_Mod_doesBedFit 62 = .ok (.iload 5, 2) := dc_21 (a := 5) (by decide +kernel) rfl
theorem d_Mod_doesBedFit_64 : decode b_Mod_doesBedFit 64 = .ok (.aload_n 0, 1) := dc_42 (by decide +kernel)
theorem d_Mod_doesBedFit_65 : decode b_Mod_doesBedFit 65 = .ok (.iload 4, 2) := dc_21 (a := 4) (by decide +kernel) rfl
theorem d_Mod_doesBedFit_67 : decode b_Mod_doesBedFit 67 = .ok (.invokevirtual 192, 3) := dc_182 (a := 0) (b := 192) (by decide +kernel) rfl
theorem d_Mod_doesBedFit_70 : decode b_Mod_doesBedFit 70 = .ok (.if_icmp .ne 7, 3) := dc_160 (a := 0) (b := 7) (by decide +kernel) rfl
theorem d_Mod_doesBedFit_73 : decode b_Mod_doesBedFit 73 = .ok (.iconst 1, 1) := dc_4 (by decide +kernel)
theorem d_Mod_doesBedFit_74 : decode b_Mod_doesBedFit 74 = .ok (.goto 4, 3) := dc_167 (a := 0) (b := 4) (by decide +kernel) rfl
theorem d_Mod_doesBedFit_77 : decode b_Mod_doesBedFit 77 = .ok (.iconst 0, 1) := dc_3 (by decide +kernel)
theorem d_Mod_doesBedFit_78 : decode b_Mod_doesBedFit 78 = .ok (.istore_n 3, 1) := dc_62 (by decide +kernel)
theorem d_Mod_doesBedFit_79 : decode b_Mod_doesBedFit 79 = .ok (.iinc 4 1, 3) := dc_132 (a := 4) (b := 1) (by decide +kernel) rfl
theorem d_Mod_doesBedFit_82 : decode b_Mod_doesBedFit 82 = .ok (.goto (-77), 3) := dc_167 (a := 255) (b := 179) (by decide +kernel) rfl
theorem d_Mod_doesBedFit_85 : decode b_Mod_doesBedFit 85 = .ok (.iload_n 3, 1) := dc_29 (by decide +kernel)
theorem d_Mod_doesBedFit_86 : decode b_Mod_doesBedFit 86 = .ok (.ireturn, 1) := dc_172 (by decide +kernel)
theorem d_Mod_beds_0 : decode b_Mod_beds 0 = .ok (.iload_n 1, 1) := dc_27 (by decide +kernel)
theorem d_Mod_beds_1 : decode b_Mod_beds 1 = .ok (.i2l, 1) := dc_133 (by decide +kernel)
theorem d_Mod_beds_2 : decode b_Mod_beds 2 = .ok (.lconst 0, 1) := dc_9 (by decide +kernel)
theorem d_Mod_beds_3 : decode b_Mod_beds 3 = .ok (.ldc2_w 186, 3) := dc_20 (a := 0) (b := 186) (by decide +kernel) rfl
theorem d_Mod_beds_6 : decode b_Mod_beds 6 = .ok (.invokestatic 95, 3) := dc_184 (a := 0) (b := 95) (by decide +kernel) rfl
theorem d_Mod_beds_9 : decode b_Mod_beds 9 = .ok (.ifCond .ne 5, 3) := dc_154 (a := 0) (b := 5) (by decide +kernel) rfl
theorem d_Mod_beds_12 : decode b_Mod_beds 12 = .ok (.iconst (-1), 1) := dc_2 (by decide +kernel)
theorem d_Mod_beds_13 : decode b_Mod_beds 13 = .ok (.ireturn, 1) := dc_172 (by decide +kernel)
theorem d_Mod_beds_14 : decode b_Mod_beds 14 = .ok (.aload_n 0, 1) := dc_42 (by decide +kernel)
theorem d_Mod_beds_15 : decode b_Mod_beds 15 = .ok (.invokevirtual 295, 3) := dc_182 (a := 1) (b := 39) (by decide +kernel) rfl
theorem d_Mod_beds_18 : decode b_Mod_beds 18 = .ok (.iconst 0, 1) := dc_3 (by decide +kernel)
theorem d_Mod_beds_19 : decode b_Mod_beds 19 = .ok (.istore_n 2, 1) := dc_61 (by decide +kernel)
theorem d_Mod_beds_20 : decode b_Mod_beds 20 = .ok (.iconst 1, 1) := dc_4 (by decide +kernel)
theorem d_Mod_beds_21 : decode b_Mod_beds 21 = .ok (.aload_n 0, 1) := dc_42 (by decide +kernel)
theorem d_Mod_beds_22 : decode b_Mod_beds 22 = .ok (.invokevirtual 183, 3) := dc_182 (a := 0) (b := 183) (by decide +kernel) rfl
theorem d_Mod_beds_25 : decode b_Mod_beds 25 = .ok (.ishl, 1) := dc_120 (by decide +kernel)
theorem d_Mod_beds_26 : decode b_Mod_beds 26 = .ok (.iconst 1, 1) := dc_4 (by decide +kernel)
theorem d_Mod_beds_27 : decode b_Mod_beds 27 = .ok (.isub, 1) := dc_100 (by decide +kernel)
theorem d_Mod_beds_28 : decode b_Mod_beds 28 = .ok (.istore_n 3, 1) := dc_62 (by decide +kernel)
theorem d_Mod_beds_29 : decode b_Mod_beds 29 = .ok (.iconst 0, 1) := dc_3 (by decide +kernel)
theorem d_Mod_beds_30 : decode b_Mod_beds 30 = .ok (.istore 4, 2) := dc_54 (a := 4) (by decide +kernel) rfl
theorem d_Mod_beds_32 : decode b_Mod_beds 32 = .ok (.bipush (-4), 2) := dc_16 (a := 252) (by decide +kernel) rfl
theorem d_Mod_beds_34 : decode b_Mod_beds 34 = .ok (.istore 5, 2) := dc_54 (a := 5) (by decide +kernel) rfl
theorem d_Mod_beds_36 : decode b_Mod_beds 36 = .ok (.iconst 0, 1) := dc_3 (by decide +kernel)
theorem d_Mod_beds_37 : decode b_Mod_beds 37 = .ok (.istore 6, 2) := dc_54 (a := 6) (by decide +kernel) rfl
theorem d_Mod_beds_39 : decode b_Mod_beds 39 = .ok (.iload 6, 2) := dc_21 (a := 6) (by decide +kernel) rfl
theorem d_Mod_beds_41 : decode b_Mod_beds 41 = .ok (.aload_n 0, 1) := dc_42 (by decide +kernel)
theorem d_Mod_beds_42 : decode b_Mod_beds 42 = .ok (.getfield 289, 3) := dc_180 (a := 1) (b := 33) (by decide +kernel) rfl
theorem d_Mod_beds_45 : decode b_Mod_beds 45 = .ok (.if_icmp .ge 82, 3) := dc_162 (a := 0) (b := 82) (by decide +kernel) rfl
theorem d_Mod_beds_48 : decode b_Mod_beds 48 = .ok (.iconst 1, 1) := dc_4 (by decide +kernel)
theorem d_Mod_beds_49 : decode b_Mod_beds 49 = .ok (.istore 7, 2) := dc_54 (a := 7) (by decide +kernel) rfl
theorem d_Mod_beds_51 : decode b_Mod_beds 51 = .ok (.iload 7, 2) := dc_21 (a := 7) (by decide +kernel) rfl
theorem d_Mod_beds_53 : decode b_Mod_beds 53 = .ok (.bipush 9, 2) := dc_16 (a := 9) (by decide +kernel) rfl
theorem d_Mod_beds_55 : decode b_Mod_beds 55 = .ok (.if_icmp .gt 66, 3) := dc_163 (a := 0) (b := 66) (by decide +kernel) rfl
theorem d_Mod_beds_58 : decode b_Mod_beds 58 = .ok (.aload_n 0, 1) := dc_42 (by decide +kernel)
theorem d_Mod_beds_59 : decode b_Mod_beds 59 = .ok (.aload_n 0, 1) := dc_42 (by decide +kernel)
theorem d_Mod_beds_60 : decode b_Mod_beds 60 = .ok (.getfield 35, 3) := dc_180 (a := 0) (b := 35) (by decide +kernel) rfl
theorem d_Mod_beds_63 : decode b_Mod_beds 63 = .ok (.iload 6, 2) := dc_21 (a := 6) (by decide +kernel) rfl
theorem d_Mod_beds_65 : decode b_Mod_beds 65 = .ok (.iaload, 1) := dc_46 (by decide +kernel)
theorem d_Mod_beds_66 : decode b_Mod_beds 66 = .ok (.iload 7, 2) := dc_21 (a := 7) (by decide +kernel) rfl
theorem d_Mod_beds_68 : decode b_Mod_beds 68 = .ok (.invokevirtual 298, 3) := dc_182 (a := 1) (b := 42) (by decide +kernel) rfl
theorem d_Mod_beds_71 : decode b_Mod_beds 71 = .ok (.ifCond .eq 44, 3) := dc_153 (a := 0) (b := 44) (by decide +kernel) rfl
theorem d_Mod_beds_74 : decode b_Mod_beds 74 = .ok (.iload_n 3, 1) := dc_29 (by decide +kernel)
theorem d_Mod_beds_75 : decode b_Mod_beds 75 = .ok (.aload_n 0, 1) := dc_42 (by decide +kernel)
theorem d_Mod_beds_76 : decode b_Mod_beds 76 = .ok (.getfield 35, 3) := dc_180 (a := 0) (b := 35) (by decide +kernel) rfl
theorem d_Mod_beds_79 : decode b_Mod_beds 79 = .ok (.iload 6, 2) := dc_21 (a := 6) (by decide +kernel) rfl
theorem d_Mod_beds_81 : decode b_Mod_beds 81 = .ok (.iaload, 1) := dc_46 (by decide +kernel)
theorem d_Mod_beds_82 : decode b_Mod_beds 82 = .ok (.iand, 1) := dc_126 (by decide +kernel)
theorem d_Mod_beds_83 : decode b_Mod_beds 83 = .ok (.istore_n 3, 1) := dc_62 (by decide +kernel)
theorem d_Mod_beds_84 : decode b_Mod_beds 84 = .ok (.iload 4, 2) := dc_21 (a := 4) (by decide +kernel) rfl
theorem d_Mod_beds_86 : decode b_Mod_beds 86 = .ok (.aload_n 0, 1) := dc_42 (by decide +kernel)
theorem d_Mod_beds_87 : decode b_Mod_beds 87 = .ok (.getfield 35, 3) := dc_180 (a := 0) (b := 35) (by decide +kernel) rfl
theorem d_Mod_beds_90 : decode b_Mod_beds 90 = .ok (.iload 6, 2) := dc_21 (a := 6) (by decide +kernel) rfl
theorem d_Mod_beds_92 : decode b_Mod_beds 92 = .ok (.iaload, 1) := dc_46 (by decide +kernel)
theorem d_Mod_beds_93 : decode b_Mod_beds 93 = .ok (.ior, 1) := dc_128 (by decide +kernel)
theorem d_Mod_beds_94 : decode b_Mod_beds 94 = .ok (.istore 4, 2) := dc_54 (a := 4) (by decide +kernel) rfl
theorem d_Mod_beds_96 : decode b_Mod_beds 96 = .ok (.iload 7, 2) := dc_21 (a := 7) (by decide +kernel) rfl
theorem d_Mod_beds_98 : decode b_Mod_beds 98 = .ok (.iload 5, 2) := dc_21 (a := 5) (by decide +kernel) rfl
theorem d_Mod_beds_100 : decode b_Mod_beds 100 = .ok (.if_icmp .le 8, 3) := dc_164 (a := 0) (b := 8) (by decide +kernel) rfl
theorem d_Mod_beds_103 : decode b_Mod_beds 103 = .ok (.iload 7, 2) := dc_21 (a := 7) (by decide +kernel) rfl
theorem d_Mod_beds_105 : decode b_Mod_beds 105 = .ok (.goto 5, 3) := dc_167 (a := 0) (b := 5) (by decide +kernel) rfl
theorem d_Mod_beds_108 : decode b_Mod_beds 108 = .ok (.iload 5, 2) := dc_21 (a := 5) (by decide +kernel) rfl
theorem d_Mod_beds_110 : decode b_Mod_beds 110 = .ok (.istore 5, 2) := dc_54 (a := 5) (by decide +kernel) rfl
theorem d_Mod_beds_112 : decode b_Mod_beds 112 = .ok (.iinc 2 1, 3) := dc_132 (a := 2) (b := 1) (by decide +kernel) rfl
theorem d_Mod_beds_115 : decode b_Mod_beds 115 = .ok (.iinc 7 1, 3) := dc_132 (a := 7) (b := 1) (by decide +kernel) rfl
theorem d_Mod_beds_118 : decode b_Mod_beds 118 = .ok (.goto (-67), 3) := dc_167 (a := 255) (b := 189) (by decide +kernel) rfl
theorem d_Mod_beds_121 : decode b_Mod_beds 121 = .ok (.iinc 6 1, 3) := dc_132 (a := 6) (b := 1) (by decide +kernel) rfl
theorem d_Mod_beds_124 : decode b_Mod_beds 124 = .ok (.goto (-85), 3) := dc_167 (a := 255) (b := 171) (by decide +kernel) rfl
theorem d_Mod_beds_127 : decode b_Mod_beds 127 = .ok (.iload_n 1, 1) := dc_27 (by decide +kernel)
theorem d_Mod_beds_128 : decode b_Mod_beds 128 = .ok (.ifCond .eq 7, 3) := dc_153 (a := 0) (b := 7) (by decide +kernel) rfl
theorem d_Mod_beds_131 : decode b_Mod_beds 131 = .ok (.iload_n 2, 1) := dc_28 (by decide +kernel)
theorem d_Mod_beds_132 : decode b_Mod_beds 132 = .ok (.ifCond .ne 14, 3) := dc_154 (a := 0) (b := 14) (by decide +kernel) rfl
theorem d_Mod_beds_135 : decode b_Mod_beds 135 = .ok (.iload_n 1, 1) := dc_27 (by decide +kernel)
theorem d_Mod_beds_136 : decode b_Mod_beds 136 = .ok (.ifCond .ne 7, 3) := dc_154 (a := 0) (b := 7) (by decide +kernel) rfl
theorem d_Mod_beds_139 : decode b_Mod_beds 139 = .ok (.iload_n 2, 1) := dc_28 (by decide +kernel)
theorem d_Mod_beds_140 : decode b_Mod_beds 140 = .ok (.goto 5, 3) := dc_167 (a := 0) (b := 5) (by decide +kernel) rfl
theorem d_Mod_beds_143 : decode b_Mod_beds 143 = .ok (.bipush (-4), 2) := dc_16 (a := 252) (by decide +kernel) rfl
theorem d_Mod_beds_145 : decode b_Mod_beds 145 = .ok (.ireturn, 1) := dc_172 (by decide +kernel)
theorem d_Mod_beds_146 : decode b_Mod_beds 146 = .ok (.iload_n 1, 1) := dc_27 (by decide +kernel)
theorem d_Mod_beds_147 : decode b_Mod_beds 147 = .ok (.iconst 1, 1) := dc_4 (by decide +kernel)
theorem d_Mod_beds_148 : decode b_Mod_beds 148 = .ok (.if_icmp .ne 7, 3) := dc_160 (a := 0) (b := 7) (by decide +kernel) rfl
theorem d_Mod_beds_151 : decode b_Mod_beds 151 = .ok (.iload_n 3, 1) := dc_29 (by decide +kernel)
theorem d_Mod_beds_152 : decode b_Mod_beds 152 = .ok (.goto 26, 3) := dc_167 (a := 0) (b := 26) (by decide +kernel) rfl
theorem d_Mod_beds_155 : decode b_Mod_beds 155 = .ok (.iload_n 1, 1) := dc_27 (by decide +kernel)
theorem d_Mod_beds_156 : decode b_Mod_beds 156 = .ok (.iconst 2, 1) := dc_5 (by decide +kernel)
theorem d_Mod_beds_157 : decode b_Mod_beds 157 = .ok (.if_icmp .ne 19, 3) := dc_160 (a := 0) (b := 19) (by decide +kernel) rfl
theorem d_Mod_beds_160 : decode b_Mod_beds 160 = .ok (.iconst 1, 1) := dc_4 (by decide +kernel)
theorem d_Mod_beds_161 : decode b_Mod_beds 161 = .ok (.aload_n 0, 1) := dc_42 (by decide +kernel)
theorem d_Mod_beds_162 : decode b_Mod_beds 162 = .ok (.invokevirtual 183, 3) := dc_182 (a := 0) (b := 183) (by decide +kernel) rfl
theorem d_Mod_beds_165 : decode b_Mod_beds 165 = .ok (.ishl, 1) := dc_120 (by decide +kernel)
theorem d_Mod_beds_166 : decode b_Mod_beds 166 = .ok (.iconst 1, 1) := dc_4 (by decide +kernel)
theorem d_Mod_beds_167 : decode b_Mod_beds 167 = .ok (.isub, 1) := dc_100 (by decide +kernel)
theorem d_Mod_beds_168 : decode b_Mod_beds 168 = .ok (.iload 4, 2) := dc_21 (a := 4) (by decide +kernel) rfl
theorem d_Mod_beds_170 : decode b_Mod_beds 170 = .ok (.iconst (-1), 1) := dc_2 (by decide +kernel)
theorem d_Mod_beds_171 : decode b_Mod_beds 171 = .ok (.ixor, 1) := dc_130 (by decide +kernel)
theorem d_Mod_beds_172 : decode b_Mod_beds 172 = .ok (.iand, 1) := dc_126 (by decide +kernel)
theorem d_Mod_beds_173 : decode b_Mod_beds 173 = .ok (.goto 5, 3) := dc_167 (a := 0) (b := 5) (by decide +kernel) rfl
theorem d_Mod_beds_176 : decode b_Mod_beds 176 = .ok (.iload 5, 2) := dc_21 (a := 5) (by decide +kernel) rfl
theorem d_Mod_beds_178 : decode b_Mod_beds 178 = .ok (.ireturn, 1) := dc_172 (by decide +kernel)
theorem d_Mod_bedsBy_0 : decode b_Mod_bedsBy 0 = .ok (.iconst 0, 1) := dc_3 (by decide +kernel)
theorem d_Mod_bedsBy_1 : decode b_Mod_bedsBy 1 = .ok (.istore 4, 2) := dc_54 (a := 4) (by decide +kernel) rfl
theorem d_Mod_bedsBy_3 : decode b_Mod_bedsBy 3 = .ok (.iconst 0, 1) := dc_3 (by decide +kernel)
theorem d_Mod_bedsBy_4 : decode b_Mod_bedsBy 4 = .ok (.istore 5, 2) := dc_54 (a := 5) (by decide +kernel) rfl
theorem d_Mod_bedsBy_6 : decode b_Mod_bedsBy 6 = .ok (.iload 5, 2) := dc_21 (a := 5) (by decide +kernel) rfl
theorem d_Mod_bedsBy_8 : decode b_Mod_bedsBy 8 = .ok (.aload_n 0, 1) := dc_42 (by decide +kernel)
theorem d_Mod_bedsBy_9 : decode b_Mod_bedsBy 9 = .ok (.getfield 289, 3) := dc_180 (a := 1) (b := 33) (by decide +kernel) rfl
theorem d_Mod_bedsBy_12 : decode b_Mod_bedsBy 12 = .ok (.if_icmp .ge 88, 3) := dc_162 (a := 0) (b := 88) (by decide +kernel) rfl
theorem d_Mod_bedsBy_15 : decode b_Mod_bedsBy 15 = .ok (.iconst 1, 1) := dc_4 (by decide +kernel)
theorem d_Mod_bedsBy_16 : decode b_Mod_bedsBy 16 = .ok (.istore 6, 2) := dc_54 (a := 6) (by decide +kernel) rfl
theorem d_Mod_bedsBy_18 : decode b_Mod_bedsBy 18 = .ok (.iload 6, 2) := dc_21 (a := 6) (by decide +kernel) rfl
theorem d_Mod_bedsBy_20 : decode b_Mod_bedsBy 20 = .ok (.bipush 9, 2) := dc_16 (a := 9) (by decide +kernel) rfl
theorem d_Mod_bedsBy_22 : decode b_Mod_bedsBy 22 = .ok (.if_icmp .gt 72, 3) := dc_163 (a := 0) (b := 72) (by decide +kernel) rfl
theorem d_Mod_bedsBy_25 : decode b_Mod_bedsBy 25 = .ok (.aload_n 0, 1) := dc_42 (by decide +kernel)
theorem d_Mod_bedsBy_26 : decode b_Mod_bedsBy 26 = .ok (.getfield 35, 3) := dc_180 (a := 0) (b := 35) (by decide +kernel) rfl
theorem d_Mod_bedsBy_29 : decode b_Mod_bedsBy 29 = .ok (.iload 5, 2) := dc_21 (a := 5) (by decide +kernel) rfl
theorem d_Mod_bedsBy_31 : decode b_Mod_bedsBy 31 = .ok (.iaload, 1) := dc_46 (by decide +kernel)
theorem d_Mod_bedsBy_32 : decode b_Mod_bedsBy 32 = .ok (.iload_n 1, 1) := dc_27 (by decide +kernel)
theorem d_Mod_bedsBy_33 : decode b_Mod_bedsBy 33 = .ok (.ishr, 1) := dc_122 (by decide +kernel)
theorem d_Mod_bedsBy_34 : decode b_Mod_bedsBy 34 = .ok (.iconst 1, 1) := dc_4 (by decide +kernel)
theorem d_Mod_bedsBy_35 : decode b_Mod_bedsBy 35 = .ok (.iand, 1) := dc_126 (by decide +kernel)
theorem d_Mod_bedsBy_36 : decode b_Mod_bedsBy 36 = .ok (.iconst 1, 1) := dc_4 (by decide +kernel)
theorem d_Mod_bedsBy_37 : decode b_Mod_bedsBy 37 = .ok (.if_icmp .ne 13, 3) := dc_160 (a := 0) (b := 13) (by decide +kernel) rfl
theorem d_Mod_bedsBy_40 : decode b_Mod_bedsBy 40 = .ok (.iload 6, 2) := dc_21 (a := 6) (by decide +kernel) rfl
theorem d_Mod_bedsBy_42 : decode b_Mod_bedsBy 42 = .ok (.iload_n 2, 1) := dc_28 (by decide +kernel)
theorem d_Mod_bedsBy_43 : decode b_Mod_bedsBy 43 = .ok (.if_icmp .gt 7, 3) := dc_163 (a := 0) (b := 7) (by decide +kernel) rfl
theorem d_Mod_bedsBy_46 : decode b_Mod_bedsBy 46 = .ok (.iconst 1, 1) := dc_4 (by decide +kernel)
theorem d_Mod_bedsBy_47 : decode b_Mod_bedsBy 47 = .ok (.goto 4, 3) := dc_167 (a := 0) (b := 4) (by decide +kernel) rfl
theorem d_Mod_bedsBy_50 : decode b_Mod_bedsBy 50 = .ok (.iconst 0, 1) := dc_3 (by decide +kernel)
theorem d_Mod_bedsBy_51 : decode b_Mod_bedsBy 51 = .ok (.istore 7, 2) := dc_54 (a := 7) (by decide +kernel) rfl
theorem d_Mod_bedsBy_53 : decode b_Mod_bedsBy 53 = .ok (.iload 4, 2) := dc_21 (a := 4) (by decide +kernel) rfl
theorem d_Mod_bedsBy_55 : decode b_Mod_bedsBy 55 = .ok (.iload 7, 2) := dc_21 (a := 7) (by decide +kernel) rfl
theorem d_Mod_bedsBy_57 : decode b_Mod_bedsBy 57 = .ok (.iload_n 3, 1) := dc_29 (by decide +kernel)
theorem d_Mod_bedsBy_58 : decode b_Mod_bedsBy 58 = .ok (.if_icmp .ne 23, 3) := dc_160 (a := 0) (b := 23) (by decide +kernel) rfl
theorem d_Mod_bedsBy_61 : decode b_Mod_bedsBy 61 = .ok (.aload_n 0, 1) := dc_42 (by decide +kernel)
theorem d_Mod_bedsBy_62 : decode b_Mod_bedsBy 62 = .ok (.aload_n 0, 1) := dc_42 (by decide +kernel)
theorem d_Mod_bedsBy_63 : decode b_Mod_bedsBy 63 = .ok (.getfield 35, 3) := dc_180 (a := 0) (b := 35) (by decide +kernel) rfl
theorem d_Mod_bedsBy_66 : decode b_Mod_bedsBy 66 = .ok (.iload 5, 2) := dc_21 (a := 5) (by decide +kernel) rfl
theorem d_Mod_bedsBy_68 : decode b_Mod_bedsBy 68 = .ok (.iaload, 1) := dc_46 (by decide +kernel)
theorem d_Mod_bedsBy_69 : decode b_Mod_bedsBy 69 = .ok (.iload 6, 2) := dc_21 (a := 6) (by decide +kernel) rfl
theorem d_Mod_bedsBy_71 : decode b_Mod_bedsBy 71 = .ok (.invokevirtual 298, 3) := dc_182 (a := 1) (b := 42) (by decide +kernel) rfl
theorem d_Mod_bedsBy_74 : decode b_Mod_bedsBy 74 = .ok (.ifCond .eq 7, 3) := dc_153 (a := 0) (b := 7) (by decide +kernel) rfl
theorem d_Mod_bedsBy_77 : decode b_Mod_bedsBy 77 = .ok (.iconst 1, 1) := dc_4 (by decide +kernel)
theorem d_Mod_bedsBy_78 : decode b_Mod_bedsBy 78 = .ok (.goto 4, 3) := dc_167 (a := 0) (b := 4) (by decide +kernel) rfl
theorem d_Mod_bedsBy_81 : decode b_Mod_bedsBy 81 = .ok (.iconst 0, 1) := dc_3 (by decide +kernel)
theorem d_Mod_bedsBy_82 : decode b_Mod_bedsBy 82 = .ok (.invokestatic 196, 3) := dc_184 (a := 0) (b := 196) (by decide +kernel) rfl
theorem d_Mod_bedsBy_85 : decode b_Mod_bedsBy 85 = .ok (.iadd, 1) := dc_96 (by decide +kernel)
theorem d_Mod_bedsBy_86 : decode b_Mod_bedsBy 86 = .ok (.istore 4, 2) := dc_54 (a := 4) (by decide +kernel) rfl
theorem d_Mod_bedsBy_88 : decode b_Mod_bedsBy 88 = .ok (.iinc 6 1, 3) := dc_132 (a := 6) (b := 1) (by decide +kernel) rfl
theorem d_Mod_bedsBy_91 : decode b_Mod_bedsBy 91 = .ok (.goto (-73), 3) := dc_167 (a := 255) (b := 183) (by decide +kernel) rfl
theorem d_Mod_bedsBy_94 : decode b_Mod_bedsBy 94 = .ok (.iinc 5 1, 3) := dc_132 (a := 5) (b := 1) (by decide +kernel) rfl
theorem d_Mod_bedsBy_97 : decode b_Mod_bedsBy 97 = .ok (.goto (-91), 3) := dc_167 (a := 255) (b := 165) (by decide +kernel) rfl
theorem d_Mod_bedsBy_100 : decode b_Mod_bedsBy 100 = .ok (.iload 4, 2) := dc_21 (a := 4) (by decide +kernel) rfl
theorem d_Mod_bedsBy_102 : decode b_Mod_bedsBy 102 = .ok (.ireturn, 1) := dc_172 (by decide +kernel)
theorem d_Mod_next__0 : decode b_Mod_next_ 0 = .ok (.iload_n 1, 1) := dc_27 (by decide +kernel)
theorem d_Mod_next__1 : decode b_Mod_next_ 1 = .ok (.i2l, 1) := dc_133 (by decide +kernel)
theorem d_Mod_next__2 : decode b_Mod_next_ 2 = .ok (.lconst 1, 1) := dc_10 (by decide +kernel)
theorem d_Mod_next__3 : decode b_Mod_next_ 3 = .ok (.ldc2_w 208, 3) := dc_20 (a := 0) (b := 208) (by decide +kernel) rfl
theorem d_Mod_next__6 : decode b_Mod_next_ 6 = .ok (.invokestatic 95, 3) := dc_184 (a := 0) (b := 95) (by decide +kernel) rfl
theorem d_Mod_next__9 : decode b_Mod_next_ 9 = .ok (.ifCond .eq 13, 3) := dc_153 (a := 0) (b := 13) (by decide +kernel) rfl
theorem d_Mod_next__12 : decode b_Mod_next_ 12 = .ok (.iload_n 2, 1) := dc_28 (by decide +kernel)
theorem d_Mod_next__13 : decode b_Mod_next_ 13 = .ok (.i2l, 1) := dc_133 (by decide +kernel)
theorem d_Mod_next__14 : decode b_Mod_next_ 14 = .ok (.lconst 0, 1) := dc_9 (by decide +kernel)
theorem d_Mod_next__15 : decode b_Mod_next_ 15 = .ok (.lconst 1, 1) := dc_10 (by decide +kernel)
theorem d_Mod_next__16 : decode b_Mod_next_ 16 = .ok (.invokestatic 95, 3) := dc_184 (a := 0) (b := 95) (by decide +kernel) rfl
theorem d_Mod_next__19 : decode b_Mod_next_ 19 = .ok (.ifCond .ne 5, 3) := dc_154 (a := 0) (b := 5) (by decide +kernel) rfl
theorem d_Mod_next__22 : decode b_Mod_next_ 22 = .ok (.iconst (-1), 1) := dc_2 (by decide +kernel)
theorem d_Mod_next__23 : decode b_Mod_next_ 23 = .ok (.ireturn, 1) := dc_172 (by decide +kernel)
theorem d_Mod_next__24 : decode b_Mod_next_ 24 = .ok (.aload_n 0, 1) := dc_42 (by decide +kernel)
theorem d_Mod_next__25 : decode b_Mod_next_ 25 = .ok (.invokevirtual 295, 3) := dc_182 (a := 1) (b := 39) (by decide +kernel) rfl
theorem d_Mod_next__28 : decode b_Mod_next_ 28 = .ok (.aload_n 0, 1) := dc_42 (by decide +kernel)
theorem d_Mod_next__29 : decode b_Mod_next_ 29 = .ok (.iconst 0, 1) := dc_3 (by decide +kernel)
theorem d_Mod_next__30 : decode b_Mod_next_ 30 = .ok (.iload_n 1, 1) := dc_27 (by decide +kernel)
theorem d_Mod_next__31 : decode b_Mod_next_ 31 = .ok (.iconst 1, 1) := dc_4 (by decide +kernel)
theorem d_Mod_next__32 : decode b_Mod_next_ 32 = .ok (.invokevirtual 301, 3) := dc_182 (a := 1) (b := 45) (by decide +kernel) rfl
theorem d_Mod_next__35 : decode b_Mod_next_ 35 = .ok (.aload_n 0, 1) := dc_42 (by decide +kernel)
theorem d_Mod_next__36 : decode b_Mod_next_ 36 = .ok (.iconst 0, 1) := dc_3 (by decide +kernel)
theorem d_Mod_next__37 : decode b_Mod_next_ 37 = .ok (.iload_n 1, 1) := dc_27 (by decide +kernel)
theorem d_Mod_next__38 : decode b_Mod_next_ 38 = .ok (.iconst 0, 1) := dc_3 (by decide +kernel)
theorem d_Mod_next__39 : decode b_Mod_next_ 39 = .ok (.invokevirtual 301, 3) := dc_182 (a := 1) (b := 45) (by decide +kernel) rfl
theorem d_Mod_next__42 : decode b_Mod_next_ 42 = .ok (.iadd, 1) := dc_96 (by decide +kernel)
theorem d_Mod_next__43 : decode b_Mod_next_ 43 = .ok (.istore_n 3, 1) := dc_62 (by decide +kernel)
theorem d_Mod_next__44 : decode b_Mod_next_ 44 = .ok (.bipush (-4), 2) := dc_16 (a := 252) (by decide +kernel) rfl
theorem d_Mod_next__46 : decode b_Mod_next_ 46 = .ok (.istore 4, 2) := dc_54 (a := 4) (by decide +kernel) rfl
theorem d_Mod_next__48 : decode b_Mod_next_ 48 = .ok (.iconst 0, 1) := dc_3 (by decide +kernel)
theorem d_Mod_next__49 : decode b_Mod_next_ 49 = .ok (.istore 5, 2) := dc_54 (a := 5) (by decide +kernel) rfl
theorem d_Mod_next__51 : decode b_Mod_next_ 51 = .ok (.iload 5, 2) := dc_21 (a := 5) (by decide +kernel) rfl
theorem d_Mod_next__53 : decode b_Mod_next_ 53 = .ok (.aload_n 0, 1) := dc_42 (by decide +kernel)
theorem d_Mod_next__54 : decode b_Mod_next_ 54 = .ok (.invokevirtual 183, 3) := dc_182 (a := 0) (b := 183) (by decide +kernel) rfl
theorem d_Mod_next__57 : decode b_Mod_next_ 57 = .ok (.if_icmp .ge 87, 3) := dc_162 (a := 0) (b := 87) (by decide +kernel) rfl
theorem d_Mod_next__60 : decode b_Mod_next_ 60 = .ok (.aload_n 0, 1) := dc_42 (by decide +kernel)
theorem d_Mod_next__61 : decode b_Mod_next_ 61 = .ok (.getfield 7, 3) := dc_180 (a := 0) (b := 7) (by decide +kernel) rfl
theorem d_Mod_next__64 : decode b_Mod_next_ 64 = .ok (.bipush 64, 2) := dc_16 (a := 64) (by decide +kernel) rfl
theorem d_Mod_next__66 : decode b_Mod_next_ 66 = .ok (.iload 5, 2) := dc_21 (a := 5) (by decide +kernel) rfl
theorem d_Mod_next__68 : decode b_Mod_next_ 68 = .ok (.iadd, 1) := dc_96 (by decide +kernel)
theorem d_Mod_next__69 : decode b_Mod_next_ 69 = .ok (.iaload, 1) := dc_46 (by decide +kernel)
theorem d_Mod_next__70 : decode b_Mod_next_ 70 = .ok (.iload_n 1, 1) := dc_27 (by decide +kernel)
theorem d_Mod_next__71 : decode b_Mod_next_ 71 = .ok (.if_icmp .ge 67, 3) := dc_162 (a := 0) (b := 67) (by decide +kernel) rfl
theorem d_Mod_next__74 : decode b_Mod_next_ 74 = .ok (.aload_n 0, 1) := dc_42 (by decide +kernel)
theorem d_Mod_next__75 : decode b_Mod_next_ 75 = .ok (.iload 5, 2) := dc_21 (a := 5) (by decide +kernel) rfl
theorem d_Mod_next__77 : decode b_Mod_next_ 77 = .ok (.iload_n 1, 1) := dc_27 (by decide +kernel)
theorem d_Mod_next__78 : decode b_Mod_next_ 78 = .ok (.iconst 1, 1) := dc_4 (by decide +kernel)
theorem d_Mod_next__79 : decode b_Mod_next_ 79 = .ok (.invokevirtual 301, 3) := dc_182 (a := 1) (b := 45) (by decide +kernel) rfl
theorem d_Mod_next__82 : decode b_Mod_next_ 82 = .ok (.istore 6, 2) := dc_54 (a := 6) (by decide +kernel) rfl
theorem d_Mod_next__84 : decode b_Mod_next_ 84 = .ok (.aload_n 0, 1) := dc_42 (by decide +kernel)
theorem d_Mod_next__85 : decode b_Mod_next_ 85 = .ok (.iload 5, 2) := dc_21 (a := 5) (by decide +kernel) rfl
theorem d_Mod_next__87 : decode b_Mod_next_ 87 = .ok (.iload_n 1, 1) := dc_27 (by decide +kernel)
theorem d_Mod_next__88 : decode b_Mod_next_ 88 = .ok (.iconst 0, 1) := dc_3 (by decide +kernel)
theorem d_Mod_next__89 : decode b_Mod_next_ 89 = .ok (.invokevirtual 301, 3) := dc_182 (a := 1) (b := 45) (by decide +kernel) rfl
theorem d_Mod_next__92 : decode b_Mod_next_ 92 = .ok (.istore 7, 2) := dc_54 (a := 7) (by decide +kernel) rfl
theorem d_Mod_next__94 : decode b_Mod_next_ 94 = .ok (.iload 6, 2) := dc_21 (a := 6) (by decide +kernel) rfl
theorem d_Mod_next__96 : decode b_Mod_next_ 96 = .ok (.iload 7, 2) := dc_21 (a := 7) (by decide +kernel) rfl
theorem d_Mod_next__98 : decode b_Mod_next_ 98 = .ok (.if_icmp .le 8, 3) := dc_164 (a := 0) (b := 8) (by decide +kernel) rfl
theorem d_Mod_next__101 : decode b_Mod_next_ 101 = .ok (.iload 6, 2) := dc_21 (a := 6) (by decide +kernel) rfl
theorem d_Mod_next__103 : decode b_Mod_next_ 103 = .ok (.goto 5, 3) := dc_167 (a := 0) (b := 5) (by decide +kernel) rfl
theorem d_Mod_next__106 : decode b_Mod_next_ 106 = .ok (.iload 7, 2) := dc_21 (a := 7) (by decide +kernel) rfl
theorem d_Mod_next__108 : decode b_Mod_next_ 108 = .ok (.istore 8, 2) := dc_54 (a := 8) (by decide +kernel) rfl
theorem d_Mod_next__110 : decode b_Mod_next_ 110 = .ok (.iload 8, 2) := dc_21 (a := 8) (by decide +kernel) rfl
theorem d_Mod_next__112 : decode b_Mod_next_ 112 = .ok (.iload_n 3, 1) := dc_29 (by decide +kernel)
theorem d_Mod_next__113 : decode b_Mod_next_ 113 = .ok (.if_icmp .ge 8, 3) := dc_162 (a := 0) (b := 8) (by decide +kernel) rfl
theorem d_Mod_next__116 : decode b_Mod_next_ 116 = .ok (.iload 5, 2) := dc_21 (a := 5) (by decide +kernel) rfl
theorem d_Mod_next__118 : decode b_Mod_next_ 118 = .ok (.goto 5, 3) := dc_167 (a := 0) (b := 5) (by decide +kernel) rfl
theorem d_Mod_next__121 : decode b_Mod_next_ 121 = .ok (.iload 4, 2) := dc_21 (a := 4) (by decide +kernel) rfl
theorem d_Mod_next__123 : decode b_Mod_next_ 123 = .ok (.istore 4, 2) := dc_54 (a := 4) (by decide +kernel) rfl
theorem d_Mod_next__125 : decode b_Mod_next_ 125 = .ok (.iload 8, 2) := dc_21 (a := 8) (by decide +kernel) rfl
theorem d_Mod_next__127 : decode b_Mod_next_ 127 = .ok (.iload_n 3, 1) := dc_29 (by decide +kernel)
theorem d_Mod_next__128 : decode b_Mod_next_ 128 = .ok (.if_icmp .ge 8, 3) := dc_162 (a := 0) (b := 8) (by decide +kernel) rfl
theorem d_Mod_next__131 : decode b_Mod_next_ 131 = .ok (.iload 8, 2) := dc_21 (a := 8) (by decide +kernel) rfl
theorem d_Mod_next__133 : decode b_Mod_next_ 133 = .ok (.goto 4, 3) := dc_167 (a := 0) (b := 4) (by decide +kernel) rfl
theorem d_Mod_next__136 : decode b_Mod_next_ 136 = .ok (.iload_n 3, 1) := dc_29 (by decide +kernel)
theorem d_Mod_next__137 : decode b_Mod_next_ 137 = .ok (.istore_n 3, 1) := dc_62 (by decide +kernel)
theorem d_Mod_next__138 : decode b_Mod_next_ 138 = .ok (.iinc 5 1, 3) := dc_132 (a := 5) (b := 1) (by decide +kernel) rfl
theorem d_Mod_next__141 : decode b_Mod_next_ 141 = .ok (.goto (-90), 3) := dc_167 (a := 255) (b := 166) (by decide +kernel) rfl
theorem d_Mod_next__144 : decode b_Mod_next_ 144 = .ok (.iload 4, 2) := dc_21 (a := 4) (by decide +kernel) rfl
theorem d_Mod_next__146 : decode b_Mod_next_ 146 = .ok (.bipush (-4), 2) := dc_16 (a := 252) (by decide +kernel) rfl
theorem d_Mod_next__148 : decode b_Mod_next_ 148 = .ok (.if_icmp .ne 8, 3) := dc_160 (a := 0) (b := 8) (by decide +kernel) rfl
theorem d_Mod_next__151 : decode b_Mod_next_ 151 = .ok (.bipush (-4), 2) := dc_16 (a := 252) (by decide +kernel) rfl
theorem d_Mod_next__153 : decode b_Mod_next_ 153 = .ok (.goto 13, 3) := dc_167 (a := 0) (b := 13) (by decide +kernel) rfl
theorem d_Mod_next__156 : decode b_Mod_next_ 156 = .ok (.iload_n 2, 1) := dc_28 (by decide +kernel)
theorem d_Mod_next__157 : decode b_Mod_next_ 157 = .ok (.ifCond .ne 8, 3) := dc_154 (a := 0) (b := 8) (by decide +kernel) rfl
theorem d_Mod_next__160 : decode b_Mod_next_ 160 = .ok (.iload 4, 2) := dc_21 (a := 4) (by decide +kernel) rfl
theorem d_Mod_next__162 : decode b_Mod_next_ 162 = .ok (.goto 4, 3) := dc_167 (a := 0) (b := 4) (by decide +kernel) rfl
theorem d_Mod_next__165 : decode b_Mod_next_ 165 = .ok (.iload_n 3, 1) := dc_29 (by decide +kernel)
theorem d_Mod_next__166 : decode b_Mod_next_ 166 = .ok (.ireturn, 1) := dc_172 (by decide +kernel)
theorem d_Mod_fails_0 : decode b_Mod_fails 0 = .ok (.aload_n 0, 1) := dc_42 (by decide +kernel)
theorem d_Mod_fails_1 : decode b_Mod_fails 1 = .ok (.getfield 7, 3) := dc_180 (a := 0) (b := 7) (by decide +kernel) rfl
theorem d_Mod_fails_4 : decode b_Mod_fails 4 = .ok (.bipush 80, 2) := dc_16 (a := 80) (by decide +kernel) rfl
theorem d_Mod_fails_6 : decode b_Mod_fails 6 = .ok (.iload_n 1, 1) := dc_27 (by decide +kernel)
theorem d_Mod_fails_7 : decode b_Mod_fails 7 = .ok (.iadd, 1) := dc_96 (by decide +kernel)
theorem d_Mod_fails_8 : decode b_Mod_fails 8 = .ok (.iaload, 1) := dc_46 (by decide +kernel)
theorem d_Mod_fails_9 : decode b_Mod_fails 9 = .ok (.iload_n 2, 1) := dc_28 (by decide +kernel)
theorem d_Mod_fails_10 : decode b_Mod_fails 10 = .ok (.iadd, 1) := dc_96 (by decide +kernel)
theorem d_Mod_fails_11 : decode b_Mod_fails 11 = .ok (.istore_n 3, 1) := dc_62 (by decide +kernel)
theorem d_Mod_fails_12 : decode b_Mod_fails 12 = .ok (.iconst 0, 1) := dc_3 (by decide +kernel)
theorem d_Mod_fails_13 : decode b_Mod_fails 13 = .ok (.istore 4, 2) := dc_54 (a := 4) (by decide +kernel) rfl
theorem d_Mod_fails_15 : decode b_Mod_fails 15 = .ok (.iconst 0, 1) := dc_3 (by decide +kernel)
theorem d_Mod_fails_16 : decode b_Mod_fails 16 = .ok (.istore 5, 2) := dc_54 (a := 5) (by decide +kernel) rfl
theorem d_Mod_fails_18 : decode b_Mod_fails 18 = .ok (.iload 5, 2) := dc_21 (a := 5) (by decide +kernel) rfl
theorem d_Mod_fails_20 : decode b_Mod_fails 20 = .ok (.aload_n 0, 1) := dc_42 (by decide +kernel)
theorem d_Mod_fails_21 : decode b_Mod_fails 21 = .ok (.getfield 7, 3) := dc_180 (a := 0) (b := 7) (by decide +kernel) rfl
theorem d_Mod_fails_24 : decode b_Mod_fails 24 = .ok (.bipush 86, 2) := dc_16 (a := 86) (by decide +kernel) rfl
theorem d_Mod_fails_26 : decode b_Mod_fails 26 = .ok (.iaload, 1) := dc_46 (by decide +kernel)
theorem d_Mod_fails_27 : decode b_Mod_fails 27 = .ok (.if_icmp .ge 110, 3) := dc_162 (a := 0) (b := 110) (by decide +kernel) rfl
theorem d_Mod_fails_30 : decode b_Mod_fails 30 = .ok (.bipush 87, 2) := dc_16 (a := 87) (by decide +kernel) rfl
theorem d_Mod_fails_32 : decode b_Mod_fails 32 = .ok (.iconst 3, 1) := dc_6 (by decide +kernel)
theorem d_Mod_fails_33 : decode b_Mod_fails 33 = .ok (.iload 5, 2) := dc_21 (a := 5) (by decide +kernel) rfl
theorem d_Mod_fails_35 : decode b_Mod_fails 35 = .ok (.imul, 1) := dc_104 (by decide +kernel)
theorem d_Mod_fails_36 : decode b_Mod_fails 36 = .ok (.iadd, 1) := dc_96 (by decide +kernel)
theorem d_Mod_fails_37 : decode b_Mod_fails 37 = .ok (.istore 6, 2) := dc_54 (a := 6) (by decide +kernel) rfl
theorem d_Mod_fails_39 : decode b_Mod_fails 39 = .ok (.iload_n 3, 1) := dc_29 (by decide +kernel)
theorem d_Mod_fails_40 : decode b_Mod_fails 40 = .ok (.aload_n 0, 1) := dc_42 (by decide +kernel)
theorem d_Mod_fails_41 : decode b_Mod_fails 41 = .ok (.getfield 7, 3) := dc_180 (a := 0) (b := 7) (by decide +kernel) rfl
theorem d_Mod_fails_44 : decode b_Mod_fails 44 = .ok (.iload 6, 2) := dc_21 (a := 6) (by decide +kernel) rfl
theorem d_Mod_fails_46 : decode b_Mod_fails 46 = .ok (.iconst 1, 1) := dc_4 (by decide +kernel)
theorem d_Mod_fails_47 : decode b_Mod_fails 47 = .ok (.iadd, 1) := dc_96 (by decide +kernel)
theorem d_Mod_fails_48 : decode b_Mod_fails 48 = .ok (.iaload, 1) := dc_46 (by decide +kernel)
theorem d_Mod_fails_49 : decode b_Mod_fails 49 = .ok (.iload_n 1, 1) := dc_27 (by decide +kernel)
theorem d_Mod_fails_50 : decode b_Mod_fails 50 = .ok (.if_icmp .ne 49, 3) := dc_160 (a := 0) (b := 49) (by decide +kernel) rfl
theorem d_Mod_fails_53 : decode b_Mod_fails 53 = .ok (.aload_n 0, 1) := dc_42 (by decide +kernel)
theorem d_Mod_fails_54 : decode b_Mod_fails 54 = .ok (.getfield 38, 3) := dc_180 (a := 0) (b := 38) (by decide +kernel) rfl
theorem d_Mod_fails_57 : decode b_Mod_fails 57 = .ok (.aload_n 0, 1) := dc_42 (by decide +kernel)
theorem d_Mod_fails_58 : decode b_Mod_fails 58 = .ok (.getfield 7, 3) := dc_180 (a := 0) (b := 7) (by decide +kernel) rfl
theorem d_Mod_fails_61 : decode b_Mod_fails 61 = .ok (.iload 6, 2) := dc_21 (a := 6) (by decide +kernel) rfl
theorem d_Mod_fails_63 : decode b_Mod_fails 63 = .ok (.iaload, 1) := dc_46 (by decide +kernel)
theorem d_Mod_fails_64 : decode b_Mod_fails 64 = .ok (.iaload, 1) := dc_46 (by decide +kernel)
theorem d_Mod_fails_65 : decode b_Mod_fails 65 = .ok (.ifCond .eq 22, 3) := dc_153 (a := 0) (b := 22) (by decide +kernel) rfl
theorem d_Mod_fails_68 : decode b_Mod_fails 68 = .ok (.aload_n 0, 1) := dc_42 (by decide +kernel)
theorem d_Mod_fails_69 : decode b_Mod_fails 69 = .ok (.getfield 38, 3) := dc_180 (a := 0) (b := 38) (by decide +kernel) rfl
theorem d_Mod_fails_72 : decode b_Mod_fails 72 = .ok (.aload_n 0, 1) := dc_42 (by decide +kernel)
theorem d_Mod_fails_73 : decode b_Mod_fails 73 = .ok (.getfield 7, 3) := dc_180 (a := 0) (b := 7) (by decide +kernel) rfl
theorem d_Mod_fails_76 : decode b_Mod_fails 76 = .ok (.iload 6, 2) := dc_21 (a := 6) (by decide +kernel) rfl
theorem d_Mod_fails_78 : decode b_Mod_fails 78 = .ok (.iaload, 1) := dc_46 (by decide +kernel)
theorem d_Mod_fails_79 : decode b_Mod_fails 79 = .ok (.iaload, 1) := dc_46 (by decide +kernel)
theorem d_Mod_fails_80 : decode b_Mod_fails 80 = .ok (.aload_n 0, 1) := dc_42 (by decide +kernel)
theorem d_Mod_fails_81 : decode b_Mod_fails 81 = .ok (.getfield 305, 3) := dc_180 (a := 1) (b := 49) (by decide +kernel) rfl
theorem d_Mod_fails_84 : decode b_Mod_fails 84 = .ok (.if_icmp .le 15, 3) := dc_164 (a := 0) (b := 15) (by decide +kernel) rfl
theorem d_Mod_fails_87 : decode b_Mod_fails 87 = .ok (.aload_n 0, 1) := dc_42 (by decide +kernel)
theorem d_Mod_fails_88 : decode b_Mod_fails 88 = .ok (.getfield 7, 3) := dc_180 (a := 0) (b := 7) (by decide +kernel) rfl
theorem d_Mod_fails_91 : decode b_Mod_fails 91 = .ok (.iload 6, 2) := dc_21 (a := 6) (by decide +kernel) rfl
theorem d_Mod_fails_93 : decode b_Mod_fails 93 = .ok (.iconst 2, 1) := dc_5 (by decide +kernel)
theorem d_Mod_fails_94 : decode b_Mod_fails 94 = .ok (.iadd, 1) := dc_96 (by decide +kernel)
theorem d_Mod_fails_95 : decode b_Mod_fails 95 = .ok (.iaload, 1) := dc_46 (by decide +kernel)
theorem d_Mod_fails_96 : decode b_Mod_fails 96 = .ok (.goto 4, 3) := dc_167 (a := 0) (b := 4) (by decide +kernel) rfl
theorem d_Mod_fails_99 : decode b_Mod_fails 99 = .ok (.iconst 0, 1) := dc_3 (by decide +kernel)
theorem d_Mod_fails_100 : decode b_Mod_fails 100 = .ok (.iadd, 1) := dc_96 (by decide +kernel)
theorem d_Mod_fails_101 : decode b_Mod_fails 101 = .ok (.istore_n 3, 1) := dc_62 (by decide +kernel)
theorem d_Mod_fails_102 : decode b_Mod_fails 102 = .ok (.iload 4, 2) := dc_21 (a := 4) (by decide +kernel) rfl
theorem d_Mod_fails_104 : decode b_Mod_fails 104 = .ok (.aload_n 0, 1) := dc_42 (by decide +kernel)
theorem d_Mod_fails_105 : decode b_Mod_fails 105 = .ok (.getfield 7, 3) := dc_180 (a := 0) (b := 7) (by decide +kernel) rfl
theorem d_Mod_fails_108 : decode b_Mod_fails 108 = .ok (.iload 6, 2) := dc_21 (a := 6) (by decide +kernel) rfl
theorem d_Mod_fails_110 : decode b_Mod_fails 110 = .ok (.iaload, 1) := dc_46 (by decide +kernel)
theorem d_Mod_fails_111 : decode b_Mod_fails 111 = .ok (.iload_n 1, 1) := dc_27 (by decide +kernel)
theorem d_Mod_fails_112 : decode b_Mod_fails 112 = .ok (.if_icmp .ne 15, 3) := dc_160 (a := 0) (b := 15) (by decide +kernel) rfl
theorem d_Mod_fails_115 : decode b_Mod_fails 115 = .ok (.aload_n 0, 1) := dc_42 (by decide +kernel)
theorem d_Mod_fails_116 : decode b_Mod_fails 116 = .ok (.getfield 7, 3) := dc_180 (a := 0) (b := 7) (by decide +kernel) rfl
theorem d_Mod_fails_119 : decode b_Mod_fails 119 = .ok (.iload 6, 2) := dc_21 (a := 6) (by decide +kernel) rfl
theorem d_Mod_fails_121 : decode b_Mod_fails 121 = .ok (.iconst 2, 1) := dc_5 (by decide +kernel)
theorem d_Mod_fails_122 : decode b_Mod_fails 122 = .ok (.iadd, 1) := dc_96 (by decide +kernel)
theorem d_Mod_fails_123 : decode b_Mod_fails 123 = .ok (.iaload, 1) := dc_46 (by decide +kernel)
theorem d_Mod_fails_124 : decode b_Mod_fails 124 = .ok (.goto 4, 3) := dc_167 (a := 0) (b := 4) (by decide +kernel) rfl
theorem d_Mod_fails_127 : decode b_Mod_fails 127 = .ok (.iconst 0, 1) := dc_3 (by decide +kernel)
theorem d_Mod_fails_128 : decode b_Mod_fails 128 = .ok (.iadd, 1) := dc_96 (by decide +kernel)
theorem d_Mod_fails_129 : decode b_Mod_fails 129 = .ok (.istore 4, 2) := dc_54 (a := 4) (by decide +kernel) rfl
theorem d_Mod_fails_131 : decode b_Mod_fails 131 = .ok (.iinc 5 1, 3) := dc_132 (a := 5) (b := 1) (by decide +kernel) rfl
theorem d_Mod_fails_134 : decode b_Mod_fails 134 = .ok (.goto (-116), 3) := dc_167 (a := 255) (b := 140) (by decide +kernel) rfl
theorem d_Mod_fails_137 : decode b_Mod_fails 137 = .ok (.iload_n 3, 1) := dc_29 (by decide +kernel)
theorem d_Mod_fails_138 : decode b_Mod_fails 138 = .ok (.iload 4, 2) := dc_21 (a := 4) (by decide +kernel) rfl
theorem d_Mod_fails_140 : decode b_Mod_fails 140 = .ok (.if_icmp .ge 7, 3) := dc_162 (a := 0) (b := 7) (by decide +kernel) rfl
theorem d_Mod_fails_143 : decode b_Mod_fails 143 = .ok (.iconst 1, 1) := dc_4 (by decide +kernel)
theorem d_Mod_fails_144 : decode b_Mod_fails 144 = .ok (.goto 4, 3) := dc_167 (a := 0) (b := 4) (by decide +kernel) rfl
theorem d_Mod_fails_147 : decode b_Mod_fails 147 = .ok (.iconst 0, 1) := dc_3 (by decide +kernel)
theorem d_Mod_fails_148 : decode b_Mod_fails 148 = .ok (.ireturn, 1) := dc_172 (by decide +kernel)
theorem d_Mod_findCrash_0 : decode b_Mod_findCrash 0 = .ok (.iconst 0, 1) := dc_3 (by decide +kernel)
theorem d_Mod_findCrash_1 : decode b_Mod_findCrash 1 = .ok (.istore_n 3, 1) := dc_62 (by decide +kernel)
theorem d_Mod_findCrash_2 : decode b_Mod_findCrash 2 = .ok (.iconst 1, 1) := dc_4 (by decide +kernel)
theorem d_Mod_findCrash_3 : decode b_Mod_findCrash 3 = .ok (.istore 4, 2) := dc_54 (a := 4) (by decide +kernel) rfl
theorem d_Mod_findCrash_5 : decode b_Mod_findCrash 5 = .ok (.aload_n 0, 1) := dc_42 (by decide +kernel)
theorem d_Mod_findCrash_6 : decode b_Mod_findCrash 6 = .ok (.iconst 0, 1) := dc_3 (by decide +kernel)
theorem d_Mod_findCrash_7 : decode b_Mod_findCrash 7 = .ok (.putfield 305, 3) := dc_181 (a := 1) (b := 49) (by decide +kernel) rfl
theorem d_Mod_findCrash_10 : decode b_Mod_findCrash 10 = .ok (.iconst 0, 1) := dc_3 (by decide +kernel)
theorem d_Mod_findCrash_11 : decode b_Mod_findCrash 11 = .ok (.istore 5, 2) := dc_54 (a := 5) (by decide +kernel) rfl
theorem d_Mod_findCrash_13 : decode b_Mod_findCrash 13 = .ok (.iload 5, 2) := dc_21 (a := 5) (by decide +kernel) rfl
theorem d_Mod_findCrash_15 : decode b_Mod_findCrash 15 = .ok (.iconst 4, 1) := dc_7 (by decide +kernel)
theorem d_Mod_findCrash_16 : decode b_Mod_findCrash 16 = .ok (.if_icmp .ge 17, 3) := dc_162 (a := 0) (b := 17) (by decide +kernel) rfl
theorem d_Mod_findCrash_19 : decode b_Mod_findCrash 19 = .ok (.aload_n 0, 1) := dc_42 (by decide +kernel)
theorem d_Mod_findCrash_20 : decode b_Mod_findCrash 20 = .ok (.getfield 38, 3) := dc_180 (a := 0) (b := 38) (by decide +kernel) rfl
theorem d_Mod_findCrash_23 : decode b_Mod_findCrash 23 = .ok (.iload 5, 2) := dc_21 (a := 5) (by decide +kernel) rfl
theorem d_Mod_findCrash_25 : decode b_Mod_findCrash 25 = .ok (.iconst 0, 1) := dc_3 (by decide +kernel)
theorem d_Mod_findCrash_26 : decode b_Mod_findCrash 26 = .ok (.iastore, 1) := dc_79 (by decide +kernel)
theorem d_Mod_findCrash_27 : decode b_Mod_findCrash 27 = .ok (.iinc 5 1, 3) := dc_132 (a := 5) (b := 1) (by decide +kernel) rfl
theorem d_Mod_findCrash_30 : decode b_Mod_findCrash 30 = .ok (.goto (-17), 3) := dc_167 (a := 255) (b := 239) (by decide +kernel) rfl
theorem d_Mod_findCrash_33 : decode b_Mod_findCrash 33 = .ok (.iload 4, 2) := dc_21 (a := 4) (by decide +kernel) rfl
theorem d_Mod_findCrash_35 : decode b_Mod_findCrash 35 = .ok (.ifCond .eq 91, 3) := dc_153 (a := 0) (b := 91) (by decide +kernel) rfl
theorem d_Mod_findCrash_38 : decode b_Mod_findCrash 38 = .ok (.iconst 0, 1) := dc_3 (by decide +kernel)
theorem d_Mod_findCrash_39 : decode b_Mod_findCrash 39 = .ok (.istore 4, 2) := dc_54 (a := 4) (by decide +kernel) rfl
theorem d_Mod_findCrash_41 : decode b_Mod_findCrash 41 = .ok (.iconst 0, 1) := dc_3 (by decide +kernel)
theorem d_Mod_findCrash_42 : decode b_Mod_findCrash 42 = .ok (.istore 5, 2) := dc_54 (a := 5) (by decide +kernel) rfl
theorem d_Mod_findCrash_44 : decode b_Mod_findCrash 44 = .ok (.iload 5, 2) := dc_21 (a := 5) (by decide +kernel) rfl
theorem d_Mod_findCrash_46 : decode b_Mod_findCrash 46 = .ok (.iconst 4, 1) := dc_7 (by decide +kernel)
theorem d_Mod_findCrash_47 : decode b_Mod_findCrash 47 = .ok (.if_icmp .ge 62, 3) := dc_162 (a := 0) (b := 62) (by decide +kernel) rfl
theorem d_Mod_findCrash_50 : decode b_Mod_findCrash 50 = .ok (.aload_n 0, 1) := dc_42 (by decide +kernel)
theorem d_Mod_findCrash_51 : decode b_Mod_findCrash 51 = .ok (.getfield 38, 3) := dc_180 (a := 0) (b := 38) (by decide +kernel) rfl
theorem d_Mod_findCrash_54 : decode b_Mod_findCrash 54 = .ok (.iload 5, 2) := dc_21 (a := 5) (by decide +kernel) rfl
theorem d_Mod_findCrash_56 : decode b_Mod_findCrash 56 = .ok (.iaload, 1) := dc_46 (by decide +kernel)
theorem d_Mod_findCrash_57 : decode b_Mod_findCrash 57 = .ok (.ifCond .ne 46, 3) := dc_154 (a := 0) (b := 46) (by decide +kernel) rfl
theorem d_Mod_findCrash_60 : decode b_Mod_findCrash 60 = .ok (.aload_n 0, 1) := dc_42 (by decide +kernel)
theorem d_Mod_findCrash_61 : decode b_Mod_findCrash 61 = .ok (.iload 5, 2) := dc_21 (a := 5) (by decide +kernel) rfl
theorem d_Mod_findCrash_63 : decode b_Mod_findCrash 63 = .ok (.iload 5, 2) := dc_21 (a := 5) (by decide +kernel) rfl
theorem d_Mod_findCrash_65 : decode b_Mod_findCrash 65 = .ok (.iload_n 1, 1) := dc_27 (by decide +kernel)
theorem d_Mod_findCrash_66 : decode b_Mod_findCrash 66 = .ok (.if_icmp .ne 7, 3) := dc_160 (a := 0) (b := 7) (by decide +kernel) rfl
theorem d_Mod_findCrash_69 : decode b_Mod_findCrash 69 = .ok (.iload_n 2, 1) := dc_28 (by decide +kernel)
theorem d_Mod_findCrash_70 : decode b_Mod_findCrash 70 = .ok (.goto 4, 3) := dc_167 (a := 0) (b := 4) (by decide +kernel) rfl
theorem d_Mod_findCrash_73 : decode b_Mod_findCrash 73 = .ok (.iconst 0, 1) := dc_3 (by decide +kernel)
theorem d_Mod_findCrash_74 : decode b_Mod_findCrash 74 = .ok (.invokevirtual 308, 3) := dc_182 (a := 1) (b := 52) (by decide +kernel) rfl
theorem d_Mod_findCrash_77 : decode b_Mod_findCrash 77 = .ok (.ifCond .eq 26, 3) := dc_153 (a := 0) (b := 26) (by decide +kernel) rfl
theorem d_Mod_findCrash_80 : decode b_Mod_findCrash 80 = .ok (.aload_n 0, 1) := dc_42 (by decide +kernel)
theorem d_Mod_findCrash_81 : decode b_Mod_findCrash 81 = .ok (.getfield 38, 3) := dc_180 (a := 0) (b := 38) (by decide +kernel) rfl
theorem d_Mod_findCrash_84 : decode b_Mod_findCrash 84 = .ok (.iload 5, 2) := dc_21 (a := 5) (by decide +kernel) rfl
theorem d_Mod_findCrash_86 : decode b_Mod_findCrash 86 = .ok (.aload_n 0, 1) := dc_42 (by decide +kernel)
theorem d_Mod_findCrash_87 : decode b_Mod_findCrash 87 = .ok (.getfield 305, 3) := dc_180 (a := 1) (b := 49) (by decide +kernel) rfl
theorem d_Mod_findCrash_90 : decode b_Mod_findCrash 90 = .ok (.iconst 1, 1) := dc_4 (by decide +kernel)
theorem d_Mod_findCrash_91 : decode b_Mod_findCrash 91 = .ok (.iadd, 1) := dc_96 (by decide +kernel)
theorem d_Mod_findCrash_92 : decode b_Mod_findCrash 92 = .ok (.iastore, 1) := dc_79 (by decide +kernel)
theorem d_Mod_findCrash_93 : decode b_Mod_findCrash 93 = .ok (.iload_n 3, 1) := dc_29 (by decide +kernel)
theorem d_Mod_findCrash_94 : decode b_Mod_findCrash 94 = .ok (.iconst 1, 1) := dc_4 (by decide +kernel)
theorem d_Mod_findCrash_95 : decode b_Mod_findCrash 95 = .ok (.iload 5, 2) := dc_21 (a := 5) (by decide +kernel) rfl
theorem d_Mod_findCrash_97 : decode b_Mod_findCrash 97 = .ok (.ishl, 1) := dc_120 (by decide +kernel)
theorem d_Mod_findCrash_98 : decode b_Mod_findCrash 98 = .ok (.ior, 1) := dc_128 (by decide +kernel)
theorem d_Mod_findCrash_99 : decode b_Mod_findCrash 99 = .ok (.istore_n 3, 1) := dc_62 (by decide +kernel)
theorem d_Mod_findCrash_100 : decode b_Mod_findCrash 100 = .ok (.iconst 1, 1) := dc_4 (by decide +kernel)
theorem d_Mod_findCrash_101 : decode b_Mod_findCrash 101 = .ok (.istore 4, 2) := dc_54 (a := 4) (by decide +kernel) rfl
theorem d_Mod_findCrash_103 : decode b_Mod_findCrash 103 = .ok (.iinc 5 1, 3) := dc_132 (a := 5) (b := 1) (by decide +kernel) rfl
theorem d_Mod_findCrash_106 : decode b_Mod_findCrash 106 = .ok (.goto (-62), 3) := dc_167 (a := 255) (b := 194) (by decide +kernel) rfl
theorem d_Mod_findCrash_109 : decode b_Mod_findCrash 109 = .ok (.aload_n 0, 1) := dc_42 (by decide +kernel)
theorem d_Mod_findCrash_110 : decode b_Mod_findCrash 110 = .ok (.dup, 1) := dc_89 (by decide +kernel)
theorem d_Mod_findCrash_111 : decode b_Mod_findCrash 111 = .ok (.getfield 305, 3) := dc_180 (a := 1) (b := 49) (by decide +kernel) rfl
theorem d_Mod_findCrash_114 : decode b_Mod_findCrash 114 = .ok (.iload 4, 2) := dc_21 (a := 4) (by decide +kernel) rfl
theorem d_Mod_findCrash_116 : decode b_Mod_findCrash 116 = .ok (.invokestatic 196, 3) := dc_184 (a := 0) (b := 196) (by decide +kernel) rfl
theorem d_Mod_findCrash_119 : decode b_Mod_findCrash 119 = .ok (.iadd, 1) := dc_96 (by decide +kernel)
theorem d_Mod_findCrash_120 : decode b_Mod_findCrash 120 = .ok (.putfield 305, 3) := dc_181 (a := 1) (b := 49) (by decide +kernel) rfl
theorem d_Mod_findCrash_123 : decode b_Mod_findCrash 123 = .ok (.goto (-90), 3) := dc_167 (a := 255) (b := 166) (by decide +kernel) rfl
theorem d_Mod_findCrash_126 : decode b_Mod_findCrash 126 = .ok (.iload_n 3, 1) := dc_29 (by decide +kernel)
theorem d_Mod_findCrash_127 : decode b_Mod_findCrash 127 = .ok (.ireturn, 1) := dc_172 (by decide +kernel)
theorem d_Mod_crash_0 : decode b_Mod_crash 0 = .ok (.iload_n 1, 1) := dc_27 (by decide +kernel)
theorem d_Mod_crash_1 : decode b_Mod_crash 1 = .ok (.i2l, 1) := dc_133 (by decide +kernel)
theorem d_Mod_crash_2 : decode b_Mod_crash 2 = .ok (.lconst 0, 1) := dc_9 (by decide +kernel)
theorem d_Mod_crash_3 : decode b_Mod_crash 3 = .ok (.lconst 1, 1) := dc_10 (by decide +kernel)
theorem d_Mod_crash_4 : decode b_Mod_crash 4 = .ok (.invokestatic 95, 3) := dc_184 (a := 0) (b := 95) (by decide +kernel) rfl
theorem d_Mod_crash_7 : decode b_Mod_crash 7 = .ok (.ifCond .ne 19, 3) := dc_154 (a := 0) (b := 19) (by decide +kernel) rfl
theorem d_Mod_crash_10 : decode b_Mod_crash 10 = .ok (.iload_n 1, 1) := dc_27 (by decide +kernel)
theorem d_Mod_crash_11 : decode b_Mod_crash 11 = .ok (.i2l, 1) := dc_133 (by decide +kernel)
theorem d_Mod_crash_12 : decode b_Mod_crash 12 = .ok (.ldc2_w 213, 3) := dc_20 (a := 0) (b := 213) (by decide +kernel) rfl
theorem d_Mod_crash_15 : decode b_Mod_crash 15 = .ok (.ldc2_w 275, 3) := dc_20 (a := 1) (b := 19) (by decide +kernel) rfl
theorem d_Mod_crash_18 : decode b_Mod_crash 18 = .ok (.invokestatic 95, 3) := dc_184 (a := 0) (b := 95) (by decide +kernel) rfl
theorem d_Mod_crash_21 : decode b_Mod_crash 21 = .ok (.ifCond .ne 5, 3) := dc_154 (a := 0) (b := 5) (by decide +kernel) rfl
theorem d_Mod_crash_24 : decode b_Mod_crash 24 = .ok (.iconst (-1), 1) := dc_2 (by decide +kernel)
theorem d_Mod_crash_25 : decode b_Mod_crash 25 = .ok (.ireturn, 1) := dc_172 (by decide +kernel)
theorem d_Mod_crash_26 : decode b_Mod_crash 26 = .ok (.aload_n 0, 1) := dc_42 (by decide +kernel)
theorem d_Mod_crash_27 : decode b_Mod_crash 27 = .ok (.bipush (-4), 2) := dc_16 (a := 252) (by decide +kernel) rfl
theorem d_Mod_crash_29 : decode b_Mod_crash 29 = .ok (.iconst 0, 1) := dc_3 (by decide +kernel)
theorem d_Mod_crash_30 : decode b_Mod_crash 30 = .ok (.invokevirtual 311, 3) := dc_182 (a := 1) (b := 55) (by decide +kernel) rfl
theorem d_Mod_crash_33 : decode b_Mod_crash 33 = .ok (.istore_n 2, 1) := dc_61 (by decide +kernel)
theorem d_Mod_crash_34 : decode b_Mod_crash 34 = .ok (.iload_n 1, 1) := dc_27 (by decide +kernel)
theorem d_Mod_crash_35 : decode b_Mod_crash 35 = .ok (.ifCond .ne 7, 3) := dc_154 (a := 0) (b := 7) (by decide +kernel) rfl
theorem d_Mod_crash_38 : decode b_Mod_crash 38 = .ok (.iload_n 2, 1) := dc_28 (by decide +kernel)
theorem d_Mod_crash_39 : decode b_Mod_crash 39 = .ok (.goto 41, 3) := dc_167 (a := 0) (b := 41) (by decide +kernel) rfl
theorem d_Mod_crash_42 : decode b_Mod_crash 42 = .ok (.iload_n 1, 1) := dc_27 (by decide +kernel)
theorem d_Mod_crash_43 : decode b_Mod_crash 43 = .ok (.iconst 1, 1) := dc_4 (by decide +kernel)
theorem d_Mod_crash_44 : decode b_Mod_crash 44 = .ok (.if_icmp .ne 10, 3) := dc_160 (a := 0) (b := 10) (by decide +kernel) rfl
theorem d_Mod_crash_47 : decode b_Mod_crash 47 = .ok (.aload_n 0, 1) := dc_42 (by decide +kernel)
theorem d_Mod_crash_48 : decode b_Mod_crash 48 = .ok (.getfield 305, 3) := dc_180 (a := 1) (b := 49) (by decide +kernel) rfl
theorem d_Mod_crash_51 : decode b_Mod_crash 51 = .ok (.goto 29, 3) := dc_167 (a := 0) (b := 29) (by decide +kernel) rfl
theorem d_Mod_crash_54 : decode b_Mod_crash 54 = .ok (.aload_n 0, 1) := dc_42 (by decide +kernel)
theorem d_Mod_crash_55 : decode b_Mod_crash 55 = .ok (.getfield 38, 3) := dc_180 (a := 0) (b := 38) (by decide +kernel) rfl
theorem d_Mod_crash_58 : decode b_Mod_crash 58 = .ok (.iload_n 1, 1) := dc_27 (by decide +kernel)
theorem d_Mod_crash_59 : decode b_Mod_crash 59 = .ok (.bipush 10, 2) := dc_16 (a := 10) (by decide +kernel) rfl
theorem d_Mod_crash_61 : decode b_Mod_crash 61 = .ok (.isub, 1) := dc_100 (by decide +kernel)
theorem d_Mod_crash_62 : decode b_Mod_crash 62 = .ok (.iaload, 1) := dc_46 (by decide +kernel)
theorem d_Mod_crash_63 : decode b_Mod_crash 63 = .ok (.ifCond .ne 8, 3) := dc_154 (a := 0) (b := 8) (by decide +kernel) rfl
theorem d_Mod_crash_66 : decode b_Mod_crash 66 = .ok (.bipush (-4), 2) := dc_16 (a := 252) (by decide +kernel) rfl
theorem d_Mod_crash_68 : decode b_Mod_crash 68 = .ok (.goto 12, 3) := dc_167 (a := 0) (b := 12) (by decide +kernel) rfl
theorem d_Mod_crash_71 : decode b_Mod_crash 71 = .ok (.aload_n 0, 1) := dc_42 (by decide +kernel)
theorem d_Mod_crash_72 : decode b_Mod_crash 72 = .ok (.getfield 38, 3) := dc_180 (a := 0) (b := 38) (by decide +kernel) rfl
theorem d_Mod_crash_75 : decode b_Mod_crash 75 = .ok (.iload_n 1, 1) := dc_27 (by decide +kernel)
theorem d_Mod_crash_76 : decode b_Mod_crash 76 = .ok (.bipush 10, 2) := dc_16 (a := 10) (by decide +kernel) rfl
theorem d_Mod_crash_78 : decode b_Mod_crash 78 = .ok (.isub, 1) := dc_100 (by decide +kernel)
theorem d_Mod_crash_79 : decode b_Mod_crash 79 = .ok (.iaload, 1) := dc_46 (by decide +kernel)
theorem d_Mod_crash_80 : decode b_Mod_crash 80 = .ok (.ireturn, 1) := dc_172 (by decide +kernel)
theorem d_Mod_save_0 : decode b_Mod_save 0 = .ok (.iload_n 1, 1) := dc_27 (by decide +kernel)
theorem d_Mod_save_1 : decode b_Mod_save 1 = .ok (.invokestatic 205, 3) := dc_184 (a := 0) (b := 205) (by decide +kernel) rfl
theorem d_Mod_save_4 : decode b_Mod_save 4 = .ok (.ifCond .ne 5, 3) := dc_154 (a := 0) (b := 5) (by decide +kernel) rfl
theorem d_Mod_save_7 : decode b_Mod_save 7 = .ok (.iconst (-1), 1) := dc_2 (by decide +kernel)
theorem d_Mod_save_8 : decode b_Mod_save 8 = .ok (.ireturn, 1) := dc_172 (by decide +kernel)
theorem d_Mod_save_9 : decode b_Mod_save 9 = .ok (.iconst 0, 1) := dc_3 (by decide +kernel)
theorem d_Mod_save_10 : decode b_Mod_save 10 = .ok (.istore_n 2, 1) := dc_61 (by decide +kernel)
theorem d_Mod_save_11 : decode b_Mod_save 11 = .ok (.iload_n 2, 1) := dc_28 (by decide +kernel)
theorem d_Mod_save_12 : decode b_Mod_save 12 = .ok (.sipush 999, 3) := dc_17 (a := 3) (b := 231) (by decide +kernel) rfl
theorem d_Mod_save_15 : decode b_Mod_save 15 = .ok (.if_icmp .gt 20, 3) := dc_163 (a := 0) (b := 20) (by decide +kernel) rfl
theorem d_Mod_save_18 : decode b_Mod_save 18 = .ok (.aload_n 0, 1) := dc_42 (by decide +kernel)
theorem d_Mod_save_19 : decode b_Mod_save 19 = .ok (.iload_n 1, 1) := dc_27 (by decide +kernel)
theorem d_Mod_save_20 : decode b_Mod_save 20 = .ok (.iload_n 2, 1) := dc_28 (by decide +kernel)
theorem d_Mod_save_21 : decode b_Mod_save 21 = .ok (.invokevirtual 311, 3) := dc_182 (a := 1) (b := 55) (by decide +kernel) rfl
theorem d_Mod_save_24 : decode b_Mod_save 24 = .ok (.ifCond .ne 5, 3) := dc_154 (a := 0) (b := 5) (by decide +kernel) rfl
theorem d_Mod_save_27 : decode b_Mod_save 27 = .ok (.iload_n 2, 1) := dc_28 (by decide +kernel)
theorem d_Mod_save_28 : decode b_Mod_save 28 = .ok (.ireturn, 1) := dc_172 (by decide +kernel)
theorem d_Mod_save_29 : decode b_Mod_save 29 = .ok (.iinc 2 1, 3) := dc_132 (a := 2) (b := 1) (by decide +kernel) rfl
theorem d_Mod_save_32 : decode b_Mod_save 32 = .ok (.goto (-21), 3) := dc_167 (a := 255) (b := 235) (by decide +kernel) rfl
theorem d_Mod_save_35 : decode b_Mod_save 35 = .ok (.bipush (-4), 2) := dc_16 (a := 252) (by decide +kernel) rfl
theorem d_Mod_save_37 : decode b_Mod_save 37 = .ok (.ireturn, 1) := dc_172 (by decide +kernel)
theorem d_Mod_luck_0 : decode b_Mod_luck 0 = .ok (.iload_n 2, 1) := dc_28 (by decide +kernel)
theorem d_Mod_luck_1 : decode b_Mod_luck 1 = .ok (.i2l, 1) := dc_133 (by decide +kernel)
theorem d_Mod_luck_2 : decode b_Mod_luck 2 = .ok (.lconst 1, 1) := dc_10 (by decide +kernel)
theorem d_Mod_luck_3 : decode b_Mod_luck 3 = .ok (.ldc2_w 314, 3) := dc_20 (a := 1) (b := 58) (by decide +kernel) rfl
theorem d_Mod_luck_6 : decode b_Mod_luck 6 = .ok (.invokestatic 95, 3) := dc_184 (a := 0) (b := 95) (by decide +kernel) rfl
theorem d_Mod_luck_9 : decode b_Mod_luck 9 = .ok (.ifCond .ne 5, 3) := dc_154 (a := 0) (b := 5) (by decide +kernel) rfl
theorem d_Mod_luck_12 : decode b_Mod_luck 12 = .ok (.iconst (-1), 1) := dc_2 (by decide +kernel)
theorem d_Mod_luck_13 : decode b_Mod_luck 13 = .ok (.ireturn, 1) := dc_172 (by decide +kernel)
theorem d_Mod_luck_14 : decode b_Mod_luck 14 = .ok (.iconst 0, 1) := dc_3 (by decide +kernel)
theorem d_Mod_luck_15 : decode b_Mod_luck 15 = .ok (.istore_n 3, 1) := dc_62 (by decide +kernel)
theorem d_Mod_luck_16 : decode b_Mod_luck 16 = .ok (.iload_n 3, 1) := dc_29 (by decide +kernel)
theorem d_Mod_luck_17 : decode b_Mod_luck 17 = .ok (.bipush 16, 2) := dc_16 (a := 16) (by decide +kernel) rfl
theorem d_Mod_luck_19 : decode b_Mod_luck 19 = .ok (.if_icmp .ge 24, 3) := dc_162 (a := 0) (b := 24) (by decide +kernel) rfl
theorem d_Mod_luck_22 : decode b_Mod_luck 22 = .ok (.aload_n 0, 1) := dc_42 (by decide +kernel)
theorem d_Mod_luck_23 : decode b_Mod_luck 23 = .ok (.getfield 41, 3) := dc_180 (a := 0) (b := 41) (by decide +kernel) rfl
theorem d_Mod_luck_26 : decode b_Mod_luck 26 = .ok (.iload_n 3, 1) := dc_29 (by decide +kernel)
theorem d_Mod_luck_27 : decode b_Mod_luck 27 = .ok (.aload_n 0, 1) := dc_42 (by decide +kernel)
theorem d_Mod_luck_28 : decode b_Mod_luck 28 = .ok (.getfield 7, 3) := dc_180 (a := 0) (b := 7) (by decide +kernel) rfl
theorem d_Mod_luck_31 : decode b_Mod_luck 31 = .ok (.bipush 64, 2) := dc_16 (a := 64) (by decide +kernel) rfl
theorem d_Mod_luck_33 : decode b_Mod_luck 33 = .ok (.iload_n 3, 1) := dc_29 (by decide +kernel)
theorem d_Mod_luck_34 : decode b_Mod_luck 34 = .ok (.iadd, 1) := dc_96 (by decide +kernel)
theorem d_Mod_luck_35 : decode b_Mod_luck 35 = .ok (.iaload, 1) := dc_46 (by decide +kernel)
theorem d_Mod_luck_36 : decode b_Mod_luck 36 = .ok (.iastore, 1) := dc_79 (by decide +kernel)
theorem d_Mod_luck_37 : decode b_Mod_luck 37 = .ok (.iinc 3 1, 3) := dc_132 (a := 3) (b := 1) (by decide +kernel) rfl
theorem d_Mod_luck_40 : decode b_Mod_luck 40 = .ok (.goto (-24), 3) := dc_167 (a := 255) (b := 232) (by decide +kernel) rfl
theorem d_Mod_luck_43 : decode b_Mod_luck 43 = .ok (.iload_n 1, 1) := dc_27 (by decide +kernel)
theorem d_Mod_luck_44 : decode b_Mod_luck 44 = .ok (.istore_n 3, 1) := dc_62 (by decide +kernel)
theorem d_Mod_luck_45 : decode b_Mod_luck 45 = .ok (.iconst 0, 1) := dc_3 (by decide +kernel)
theorem d_Mod_luck_46 : decode b_Mod_luck 46 = .ok (.istore 4, 2) := dc_54 (a := 4) (by decide +kernel) rfl
theorem d_Mod_luck_48 : decode b_Mod_luck 48 = .ok (.iload 4, 2) := dc_21 (a := 4) (by decide +kernel) rfl
theorem d_Mod_luck_50 : decode b_Mod_luck 50 = .ok (.iload_n 2, 1) := dc_28 (by decide +kernel)
theorem d_Mod_luck_51 : decode b_Mod_luck 51 = .ok (.if_icmp .ge 90, 3) := dc_162 (a := 0) (b := 90) (by decide +kernel) rfl
theorem d_Mod_luck_54 : decode b_Mod_luck 54 = .ok (.iload_n 3, 1) := dc_29 (by decide +kernel)
theorem d_Mod_luck_55 : decode b_Mod_luck 55 = .ok (.ldc_w 316, 3) := dc_19 (a := 1) (b := 60) (by decide +kernel) rfl
theorem d_Mod_luck_58 : decode b_Mod_luck 58 = .ok (.imul, 1) := dc_104 (by decide +kernel)
theorem d_Mod_luck_59 : decode b_Mod_luck 59 = .ok (.sipush 12345, 3) := dc_17 (a := 48) (b := 57) (by decide +kernel) rfl
theorem d_Mod_luck_62 : decode b_Mod_luck 62 = .ok (.iadd, 1) := dc_96 (by decide +kernel)
theorem d_Mod_luck_63 : decode b_Mod_luck 63 = .ok (.istore_n 3, 1) := dc_62 (by decide +kernel)
theorem d_Mod_luck_64 : decode b_Mod_luck 64 = .ok (.iload_n 3, 1) := dc_29 (by decide +kernel)
theorem d_Mod_luck_65 : decode b_Mod_luck 65 = .ok (.bipush 16, 2) := dc_16 (a := 16) (by decide +kernel) rfl
theorem d_Mod_luck_67 : decode b_Mod_luck 67 = .ok (.ishr, 1) := dc_122 (by decide +kernel)
theorem d_Mod_luck_68 : decode b_Mod_luck 68 = .ok (.sipush 32767, 3) := dc_17 (a := 127) (b := 255) (by decide +kernel) rfl
theorem d_Mod_luck_71 : decode b_Mod_luck 71 = .ok (.iand, 1) := dc_126 (by decide +kernel)
theorem d_Mod_luck_72 : decode b_Mod_luck 72 = .ok (.aload_n 0, 1) := dc_42 (by decide +kernel)
theorem d_Mod_luck_73 : decode b_Mod_luck 73 = .ok (.invokevirtual 183, 3) := dc_182 (a := 0) (b := 183) (by decide +kernel) rfl
theorem d_Mod_luck_76 : decode b_Mod_luck 76 = .ok (.irem, 1) := dc_112 (by decide +kernel)
theorem d_Mod_luck_77 : decode b_Mod_luck 77 = .ok (.istore 5, 2) := dc_54 (a := 5) (by decide +kernel) rfl
theorem d_Mod_luck_79 : decode b_Mod_luck 79 = .ok (.iload_n 3, 1) := dc_29 (by decide +kernel)
theorem d_Mod_luck_80 : decode b_Mod_luck 80 = .ok (.ldc_w 316, 3) := dc_19 (a := 1) (b := 60) (by decide +kernel) rfl
theorem d_Mod_luck_83 : decode b_Mod_luck 83 = .ok (.imul, 1) := dc_104 (by decide +kernel)
theorem d_Mod_luck_84 : decode b_Mod_luck 84 = .ok (.sipush 12345, 3) := dc_17 (a := 48) (b := 57) (by decide +kernel) rfl
theorem d_Mod_luck_87 : decode b_Mod_luck 87 = .ok (.iadd, 1) := dc_96 (by decide +kernel)
theorem d_Mod_luck_88 : decode b_Mod_luck 88 = .ok (.istore_n 3, 1) := dc_62 (by decide +kernel)
theorem d_Mod_luck_89 : decode b_Mod_luck 89 = .ok (.iload_n 3, 1) := dc_29 (by decide +kernel)
theorem d_Mod_luck_90 : decode b_Mod_luck 90 = .ok (.bipush 16, 2) := dc_16 (a := 16) (by decide +kernel) rfl
theorem d_Mod_luck_92 : decode b_Mod_luck 92 = .ok (.ishr, 1) := dc_122 (by decide +kernel)
theorem d_Mod_luck_93 : decode b_Mod_luck 93 = .ok (.sipush 32767, 3) := dc_17 (a := 127) (b := 255) (by decide +kernel) rfl
theorem d_Mod_luck_96 : decode b_Mod_luck 96 = .ok (.iand, 1) := dc_126 (by decide +kernel)
theorem d_Mod_luck_97 : decode b_Mod_luck 97 = .ok (.bipush 9, 2) := dc_16 (a := 9) (by decide +kernel) rfl
theorem d_Mod_luck_99 : decode b_Mod_luck 99 = .ok (.irem, 1) := dc_112 (by decide +kernel)
theorem d_Mod_luck_100 : decode b_Mod_luck 100 = .ok (.iconst 1, 1) := dc_4 (by decide +kernel)
theorem d_Mod_luck_101 : decode b_Mod_luck 101 = .ok (.iadd, 1) := dc_96 (by decide +kernel)
theorem d_Mod_luck_102 : decode b_Mod_luck 102 = .ok (.istore 6, 2) := dc_54 (a := 6) (by decide +kernel) rfl
theorem d_Mod_luck_104 : decode b_Mod_luck 104 = .ok (.aload_n 0, 1) := dc_42 (by decide +kernel)
theorem d_Mod_luck_105 : decode b_Mod_luck 105 = .ok (.getfield 41, 3) := dc_180 (a := 0) (b := 41) (by decide +kernel) rfl
theorem d_Mod_luck_108 : decode b_Mod_luck 108 = .ok (.iload 5, 2) := dc_21 (a := 5) (by decide +kernel) rfl
theorem d_Mod_luck_110 : decode b_Mod_luck 110 = .ok (.iload 6, 2) := dc_21 (a := 6) (by decide +kernel) rfl
theorem d_Mod_luck_112 : decode b_Mod_luck 112 = .ok (.aload_n 0, 1) := dc_42 (by decide +kernel)
theorem d_Mod_luck_113 : decode b_Mod_luck 113 = .ok (.getfield 41, 3) := dc_180 (a := 0) (b := 41) (by decide +kernel) rfl
theorem d_Mod_luck_116 : decode b_Mod_luck 116 = .ok (.iload 5, 2) := dc_21 (a := 5) (by decide +kernel) rfl
theorem d_Mod_luck_118 : decode b_Mod_luck 118 = .ok (.iaload, 1) := dc_46 (by decide +kernel)
theorem d_Mod_luck_119 : decode b_Mod_luck 119 = .ok (.if_icmp .le 8, 3) := dc_164 (a := 0) (b := 8) (by decide +kernel) rfl
theorem d_Mod_luck_122 : decode b_Mod_luck 122 = .ok (.iload 6, 2) := dc_21 (a := 6) (by decide +kernel) rfl
theorem d_Mod_luck_124 : decode b_Mod_luck 124 = .ok (.goto 10, 3) := dc_167 (a := 0) (b := 10) (by decide +kernel) rfl
theorem d_Mod_luck_127 : decode b_Mod_luck 127 = .ok (.aload_n 0, 1) := dc_42 (by decide +kernel)
theorem d_Mod_luck_128 : decode b_Mod_luck 128 = .ok (.getfield 41, 3) := dc_180 (a := 0) (b := 41) (by decide +kernel) rfl
theorem d_Mod_luck_131 : decode b_Mod_luck 131 = .ok (.iload 5, 2) := dc_21 (a := 5) (by decide +kernel) rfl
theorem d_Mod_luck_133 : decode b_Mod_luck 133 = .ok (.iaload, 1) := dc_46 (by decide +kernel)
theorem d_Mod_luck_134 : decode b_Mod_luck 134 = .ok (.iastore, 1) := dc_79 (by decide +kernel)
theorem d_Mod_luck_135 : decode b_Mod_luck 135 = .ok (.iinc 4 1, 3) := dc_132 (a := 4) (b := 1) (by decide +kernel) rfl
theorem d_Mod_luck_138 : decode b_Mod_luck 138 = .ok (.goto (-90), 3) := dc_167 (a := 255) (b := 166) (by decide +kernel) rfl
theorem d_Mod_luck_141 : decode b_Mod_luck 141 = .ok (.iconst 0, 1) := dc_3 (by decide +kernel)
theorem d_Mod_luck_142 : decode b_Mod_luck 142 = .ok (.istore 4, 2) := dc_54 (a := 4) (by decide +kernel) rfl
theorem d_Mod_luck_144 : decode b_Mod_luck 144 = .ok (.iconst 0, 1) := dc_3 (by decide +kernel)
theorem d_Mod_luck_145 : decode b_Mod_luck 145 = .ok (.istore 5, 2) := dc_54 (a := 5) (by decide +kernel) rfl
theorem d_Mod_luck_147 : decode b_Mod_luck 147 = .ok (.iload 5, 2) := dc_21 (a := 5) (by decide +kernel) rfl
theorem d_Mod_luck_149 : decode b_Mod_luck 149 = .ok (.aload_n 0, 1) := dc_42 (by decide +kernel)
theorem d_Mod_luck_150 : decode b_Mod_luck 150 = .ok (.invokevirtual 183, 3) := dc_182 (a := 0) (b := 183) (by decide +kernel) rfl
theorem d_Mod_luck_153 : decode b_Mod_luck 153 = .ok (.if_icmp .ge 36, 3) := dc_162 (a := 0) (b := 36) (by decide +kernel) rfl
theorem d_Mod_luck_156 : decode b_Mod_luck 156 = .ok (.iload 4, 2) := dc_21 (a := 4) (by decide +kernel) rfl
theorem d_Mod_luck_158 : decode b_Mod_luck 158 = .ok (.aload_n 0, 1) := dc_42 (by decide +kernel)
theorem d_Mod_luck_159 : decode b_Mod_luck 159 = .ok (.getfield 7, 3) := dc_180 (a := 0) (b := 7) (by decide +kernel) rfl
theorem d_Mod_luck_162 : decode b_Mod_luck 162 = .ok (.iconst 0, 1) := dc_3 (by decide +kernel)
theorem d_Mod_luck_163 : decode b_Mod_luck 163 = .ok (.iload 5, 2) := dc_21 (a := 5) (by decide +kernel) rfl
theorem d_Mod_luck_165 : decode b_Mod_luck 165 = .ok (.iadd, 1) := dc_96 (by decide +kernel)
theorem d_Mod_luck_166 : decode b_Mod_luck 166 = .ok (.iaload, 1) := dc_46 (by decide +kernel)
theorem d_Mod_luck_167 : decode b_Mod_luck 167 = .ok (.aload_n 0, 1) := dc_42 (by decide +kernel)
theorem d_Mod_luck_168 : decode b_Mod_luck 168 = .ok (.getfield 41, 3) := dc_180 (a := 0) (b := 41) (by decide +kernel) rfl
theorem d_Mod_luck_171 : decode b_Mod_luck 171 = .ok (.iload 5, 2) := dc_21 (a := 5) (by decide +kernel) rfl
theorem d_Mod_luck_173 : decode b_Mod_luck 173 = .ok (.iaload, 1) := dc_46 (by decide +kernel)
theorem d_Mod_luck_174 : decode b_Mod_luck 174 = .ok (.invokestatic 188, 3) := dc_184 (a := 0) (b := 188) (by decide +kernel) rfl
theorem d_Mod_luck_177 : decode b_Mod_luck 177 = .ok (.invokestatic 196, 3) := dc_184 (a := 0) (b := 196) (by decide +kernel) rfl
theorem d_Mod_luck_180 : decode b_Mod_luck 180 = .ok (.iadd, 1) := dc_96 (by decide +kernel)
theorem d_Mod_luck_181 : decode b_Mod_luck 181 = .ok (.istore 4, 2) := dc_54 (a := 4) (by decide +kernel) rfl
theorem d_Mod_luck_183 : decode b_Mod_luck 183 = .ok (.iinc 5 1, 3) := dc_132 (a := 5) (b := 1) (by decide +kernel) rfl
theorem d_Mod_luck_186 : decode b_Mod_luck 186 = .ok (.goto (-39), 3) := dc_167 (a := 255) (b := 217) (by decide +kernel) rfl
theorem d_Mod_luck_189 : decode b_Mod_luck 189 = .ok (.iload 4, 2) := dc_21 (a := 4) (by decide +kernel) rfl
theorem d_Mod_luck_191 : decode b_Mod_luck 191 = .ok (.ireturn, 1) := dc_172 (by decide +kernel)
theorem d_Mod_copies_0 : decode b_Mod_copies 0 = .ok (.iconst 0, 1) := dc_3 (by decide +kernel)
theorem d_Mod_copies_1 : decode b_Mod_copies 1 = .ok (.istore_n 3, 1) := dc_62 (by decide +kernel)
theorem d_Mod_copies_2 : decode b_Mod_copies 2 = .ok (.iload_n 3, 1) := dc_29 (by decide +kernel)
theorem d_Mod_copies_3 : decode b_Mod_copies 3 = .ok (.sipush 144, 3) := dc_17 (a := 0) (b := 144) (by decide +kernel) rfl
theorem d_Mod_copies_6 : decode b_Mod_copies 6 = .ok (.if_icmp .ge 25, 3) := dc_162 (a := 0) (b := 25) (by decide +kernel) rfl
theorem d_Mod_copies_9 : decode b_Mod_copies 9 = .ok (.aload_n 0, 1) := dc_42 (by decide +kernel)
theorem d_Mod_copies_10 : decode b_Mod_copies 10 = .ok (.getfield 7, 3) := dc_180 (a := 0) (b := 7) (by decide +kernel) rfl
theorem d_Mod_copies_13 : decode b_Mod_copies 13 = .ok (.iload_n 1, 1) := dc_27 (by decide +kernel)
theorem d_Mod_copies_14 : decode b_Mod_copies 14 = .ok (.iload_n 3, 1) := dc_29 (by decide +kernel)
theorem d_Mod_copies_15 : decode b_Mod_copies 15 = .ok (.iadd, 1) := dc_96 (by decide +kernel)
theorem d_Mod_copies_16 : decode b_Mod_copies 16 = .ok (.aload_n 0, 1) := dc_42 (by decide +kernel)
theorem d_Mod_copies_17 : decode b_Mod_copies 17 = .ok (.getfield 7, 3) := dc_180 (a := 0) (b := 7) (by decide +kernel) rfl
theorem d_Mod_copies_20 : decode b_Mod_copies 20 = .ok (.iload_n 2, 1) := dc_28 (by decide +kernel)
theorem d_Mod_copies_21 : decode b_Mod_copies 21 = .ok (.iload_n 3, 1) := dc_29 (by decide +kernel)
theorem d_Mod_copies_22 : decode b_Mod_copies 22 = .ok (.iadd, 1) := dc_96 (by decide +kernel)
theorem d_Mod_copies_23 : decode b_Mod_copies 23 = .ok (.iaload, 1) := dc_46 (by decide +kernel)
theorem d_Mod_copies_24 : decode b_Mod_copies 24 = .ok (.iastore, 1) := dc_79 (by decide +kernel)
theorem d_Mod_copies_25 : decode b_Mod_copies 25 = .ok (.iinc 3 1, 3) := dc_132 (a := 3) (b := 1) (by decide +kernel) rfl
theorem d_Mod_copies_28 : decode b_Mod_copies 28 = .ok (.goto (-26), 3) := dc_167 (a := 255) (b := 230) (by decide +kernel) rfl
theorem d_Mod_copies_31 : decode b_Mod_copies 31 = .ok (.return_, 1) := dc_177 (by decide +kernel)
theorem d_Mod_keep_0 : decode b_Mod_keep 0 = .ok (.iload_n 1, 1) := dc_27 (by decide +kernel)
theorem d_Mod_keep_1 : decode b_Mod_keep 1 = .ok (.i2l, 1) := dc_133 (by decide +kernel)
theorem d_Mod_keep_2 : decode b_Mod_keep 2 = .ok (.lconst 0, 1) := dc_9 (by decide +kernel)
theorem d_Mod_keep_3 : decode b_Mod_keep 3 = .ok (.lconst 1, 1) := dc_10 (by decide +kernel)
theorem d_Mod_keep_4 : decode b_Mod_keep 4 = .ok (.invokestatic 95, 3) := dc_184 (a := 0) (b := 95) (by decide +kernel) rfl
theorem d_Mod_keep_7 : decode b_Mod_keep 7 = .ok (.ifCond .ne 5, 3) := dc_154 (a := 0) (b := 5) (by decide +kernel) rfl
theorem d_Mod_keep_10 : decode b_Mod_keep 10 = .ok (.iconst (-1), 1) := dc_2 (by decide +kernel)
theorem d_Mod_keep_11 : decode b_Mod_keep 11 = .ok (.ireturn, 1) := dc_172 (by decide +kernel)
theorem d_Mod_keep_12 : decode b_Mod_keep 12 = .ok (.aload_n 0, 1) := dc_42 (by decide +kernel)
theorem d_Mod_keep_13 : decode b_Mod_keep 13 = .ok (.getfield 13, 3) := dc_180 (a := 0) (b := 13) (by decide +kernel) rfl
theorem d_Mod_keep_16 : decode b_Mod_keep 16 = .ok (.iload_n 1, 1) := dc_27 (by decide +kernel)
theorem d_Mod_keep_17 : decode b_Mod_keep 17 = .ok (.baload, 1) := dc_51 (by decide +kernel)
theorem d_Mod_keep_18 : decode b_Mod_keep 18 = .ok (.invokestatic 196, 3) := dc_184 (a := 0) (b := 196) (by decide +kernel) rfl
theorem d_Mod_keep_21 : decode b_Mod_keep 21 = .ok (.istore_n 2, 1) := dc_61 (by decide +kernel)
theorem d_Mod_keep_22 : decode b_Mod_keep 22 = .ok (.aload_n 0, 1) := dc_42 (by decide +kernel)
theorem d_Mod_keep_23 : decode b_Mod_keep 23 = .ok (.getfield 13, 3) := dc_180 (a := 0) (b := 13) (by decide +kernel) rfl
theorem d_Mod_keep_26 : decode b_Mod_keep 26 = .ok (.iload_n 1, 1) := dc_27 (by decide +kernel)
theorem d_Mod_keep_27 : decode b_Mod_keep 27 = .ok (.iconst 1, 1) := dc_4 (by decide +kernel)
theorem d_Mod_keep_28 : decode b_Mod_keep 28 = .ok (.bastore, 1) := dc_84 (by decide +kernel)
theorem d_Mod_keep_29 : decode b_Mod_keep 29 = .ok (.aload_n 0, 1) := dc_42 (by decide +kernel)
theorem d_Mod_keep_30 : decode b_Mod_keep 30 = .ok (.sipush 144, 3) := dc_17 (a := 0) (b := 144) (by decide +kernel) rfl
theorem d_Mod_keep_33 : decode b_Mod_keep 33 = .ok (.iload_n 1, 1) := dc_27 (by decide +kernel)
theorem d_Mod_keep_34 : decode b_Mod_keep 34 = .ok (.iconst 1, 1) := dc_4 (by decide +kernel)
theorem d_Mod_keep_35 : decode b_Mod_keep 35 = .ok (.iadd, 1) := dc_96 (by decide +kernel)
theorem d_Mod_keep_36 : decode b_Mod_keep 36 = .ok (.imul, 1) := dc_104 (by decide +kernel)
theorem d_Mod_keep_37 : decode b_Mod_keep 37 = .ok (.iconst 0, 1) := dc_3 (by decide +kernel)
theorem d_Mod_keep_38 : decode b_Mod_keep 38 = .ok (.invokevirtual 317, 3) := dc_182 (a := 1) (b := 61) (by decide +kernel) rfl
theorem d_Mod_keep_41 : decode b_Mod_keep 41 = .ok (.iload_n 2, 1) := dc_28 (by decide +kernel)
theorem d_Mod_keep_42 : decode b_Mod_keep 42 = .ok (.ireturn, 1) := dc_172 (by decide +kernel)
theorem d_Mod_back_0 : decode b_Mod_back 0 = .ok (.iload_n 1, 1) := dc_27 (by decide +kernel)
theorem d_Mod_back_1 : decode b_Mod_back 1 = .ok (.i2l, 1) := dc_133 (by decide +kernel)
theorem d_Mod_back_2 : decode b_Mod_back 2 = .ok (.lconst 0, 1) := dc_9 (by decide +kernel)
theorem d_Mod_back_3 : decode b_Mod_back 3 = .ok (.lconst 1, 1) := dc_10 (by decide +kernel)
theorem d_Mod_back_4 : decode b_Mod_back 4 = .ok (.invokestatic 95, 3) := dc_184 (a := 0) (b := 95) (by decide +kernel) rfl
theorem d_Mod_back_7 : decode b_Mod_back 7 = .ok (.ifCond .ne 5, 3) := dc_154 (a := 0) (b := 5) (by decide +kernel) rfl
theorem d_Mod_back_10 : decode b_Mod_back 10 = .ok (.iconst (-1), 1) := dc_2 (by decide +kernel)
theorem d_Mod_back_11 : decode b_Mod_back 11 = .ok (.ireturn, 1) := dc_172 (by decide +kernel)
theorem d_Mod_back_12 : decode b_Mod_back 12 = .ok (.aload_n 0, 1) := dc_42 (by decide +kernel)
theorem d_Mod_back_13 : decode b_Mod_back 13 = .ok (.getfield 13, 3) := dc_180 (a := 0) (b := 13) (by decide +kernel) rfl
theorem d_Mod_back_16 : decode b_Mod_back 16 = .ok (.iload_n 1, 1) := dc_27 (by decide +kernel)
theorem d_Mod_back_17 : decode b_Mod_back 17 = .ok (.baload, 1) := dc_51 (by decide +kernel)
theorem d_Mod_back_18 : decode b_Mod_back 18 = .ok (.ifCond .ne 6, 3) := dc_154 (a := 0) (b := 6) (by decide +kernel) rfl
theorem d_Mod_back_21 : decode b_Mod_back 21 = .ok (.bipush (-2), 2) := dc_16 (a := 254) (by decide +kernel) rfl
theorem d_Mod_back_23 : decode b_Mod_back 23 = .ok (.ireturn, 1) := dc_172 (by decide +kernel)
theorem d_Mod_back_24 : decode b_Mod_back 24 = .ok (.aload_n 0, 1) := dc_42 (by decide +kernel)
theorem d_Mod_back_25 : decode b_Mod_back 25 = .ok (.iconst 0, 1) := dc_3 (by decide +kernel)
theorem d_Mod_back_26 : decode b_Mod_back 26 = .ok (.sipush 144, 3) := dc_17 (a := 0) (b := 144) (by decide +kernel) rfl
theorem d_Mod_back_29 : decode b_Mod_back 29 = .ok (.iload_n 1, 1) := dc_27 (by decide +kernel)
theorem d_Mod_back_30 : decode b_Mod_back 30 = .ok (.iconst 1, 1) := dc_4 (by decide +kernel)
theorem d_Mod_back_31 : decode b_Mod_back 31 = .ok (.iadd, 1) := dc_96 (by decide +kernel)
theorem d_Mod_back_32 : decode b_Mod_back 32 = .ok (.imul, 1) := dc_104 (by decide +kernel)
theorem d_Mod_back_33 : decode b_Mod_back 33 = .ok (.invokevirtual 317, 3) := dc_182 (a := 1) (b := 61) (by decide +kernel) rfl
theorem d_Mod_back_36 : decode b_Mod_back 36 = .ok (.aload_n 0, 1) := dc_42 (by decide +kernel)
theorem d_Mod_back_37 : decode b_Mod_back 37 = .ok (.invokevirtual 223, 3) := dc_182 (a := 0) (b := 223) (by decide +kernel) rfl
theorem d_Mod_back_40 : decode b_Mod_back 40 = .ok (.ireturn, 1) := dc_172 (by decide +kernel)
theorem d_Mod_isSheet_0 : decode b_Mod_isSheet 0 = .ok (.iload_n 0, 1) := dc_26 (by decide +kernel)
theorem d_Mod_isSheet_1 : decode b_Mod_isSheet 1 = .ok (.i2l, 1) := dc_133 (by decide +kernel)
theorem d_Mod_isSheet_2 : decode b_Mod_isSheet 2 = .ok (.lconst 0, 1) := dc_9 (by decide +kernel)
theorem d_Mod_isSheet_3 : decode b_Mod_isSheet 3 = .ok (.ldc2_w 186, 3) := dc_20 (a := 0) (b := 186) (by decide +kernel) rfl
theorem d_Mod_isSheet_6 : decode b_Mod_isSheet 6 = .ok (.invokestatic 95, 3) := dc_184 (a := 0) (b := 95) (by decide +kernel) rfl
theorem d_Mod_isSheet_9 : decode b_Mod_isSheet 9 = .ok (.ifCond .eq 19, 3) := dc_153 (a := 0) (b := 19) (by decide +kernel) rfl
theorem d_Mod_isSheet_12 : decode b_Mod_isSheet 12 = .ok (.iload_n 1, 1) := dc_27 (by decide +kernel)
theorem d_Mod_isSheet_13 : decode b_Mod_isSheet 13 = .ok (.i2l, 1) := dc_133 (by decide +kernel)
theorem d_Mod_isSheet_14 : decode b_Mod_isSheet 14 = .ok (.lconst 0, 1) := dc_9 (by decide +kernel)
theorem d_Mod_isSheet_15 : decode b_Mod_isSheet 15 = .ok (.ldc2_w 320, 3) := dc_20 (a := 1) (b := 64) (by decide +kernel) rfl
theorem d_Mod_isSheet_18 : decode b_Mod_isSheet 18 = .ok (.invokestatic 95, 3) := dc_184 (a := 0) (b := 95) (by decide +kernel) rfl
theorem d_Mod_isSheet_21 : decode b_Mod_isSheet 21 = .ok (.ifCond .eq 7, 3) := dc_153 (a := 0) (b := 7) (by decide +kernel) rfl
theorem d_Mod_isSheet_24 : decode b_Mod_isSheet 24 = .ok (.iconst 1, 1) := dc_4 (by decide +kernel)
theorem d_Mod_isSheet_25 : decode b_Mod_isSheet 25 = .ok (.goto 4, 3) := dc_167 (a := 0) (b := 4) (by decide +kernel) rfl
theorem d_Mod_isSheet_28 : decode b_Mod_isSheet 28 = .ok (.iconst 0, 1) := dc_3 (by decide +kernel)
theorem d_Mod_isSheet_29 : decode b_Mod_isSheet 29 = .ok (.ireturn, 1) := dc_172 (by decide +kernel)
abbrev q_Mod_isSheet (h : Hp) (k : Int32) (kZ : Int) (l : Int32) (lZ : Int) : Option Value → Hp → Prop := pInt (fun r h' => h = h' ∧ (r.toInt = 1 ∧ 0 ≤ kZ ∧ kZ ≤ 3 ∧ 0 ≤ lZ ∧ lZ ≤ 2 ∨ r.toInt = 0 ∧ (kZ < 0 ∨ 3 < kZ ∨ lZ < 0 ∨ 2 < lZ)))
set_option maxRecDepth 100000 in
theorem c_Mod_isSheet (h : Hp) (k : Int32) (kZ : Int) (kE : k.toInt = kZ) (l : Int32) (lZ : Int) (lE : l.toInt = lZ) : Ct y_Mod_isSheet b_Mod_isSheet 2 (some .boolean) 1 25 [.int k, .int l] h (q_Mod_isSheet h k kZ l lZ) := by
  refine ct_ow R_Mod [some (.int k), some (.int l)] rfl (by decide) rfl (Nat.le_of_ble_eq_true rfl) ?_
  have f0 : fr [] h h := fr_rf
  refine V_iload_n 0 d_Mod_isSheet_0 rfl rfl ?_
  refine V_i2l d_Mod_isSheet_1 (fun z1 z1e z1E => ?_)
  have z1F : z1.toInt = kZ := z1E.trans kE
  refine V_lconst 0 d_Mod_isSheet_2 (by decide) ?_
  refine V_ldc2 d_Mod_isSheet_3 wl_Mod_186 ?_
  refine N_callSI [.long z1, .long 0, .long 3] [] cs_Mod_95 d_Mod_isSheet_6 rfl (Nat.le_of_ble_eq_true rfl) (by decide) (by decide) (c_Mod_in h z1 kZ z1F 0 0 tl_0 3 3 tl_3) (fun z2 h3 z2Z z2E p4 => ?_)
  obtain ⟨eh3, p4⟩ := p4
  subst eh3
  refine V_if_eq 28 z2E d_Mod_isSheet_9 (by decide) (fun c5 => ?_) (fun c5 => ?_)
  ·
    refine V_iconst 0 d_Mod_isSheet_28 (by decide) ?_
    exact V_zret rfl (by decide) d_Mod_isSheet_29 ⟨0, rfl, ⟨rfl, (by (try rw [show Int32.toInt 0 = 0 from rfl]); omega)⟩⟩
  ·
    refine V_iload_n 1 d_Mod_isSheet_12 rfl rfl ?_
    refine V_i2l d_Mod_isSheet_13 (fun z6 z6e z6E => ?_)
    have z6F : z6.toInt = lZ := z6E.trans lE
    refine V_lconst 0 d_Mod_isSheet_14 (by decide) ?_
    refine V_ldc2 d_Mod_isSheet_15 wl_Mod_320 ?_
    refine N_callSI [.long z6, .long 0, .long 2] [] cs_Mod_95 d_Mod_isSheet_18 rfl (Nat.le_of_ble_eq_true rfl) (by decide) (by decide) (c_Mod_in h z6 lZ z6F 0 0 tl_0 2 2 tl_2) (fun z7 h8 z7Z z7E p9 => ?_)
    obtain ⟨eh8, p9⟩ := p9
    subst eh8
    refine V_if_eq 28 z7E d_Mod_isSheet_21 (by decide) (fun c10 => ?_) (fun c10 => ?_)
    ·
      refine V_iconst 0 d_Mod_isSheet_28 (by decide) ?_
      exact V_zret rfl (by decide) d_Mod_isSheet_29 ⟨0, rfl, ⟨rfl, (by (try rw [show Int32.toInt 0 = 0 from rfl]); omega)⟩⟩
    ·
      refine V_iconst 1 d_Mod_isSheet_24 (by decide) ?_
      refine V_goto 29 d_Mod_isSheet_25 (by decide) ?_
      exact V_zret rfl (by decide) d_Mod_isSheet_29 ⟨1, rfl, ⟨rfl, (by (try rw [show Int32.toInt 1 = 1 from rfl]); omega)⟩⟩
theorem d_Mod_sheet_0 : decode b_Mod_sheet 0 = .ok (.iload_n 1, 1) := dc_27 (by decide +kernel)
theorem d_Mod_sheet_1 : decode b_Mod_sheet 1 = .ok (.iload_n 2, 1) := dc_28 (by decide +kernel)
theorem d_Mod_sheet_2 : decode b_Mod_sheet 2 = .ok (.invokestatic 322, 3) := dc_184 (a := 1) (b := 66) (by decide +kernel) rfl
theorem d_Mod_sheet_5 : decode b_Mod_sheet 5 = .ok (.ifCond .eq 9, 3) := dc_153 (a := 0) (b := 9) (by decide +kernel) rfl
theorem d_Mod_sheet_8 : decode b_Mod_sheet 8 = .ok (.iload_n 3, 1) := dc_29 (by decide +kernel)
theorem d_Mod_sheet_9 : decode b_Mod_sheet 9 = .ok (.bipush 40, 2) := dc_16 (a := 40) (by decide +kernel) rfl
theorem d_Mod_sheet_11 : decode b_Mod_sheet 11 = .ok (.if_icmp .le 5, 3) := dc_164 (a := 0) (b := 5) (by decide +kernel) rfl
theorem d_Mod_sheet_14 : decode b_Mod_sheet 14 = .ok (.iconst (-1), 1) := dc_2 (by decide +kernel)
theorem d_Mod_sheet_15 : decode b_Mod_sheet 15 = .ok (.ireturn, 1) := dc_172 (by decide +kernel)
theorem d_Mod_sheet_16 : decode b_Mod_sheet 16 = .ok (.iload_n 3, 1) := dc_29 (by decide +kernel)
theorem d_Mod_sheet_17 : decode b_Mod_sheet 17 = .ok (.ifCond .ge 6, 3) := dc_156 (a := 0) (b := 6) (by decide +kernel) rfl
theorem d_Mod_sheet_20 : decode b_Mod_sheet 20 = .ok (.bipush (-14), 2) := dc_16 (a := 242) (by decide +kernel) rfl
theorem d_Mod_sheet_22 : decode b_Mod_sheet 22 = .ok (.ireturn, 1) := dc_172 (by decide +kernel)
theorem d_Mod_sheet_23 : decode b_Mod_sheet 23 = .ok (.aload_n 0, 1) := dc_42 (by decide +kernel)
theorem d_Mod_sheet_24 : decode b_Mod_sheet 24 = .ok (.getfield 44, 3) := dc_180 (a := 0) (b := 44) (by decide +kernel) rfl
theorem d_Mod_sheet_27 : decode b_Mod_sheet 27 = .ok (.iload_n 1, 1) := dc_27 (by decide +kernel)
theorem d_Mod_sheet_28 : decode b_Mod_sheet 28 = .ok (.iload_n 2, 1) := dc_28 (by decide +kernel)
theorem d_Mod_sheet_29 : decode b_Mod_sheet 29 = .ok (.iastore, 1) := dc_79 (by decide +kernel)
theorem d_Mod_sheet_30 : decode b_Mod_sheet 30 = .ok (.aload_n 0, 1) := dc_42 (by decide +kernel)
theorem d_Mod_sheet_31 : decode b_Mod_sheet 31 = .ok (.getfield 47, 3) := dc_180 (a := 0) (b := 47) (by decide +kernel) rfl
theorem d_Mod_sheet_34 : decode b_Mod_sheet 34 = .ok (.iload_n 1, 1) := dc_27 (by decide +kernel)
theorem d_Mod_sheet_35 : decode b_Mod_sheet 35 = .ok (.iload_n 3, 1) := dc_29 (by decide +kernel)
theorem d_Mod_sheet_36 : decode b_Mod_sheet 36 = .ok (.iastore, 1) := dc_79 (by decide +kernel)
theorem d_Mod_sheet_37 : decode b_Mod_sheet 37 = .ok (.iconst 0, 1) := dc_3 (by decide +kernel)
theorem d_Mod_sheet_38 : decode b_Mod_sheet 38 = .ok (.istore 4, 2) := dc_54 (a := 4) (by decide +kernel) rfl
theorem d_Mod_sheet_40 : decode b_Mod_sheet 40 = .ok (.iload 4, 2) := dc_21 (a := 4) (by decide +kernel) rfl
theorem d_Mod_sheet_42 : decode b_Mod_sheet 42 = .ok (.bipush 40, 2) := dc_16 (a := 40) (by decide +kernel) rfl
theorem d_Mod_sheet_44 : decode b_Mod_sheet 44 = .ok (.if_icmp .ge 22, 3) := dc_162 (a := 0) (b := 22) (by decide +kernel) rfl
theorem d_Mod_sheet_47 : decode b_Mod_sheet 47 = .ok (.aload_n 0, 1) := dc_42 (by decide +kernel)
theorem d_Mod_sheet_48 : decode b_Mod_sheet 48 = .ok (.getfield 50, 3) := dc_180 (a := 0) (b := 50) (by decide +kernel) rfl
theorem d_Mod_sheet_51 : decode b_Mod_sheet 51 = .ok (.bipush 40, 2) := dc_16 (a := 40) (by decide +kernel) rfl
theorem d_Mod_sheet_53 : decode b_Mod_sheet 53 = .ok (.iload_n 1, 1) := dc_27 (by decide +kernel)
theorem d_Mod_sheet_54 : decode b_Mod_sheet 54 = .ok (.imul, 1) := dc_104 (by decide +kernel)
theorem d_Mod_sheet_55 : decode b_Mod_sheet 55 = .ok (.iload 4, 2) := dc_21 (a := 4) (by decide +kernel) rfl
theorem d_Mod_sheet_57 : decode b_Mod_sheet 57 = .ok (.iadd, 1) := dc_96 (by decide +kernel)
theorem d_Mod_sheet_58 : decode b_Mod_sheet 58 = .ok (.iconst 0, 1) := dc_3 (by decide +kernel)
theorem d_Mod_sheet_59 : decode b_Mod_sheet 59 = .ok (.iastore, 1) := dc_79 (by decide +kernel)
theorem d_Mod_sheet_60 : decode b_Mod_sheet 60 = .ok (.iinc 4 1, 3) := dc_132 (a := 4) (b := 1) (by decide +kernel) rfl
theorem d_Mod_sheet_63 : decode b_Mod_sheet 63 = .ok (.goto (-23), 3) := dc_167 (a := 255) (b := 233) (by decide +kernel) rfl
theorem d_Mod_sheet_66 : decode b_Mod_sheet 66 = .ok (.iconst 1, 1) := dc_4 (by decide +kernel)
theorem d_Mod_sheet_67 : decode b_Mod_sheet 67 = .ok (.ireturn, 1) := dc_172 (by decide +kernel)
theorem d_Mod_lay_0 : decode b_Mod_lay 0 = .ok (.iload_n 1, 1) := dc_27 (by decide +kernel)
theorem d_Mod_lay_1 : decode b_Mod_lay 1 = .ok (.iconst 0, 1) := dc_3 (by decide +kernel)
theorem d_Mod_lay_2 : decode b_Mod_lay 2 = .ok (.invokestatic 322, 3) := dc_184 (a := 1) (b := 66) (by decide +kernel) rfl
theorem d_Mod_lay_5 : decode b_Mod_lay 5 = .ok (.ifCond .ne 5, 3) := dc_154 (a := 0) (b := 5) (by decide +kernel) rfl
theorem d_Mod_lay_8 : decode b_Mod_lay 8 = .ok (.iconst (-1), 1) := dc_2 (by decide +kernel)
theorem d_Mod_lay_9 : decode b_Mod_lay 9 = .ok (.ireturn, 1) := dc_172 (by decide +kernel)
theorem d_Mod_lay_10 : decode b_Mod_lay 10 = .ok (.aload_n 0, 1) := dc_42 (by decide +kernel)
theorem d_Mod_lay_11 : decode b_Mod_lay 11 = .ok (.getfield 44, 3) := dc_180 (a := 0) (b := 44) (by decide +kernel) rfl
theorem d_Mod_lay_14 : decode b_Mod_lay 14 = .ok (.iload_n 1, 1) := dc_27 (by decide +kernel)
theorem d_Mod_lay_15 : decode b_Mod_lay 15 = .ok (.iaload, 1) := dc_46 (by decide +kernel)
theorem d_Mod_lay_16 : decode b_Mod_lay 16 = .ok (.bipush (-4), 2) := dc_16 (a := 252) (by decide +kernel) rfl
theorem d_Mod_lay_18 : decode b_Mod_lay 18 = .ok (.if_icmp .ne 6, 3) := dc_160 (a := 0) (b := 6) (by decide +kernel) rfl
theorem d_Mod_lay_21 : decode b_Mod_lay 21 = .ok (.bipush (-11), 2) := dc_16 (a := 245) (by decide +kernel) rfl
theorem d_Mod_lay_23 : decode b_Mod_lay 23 = .ok (.ireturn, 1) := dc_172 (by decide +kernel)
theorem d_Mod_lay_24 : decode b_Mod_lay 24 = .ok (.iload_n 2, 1) := dc_28 (by decide +kernel)
theorem d_Mod_lay_25 : decode b_Mod_lay 25 = .ok (.i2l, 1) := dc_133 (by decide +kernel)
theorem d_Mod_lay_26 : decode b_Mod_lay 26 = .ok (.lconst 0, 1) := dc_9 (by decide +kernel)
theorem d_Mod_lay_27 : decode b_Mod_lay 27 = .ok (.aload_n 0, 1) := dc_42 (by decide +kernel)
theorem d_Mod_lay_28 : decode b_Mod_lay 28 = .ok (.getfield 47, 3) := dc_180 (a := 0) (b := 47) (by decide +kernel) rfl
theorem d_Mod_lay_31 : decode b_Mod_lay 31 = .ok (.iload_n 1, 1) := dc_27 (by decide +kernel)
theorem d_Mod_lay_32 : decode b_Mod_lay 32 = .ok (.iaload, 1) := dc_46 (by decide +kernel)
theorem d_Mod_lay_33 : decode b_Mod_lay 33 = .ok (.iconst 1, 1) := dc_4 (by decide +kernel)
theorem d_Mod_lay_34 : decode b_Mod_lay 34 = .ok (.isub, 1) := dc_100 (by decide +kernel)
theorem d_Mod_lay_35 : decode b_Mod_lay 35 = .ok (.i2l, 1) := dc_133 (by decide +kernel)
theorem d_Mod_lay_36 : decode b_Mod_lay 36 = .ok (.invokestatic 95, 3) := dc_184 (a := 0) (b := 95) (by decide +kernel) rfl
theorem d_Mod_lay_39 : decode b_Mod_lay 39 = .ok (.ifCond .ne 6, 3) := dc_154 (a := 0) (b := 6) (by decide +kernel) rfl
theorem d_Mod_lay_42 : decode b_Mod_lay 42 = .ok (.bipush (-12), 2) := dc_16 (a := 244) (by decide +kernel) rfl
theorem d_Mod_lay_44 : decode b_Mod_lay 44 = .ok (.ireturn, 1) := dc_172 (by decide +kernel)
theorem d_Mod_lay_45 : decode b_Mod_lay 45 = .ok (.aload_n 0, 1) := dc_42 (by decide +kernel)
theorem d_Mod_lay_46 : decode b_Mod_lay 46 = .ok (.getfield 50, 3) := dc_180 (a := 0) (b := 50) (by decide +kernel) rfl
theorem d_Mod_lay_49 : decode b_Mod_lay 49 = .ok (.bipush 40, 2) := dc_16 (a := 40) (by decide +kernel) rfl
theorem d_Mod_lay_51 : decode b_Mod_lay 51 = .ok (.iload_n 1, 1) := dc_27 (by decide +kernel)
theorem d_Mod_lay_52 : decode b_Mod_lay 52 = .ok (.imul, 1) := dc_104 (by decide +kernel)
theorem d_Mod_lay_53 : decode b_Mod_lay 53 = .ok (.iload_n 2, 1) := dc_28 (by decide +kernel)
theorem d_Mod_lay_54 : decode b_Mod_lay 54 = .ok (.iadd, 1) := dc_96 (by decide +kernel)
theorem d_Mod_lay_55 : decode b_Mod_lay 55 = .ok (.aload_n 0, 1) := dc_42 (by decide +kernel)
theorem d_Mod_lay_56 : decode b_Mod_lay 56 = .ok (.getfield 44, 3) := dc_180 (a := 0) (b := 44) (by decide +kernel) rfl
theorem d_Mod_lay_59 : decode b_Mod_lay 59 = .ok (.iload_n 1, 1) := dc_27 (by decide +kernel)
theorem d_Mod_lay_60 : decode b_Mod_lay 60 = .ok (.iaload, 1) := dc_46 (by decide +kernel)
theorem d_Mod_lay_61 : decode b_Mod_lay 61 = .ok (.ifCond .ne 8, 3) := dc_154 (a := 0) (b := 8) (by decide +kernel) rfl
theorem d_Mod_lay_64 : decode b_Mod_lay 64 = .ok (.iload_n 3, 1) := dc_29 (by decide +kernel)
theorem d_Mod_lay_65 : decode b_Mod_lay 65 = .ok (.i2b, 1) := dc_145 (by decide +kernel)
theorem d_Mod_lay_66 : decode b_Mod_lay 66 = .ok (.goto 19, 3) := dc_167 (a := 0) (b := 19) (by decide +kernel) rfl
theorem d_Mod_lay_69 : decode b_Mod_lay 69 = .ok (.aload_n 0, 1) := dc_42 (by decide +kernel)
theorem d_Mod_lay_70 : decode b_Mod_lay 70 = .ok (.getfield 44, 3) := dc_180 (a := 0) (b := 44) (by decide +kernel) rfl
theorem d_Mod_lay_73 : decode b_Mod_lay 73 = .ok (.iload_n 1, 1) := dc_27 (by decide +kernel)
theorem d_Mod_lay_74 : decode b_Mod_lay 74 = .ok (.iaload, 1) := dc_46 (by decide +kernel)
theorem d_Mod_lay_75 : decode b_Mod_lay 75 = .ok (.iconst 1, 1) := dc_4 (by decide +kernel)
theorem d_Mod_lay_76 : decode b_Mod_lay 76 = .ok (.if_icmp .ne 8, 3) := dc_160 (a := 0) (b := 8) (by decide +kernel) rfl
theorem d_Mod_lay_79 : decode b_Mod_lay 79 = .ok (.iload_n 3, 1) := dc_29 (by decide +kernel)
theorem d_Mod_lay_80 : decode b_Mod_lay 80 = .ok (.i2s, 1) := dc_147 (by decide +kernel)
theorem d_Mod_lay_81 : decode b_Mod_lay 81 = .ok (.goto 4, 3) := dc_167 (a := 0) (b := 4) (by decide +kernel) rfl
theorem d_Mod_lay_84 : decode b_Mod_lay 84 = .ok (.iload_n 3, 1) := dc_29 (by decide +kernel)
theorem d_Mod_lay_85 : decode b_Mod_lay 85 = .ok (.iastore, 1) := dc_79 (by decide +kernel)
theorem d_Mod_lay_86 : decode b_Mod_lay 86 = .ok (.iconst 1, 1) := dc_4 (by decide +kernel)
theorem d_Mod_lay_87 : decode b_Mod_lay 87 = .ok (.ireturn, 1) := dc_172 (by decide +kernel)
theorem d_Mod_read_0 : decode b_Mod_read 0 = .ok (.iload_n 1, 1) := dc_27 (by decide +kernel)
theorem d_Mod_read_1 : decode b_Mod_read 1 = .ok (.iload_n 2, 1) := dc_28 (by decide +kernel)
theorem d_Mod_read_2 : decode b_Mod_read 2 = .ok (.invokestatic 322, 3) := dc_184 (a := 1) (b := 66) (by decide +kernel) rfl
theorem d_Mod_read_5 : decode b_Mod_read 5 = .ok (.ifCond .eq 16, 3) := dc_153 (a := 0) (b := 16) (by decide +kernel) rfl
theorem d_Mod_read_8 : decode b_Mod_read 8 = .ok (.iload 4, 2) := dc_21 (a := 4) (by decide +kernel) rfl
theorem d_Mod_read_10 : decode b_Mod_read 10 = .ok (.i2l, 1) := dc_133 (by decide +kernel)
theorem d_Mod_read_11 : decode b_Mod_read 11 = .ok (.lconst 0, 1) := dc_9 (by decide +kernel)
theorem d_Mod_read_12 : decode b_Mod_read 12 = .ok (.ldc2_w 275, 3) := dc_20 (a := 1) (b := 19) (by decide +kernel) rfl
theorem d_Mod_read_15 : decode b_Mod_read 15 = .ok (.invokestatic 95, 3) := dc_184 (a := 0) (b := 95) (by decide +kernel) rfl
theorem d_Mod_read_18 : decode b_Mod_read 18 = .ok (.ifCond .ne 5, 3) := dc_154 (a := 0) (b := 5) (by decide +kernel) rfl
theorem d_Mod_read_21 : decode b_Mod_read 21 = .ok (.iconst (-1), 1) := dc_2 (by decide +kernel)
theorem d_Mod_read_22 : decode b_Mod_read 22 = .ok (.ireturn, 1) := dc_172 (by decide +kernel)
theorem d_Mod_read_23 : decode b_Mod_read 23 = .ok (.iconst 0, 1) := dc_3 (by decide +kernel)
theorem d_Mod_read_24 : decode b_Mod_read 24 = .ok (.istore 5, 2) := dc_54 (a := 5) (by decide +kernel) rfl
theorem d_Mod_read_26 : decode b_Mod_read 26 = .ok (.iload 5, 2) := dc_21 (a := 5) (by decide +kernel) rfl
theorem d_Mod_read_28 : decode b_Mod_read 28 = .ok (.bipush 20, 2) := dc_16 (a := 20) (by decide +kernel) rfl
theorem d_Mod_read_30 : decode b_Mod_read 30 = .ok (.if_icmp .ge 26, 3) := dc_162 (a := 0) (b := 26) (by decide +kernel) rfl
theorem d_Mod_read_33 : decode b_Mod_read 33 = .ok (.aload_n 0, 1) := dc_42 (by decide +kernel)
theorem d_Mod_read_34 : decode b_Mod_read 34 = .ok (.getfield 53, 3) := dc_180 (a := 0) (b := 53) (by decide +kernel) rfl
theorem d_Mod_read_37 : decode b_Mod_read 37 = .ok (.iload 5, 2) := dc_21 (a := 5) (by decide +kernel) rfl
theorem d_Mod_read_39 : decode b_Mod_read 39 = .ok (.aload_n 0, 1) := dc_42 (by decide +kernel)
theorem d_Mod_read_40 : decode b_Mod_read 40 = .ok (.getfield 7, 3) := dc_180 (a := 0) (b := 7) (by decide +kernel) rfl
theorem d_Mod_read_43 : decode b_Mod_read 43 = .ok (.bipush 64, 2) := dc_16 (a := 64) (by decide +kernel) rfl
theorem d_Mod_read_45 : decode b_Mod_read 45 = .ok (.iload 5, 2) := dc_21 (a := 5) (by decide +kernel) rfl
theorem d_Mod_read_47 : decode b_Mod_read 47 = .ok (.iadd, 1) := dc_96 (by decide +kernel)
theorem d_Mod_read_48 : decode b_Mod_read 48 = .ok (.iaload, 1) := dc_46 (by decide +kernel)
theorem d_Mod_read_49 : decode b_Mod_read 49 = .ok (.iastore, 1) := dc_79 (by decide +kernel)
theorem d_Mod_read_50 : decode b_Mod_read 50 = .ok (.iinc 5 1, 3) := dc_132 (a := 5) (b := 1) (by decide +kernel) rfl
theorem d_Mod_read_53 : decode b_Mod_read 53 = .ok (.goto (-27), 3) := dc_167 (a := 255) (b := 229) (by decide +kernel) rfl
theorem d_Mod_read_56 : decode b_Mod_read 56 = .ok (.iconst 0, 1) := dc_3 (by decide +kernel)
theorem d_Mod_read_57 : decode b_Mod_read 57 = .ok (.istore 5, 2) := dc_54 (a := 5) (by decide +kernel) rfl
theorem d_Mod_read_59 : decode b_Mod_read 59 = .ok (.iconst 0, 1) := dc_3 (by decide +kernel)
theorem d_Mod_read_60 : decode b_Mod_read 60 = .ok (.istore 6, 2) := dc_54 (a := 6) (by decide +kernel) rfl
theorem d_Mod_read_62 : decode b_Mod_read 62 = .ok (.iconst 0, 1) := dc_3 (by decide +kernel)
theorem d_Mod_read_63 : decode b_Mod_read 63 = .ok (.istore 7, 2) := dc_54 (a := 7) (by decide +kernel) rfl
theorem d_Mod_read_65 : decode b_Mod_read 65 = .ok (.iload 7, 2) := dc_21 (a := 7) (by decide +kernel) rfl
theorem d_Mod_read_67 : decode b_Mod_read 67 = .ok (.iload 4, 2) := dc_21 (a := 4) (by decide +kernel) rfl
theorem d_Mod_read_69 : decode b_Mod_read 69 = .ok (.if_icmp .ge 196, 3) := dc_162 (a := 0) (b := 196) (by decide +kernel) rfl
theorem d_Mod_read_72 : decode b_Mod_read 72 = .ok (.iload 5, 2) := dc_21 (a := 5) (by decide +kernel) rfl
theorem d_Mod_read_74 : decode b_Mod_read 74 = .ok (.ifCond .ne 191, 3) := dc_154 (a := 0) (b := 191) (by decide +kernel) rfl
theorem d_Mod_read_77 : decode b_Mod_read 77 = .ok (.iconst 0, 1) := dc_3 (by decide +kernel)
theorem d_Mod_read_78 : decode b_Mod_read 78 = .ok (.istore 8, 2) := dc_54 (a := 8) (by decide +kernel) rfl
theorem d_Mod_read_80 : decode b_Mod_read 80 = .ok (.iload 8, 2) := dc_21 (a := 8) (by decide +kernel) rfl
theorem d_Mod_read_82 : decode b_Mod_read 82 = .ok (.iconst 3, 1) := dc_6 (by decide +kernel)
theorem d_Mod_read_83 : decode b_Mod_read 83 = .ok (.if_icmp .ge 84, 3) := dc_162 (a := 0) (b := 84) (by decide +kernel) rfl
theorem d_Mod_read_86 : decode b_Mod_read 86 = .ok (.iload 5, 2) := dc_21 (a := 5) (by decide +kernel) rfl
theorem d_Mod_read_88 : decode b_Mod_read 88 = .ok (.ifCond .ne 79, 3) := dc_154 (a := 0) (b := 79) (by decide +kernel) rfl
theorem d_Mod_read_91 : decode b_Mod_read 91 = .ok (.iload_n 3, 1) := dc_29 (by decide +kernel)
theorem d_Mod_read_92 : decode b_Mod_read 92 = .ok (.i2l, 1) := dc_133 (by decide +kernel)
theorem d_Mod_read_93 : decode b_Mod_read 93 = .ok (.iconst 3, 1) := dc_6 (by decide +kernel)
theorem d_Mod_read_94 : decode b_Mod_read 94 = .ok (.iload 7, 2) := dc_21 (a := 7) (by decide +kernel) rfl
theorem d_Mod_read_96 : decode b_Mod_read 96 = .ok (.imul, 1) := dc_104 (by decide +kernel)
theorem d_Mod_read_97 : decode b_Mod_read 97 = .ok (.i2l, 1) := dc_133 (by decide +kernel)
theorem d_Mod_read_98 : decode b_Mod_read 98 = .ok (.ladd, 1) := dc_97 (by decide +kernel)
theorem d_Mod_read_99 : decode b_Mod_read 99 = .ok (.iload 8, 2) := dc_21 (a := 8) (by decide +kernel) rfl
theorem d_Mod_read_101 : decode b_Mod_read 101 = .ok (.i2l, 1) := dc_133 (by decide +kernel)
theorem d_Mod_read_102 : decode b_Mod_read 102 = .ok (.ladd, 1) := dc_97 (by decide +kernel)
theorem d_Mod_read_103 : decode b_Mod_read 103 = .ok (.lstore 9, 2) := dc_55 (a := 9) (by decide +kernel) rfl
theorem d_Mod_read_105 : decode b_Mod_read 105 = .ok (.aload_n 0, 1) := dc_42 (by decide +kernel)
theorem d_Mod_read_106 : decode b_Mod_read 106 = .ok (.getfield 44, 3) := dc_180 (a := 0) (b := 44) (by decide +kernel) rfl
theorem d_Mod_read_109 : decode b_Mod_read 109 = .ok (.iload_n 1, 1) := dc_27 (by decide +kernel)
theorem d_Mod_read_110 : decode b_Mod_read 110 = .ok (.iaload, 1) := dc_46 (by decide +kernel)
theorem d_Mod_read_111 : decode b_Mod_read 111 = .ok (.bipush (-4), 2) := dc_16 (a := 252) (by decide +kernel) rfl
theorem d_Mod_read_113 : decode b_Mod_read 113 = .ok (.if_icmp .ne 7, 3) := dc_160 (a := 0) (b := 7) (by decide +kernel) rfl
theorem d_Mod_read_116 : decode b_Mod_read 116 = .ok (.iconst 1, 1) := dc_4 (by decide +kernel)
theorem d_Mod_read_117 : decode b_Mod_read 117 = .ok (.goto 42, 3) := dc_167 (a := 0) (b := 42) (by decide +kernel) rfl
theorem d_Mod_read_120 : decode b_Mod_read 120 = .ok (.aload_n 0, 1) := dc_42 (by decide +kernel)
theorem d_Mod_read_121 : decode b_Mod_read 121 = .ok (.getfield 44, 3) := dc_180 (a := 0) (b := 44) (by decide +kernel) rfl
theorem d_Mod_read_124 : decode b_Mod_read 124 = .ok (.iload_n 1, 1) := dc_27 (by decide +kernel)
theorem d_Mod_read_125 : decode b_Mod_read 125 = .ok (.iaload, 1) := dc_46 (by decide +kernel)
theorem d_Mod_read_126 : decode b_Mod_read 126 = .ok (.iload_n 2, 1) := dc_28 (by decide +kernel)
theorem d_Mod_read_127 : decode b_Mod_read 127 = .ok (.if_icmp .eq 7, 3) := dc_159 (a := 0) (b := 7) (by decide +kernel) rfl
theorem d_Mod_read_130 : decode b_Mod_read 130 = .ok (.iconst 3, 1) := dc_6 (by decide +kernel)
theorem d_Mod_read_131 : decode b_Mod_read 131 = .ok (.goto 28, 3) := dc_167 (a := 0) (b := 28) (by decide +kernel) rfl
theorem d_Mod_read_134 : decode b_Mod_read 134 = .ok (.lload 9, 2) := dc_22 (a := 9) (by decide +kernel) rfl
theorem d_Mod_read_136 : decode b_Mod_read 136 = .ok (.lconst 0, 1) := dc_9 (by decide +kernel)
theorem d_Mod_read_137 : decode b_Mod_read 137 = .ok (.lcmp, 1) := dc_148 (by decide +kernel)
theorem d_Mod_read_138 : decode b_Mod_read 138 = .ok (.ifCond .lt 16, 3) := dc_155 (a := 0) (b := 16) (by decide +kernel) rfl
theorem d_Mod_read_141 : decode b_Mod_read 141 = .ok (.lload 9, 2) := dc_22 (a := 9) (by decide +kernel) rfl
theorem d_Mod_read_143 : decode b_Mod_read 143 = .ok (.aload_n 0, 1) := dc_42 (by decide +kernel)
theorem d_Mod_read_144 : decode b_Mod_read 144 = .ok (.getfield 47, 3) := dc_180 (a := 0) (b := 47) (by decide +kernel) rfl
theorem d_Mod_read_147 : decode b_Mod_read 147 = .ok (.iload_n 1, 1) := dc_27 (by decide +kernel)
theorem d_Mod_read_148 : decode b_Mod_read 148 = .ok (.iaload, 1) := dc_46 (by decide +kernel)
theorem d_Mod_read_149 : decode b_Mod_read 149 = .ok (.i2l, 1) := dc_133 (by decide +kernel)
theorem d_Mod_read_150 : decode b_Mod_read 150 = .ok (.lcmp, 1) := dc_148 (by decide +kernel)
theorem d_Mod_read_151 : decode b_Mod_read 151 = .ok (.ifCond .lt 7, 3) := dc_155 (a := 0) (b := 7) (by decide +kernel) rfl
theorem d_Mod_read_154 : decode b_Mod_read 154 = .ok (.iconst 2, 1) := dc_5 (by decide +kernel)
theorem d_Mod_read_155 : decode b_Mod_read 155 = .ok (.goto 4, 3) := dc_167 (a := 0) (b := 4) (by decide +kernel) rfl
theorem d_Mod_read_158 : decode b_Mod_read 158 = .ok (.iconst 0, 1) := dc_3 (by decide +kernel)
theorem d_Mod_read_159 : decode b_Mod_read 159 = .ok (.istore 5, 2) := dc_54 (a := 5) (by decide +kernel) rfl
theorem d_Mod_read_161 : decode b_Mod_read 161 = .ok (.iinc 8 1, 3) := dc_132 (a := 8) (b := 1) (by decide +kernel) rfl
theorem d_Mod_read_164 : decode b_Mod_read 164 = .ok (.goto (-84), 3) := dc_167 (a := 255) (b := 172) (by decide +kernel) rfl
theorem d_Mod_read_167 : decode b_Mod_read 167 = .ok (.iload 5, 2) := dc_21 (a := 5) (by decide +kernel) rfl
theorem d_Mod_read_169 : decode b_Mod_read 169 = .ok (.ifCond .ne 90, 3) := dc_154 (a := 0) (b := 90) (by decide +kernel) rfl
theorem d_Mod_read_172 : decode b_Mod_read 172 = .ok (.bipush 40, 2) := dc_16 (a := 40) (by decide +kernel) rfl
theorem d_Mod_read_174 : decode b_Mod_read 174 = .ok (.iload_n 1, 1) := dc_27 (by decide +kernel)
theorem d_Mod_read_175 : decode b_Mod_read 175 = .ok (.imul, 1) := dc_104 (by decide +kernel)
theorem d_Mod_read_176 : decode b_Mod_read 176 = .ok (.iload_n 3, 1) := dc_29 (by decide +kernel)
theorem d_Mod_read_177 : decode b_Mod_read 177 = .ok (.iadd, 1) := dc_96 (by decide +kernel)
theorem d_Mod_read_178 : decode b_Mod_read 178 = .ok (.iconst 3, 1) := dc_6 (by decide +kernel)
theorem d_Mod_read_179 : decode b_Mod_read 179 = .ok (.iload 7, 2) := dc_21 (a := 7) (by decide +kernel) rfl
theorem d_Mod_read_181 : decode b_Mod_read 181 = .ok (.imul, 1) := dc_104 (by decide +kernel)
theorem d_Mod_read_182 : decode b_Mod_read 182 = .ok (.iadd, 1) := dc_96 (by decide +kernel)
theorem d_Mod_read_183 : decode b_Mod_read 183 = .ok (.istore 8, 2) := dc_54 (a := 8) (by decide +kernel) rfl
theorem d_Mod_read_185 : decode b_Mod_read 185 = .ok (.aload_n 0, 1) := dc_42 (by decide +kernel)
theorem d_Mod_read_186 : decode b_Mod_read 186 = .ok (.aload_n 0, 1) := dc_42 (by decide +kernel)
theorem d_Mod_read_187 : decode b_Mod_read 187 = .ok (.getfield 50, 3) := dc_180 (a := 0) (b := 50) (by decide +kernel) rfl
theorem d_Mod_read_190 : decode b_Mod_read 190 = .ok (.iload 8, 2) := dc_21 (a := 8) (by decide +kernel) rfl
theorem d_Mod_read_192 : decode b_Mod_read 192 = .ok (.iaload, 1) := dc_46 (by decide +kernel)
theorem d_Mod_read_193 : decode b_Mod_read 193 = .ok (.aload_n 0, 1) := dc_42 (by decide +kernel)
theorem d_Mod_read_194 : decode b_Mod_read 194 = .ok (.getfield 50, 3) := dc_180 (a := 0) (b := 50) (by decide +kernel) rfl
theorem d_Mod_read_197 : decode b_Mod_read 197 = .ok (.iload 8, 2) := dc_21 (a := 8) (by decide +kernel) rfl
theorem d_Mod_read_199 : decode b_Mod_read 199 = .ok (.iconst 1, 1) := dc_4 (by decide +kernel)
theorem d_Mod_read_200 : decode b_Mod_read 200 = .ok (.iadd, 1) := dc_96 (by decide +kernel)
theorem d_Mod_read_201 : decode b_Mod_read 201 = .ok (.iaload, 1) := dc_46 (by decide +kernel)
theorem d_Mod_read_202 : decode b_Mod_read 202 = .ok (.aload_n 0, 1) := dc_42 (by decide +kernel)
theorem d_Mod_read_203 : decode b_Mod_read 203 = .ok (.getfield 50, 3) := dc_180 (a := 0) (b := 50) (by decide +kernel) rfl
theorem d_Mod_read_206 : decode b_Mod_read 206 = .ok (.iload 8, 2) := dc_21 (a := 8) (by decide +kernel) rfl
theorem d_Mod_read_208 : decode b_Mod_read 208 = .ok (.iconst 2, 1) := dc_5 (by decide +kernel)
theorem d_Mod_read_209 : decode b_Mod_read 209 = .ok (.iadd, 1) := dc_96 (by decide +kernel)
theorem d_Mod_read_210 : decode b_Mod_read 210 = .ok (.iaload, 1) := dc_46 (by decide +kernel)
theorem d_Mod_read_211 : decode b_Mod_read 211 = .ok (.invokevirtual 325, 3) := dc_182 (a := 1) (b := 69) (by decide +kernel) rfl
theorem d_Mod_read_214 : decode b_Mod_read 214 = .ok (.ifCond .ge 42, 3) := dc_156 (a := 0) (b := 42) (by decide +kernel) rfl
theorem d_Mod_read_217 : decode b_Mod_read 217 = .ok (.iconst 0, 1) := dc_3 (by decide +kernel)
theorem d_Mod_read_218 : decode b_Mod_read 218 = .ok (.istore 9, 2) := dc_54 (a := 9) (by decide +kernel) rfl
theorem d_Mod_read_220 : decode b_Mod_read 220 = .ok (.iload 9, 2) := dc_21 (a := 9) (by decide +kernel) rfl
theorem d_Mod_read_222 : decode b_Mod_read 222 = .ok (.bipush 20, 2) := dc_16 (a := 20) (by decide +kernel) rfl
theorem d_Mod_read_224 : decode b_Mod_read 224 = .ok (.if_icmp .ge 26, 3) := dc_162 (a := 0) (b := 26) (by decide +kernel) rfl
theorem d_Mod_read_227 : decode b_Mod_read 227 = .ok (.aload_n 0, 1) := dc_42 (by decide +kernel)
theorem d_Mod_read_228 : decode b_Mod_read 228 = .ok (.getfield 7, 3) := dc_180 (a := 0) (b := 7) (by decide +kernel) rfl
theorem d_Mod_read_231 : decode b_Mod_read 231 = .ok (.bipush 64, 2) := dc_16 (a := 64) (by decide +kernel) rfl
theorem d_Mod_read_233 : decode b_Mod_read 233 = .ok (.iload 9, 2) := dc_21 (a := 9) (by decide +kernel) rfl
theorem d_Mod_read_235 : decode b_Mod_read 235 = .ok (.iadd, 1) := dc_96 (by decide +kernel)
theorem d_Mod_read_236 : decode b_Mod_read 236 = .ok (.aload_n 0, 1) := dc_42 (by decide +kernel)
theorem d_Mod_read_237 : decode b_Mod_read 237 = .ok (.getfield 53, 3) := dc_180 (a := 0) (b := 53) (by decide +kernel) rfl
theorem d_Mod_read_240 : decode b_Mod_read 240 = .ok (.iload 9, 2) := dc_21 (a := 9) (by decide +kernel) rfl
theorem d_Mod_read_242 : decode b_Mod_read 242 = .ok (.iaload, 1) := dc_46 (by decide +kernel)
theorem d_Mod_read_243 : decode b_Mod_read 243 = .ok (.iastore, 1) := dc_79 (by decide +kernel)
theorem d_Mod_read_244 : decode b_Mod_read 244 = .ok (.iinc 9 1, 3) := dc_132 (a := 9) (b := 1) (by decide +kernel) rfl
theorem d_Mod_read_247 : decode b_Mod_read 247 = .ok (.goto (-27), 3) := dc_167 (a := 255) (b := 229) (by decide +kernel) rfl
theorem d_Mod_read_250 : decode b_Mod_read 250 = .ok (.bipush (-20), 2) := dc_16 (a := 236) (by decide +kernel) rfl
theorem d_Mod_read_252 : decode b_Mod_read 252 = .ok (.iload 7, 2) := dc_21 (a := 7) (by decide +kernel) rfl
theorem d_Mod_read_254 : decode b_Mod_read 254 = .ok (.isub, 1) := dc_100 (by decide +kernel)
theorem d_Mod_read_255 : decode b_Mod_read 255 = .ok (.ireturn, 1) := dc_172 (by decide +kernel)
theorem d_Mod_read_256 : decode b_Mod_read 256 = .ok (.iinc 6 1, 3) := dc_132 (a := 6) (b := 1) (by decide +kernel) rfl
theorem d_Mod_read_259 : decode b_Mod_read 259 = .ok (.iinc 7 1, 3) := dc_132 (a := 7) (b := 1) (by decide +kernel) rfl
theorem d_Mod_read_262 : decode b_Mod_read 262 = .ok (.goto (-197), 3) := dc_167 (a := 255) (b := 59) (by decide +kernel) rfl
theorem d_Mod_read_265 : decode b_Mod_read 265 = .ok (.aload_n 0, 1) := dc_42 (by decide +kernel)
theorem d_Mod_read_266 : decode b_Mod_read 266 = .ok (.iload 5, 2) := dc_21 (a := 5) (by decide +kernel) rfl
theorem d_Mod_read_268 : decode b_Mod_read 268 = .ok (.putfield 328, 3) := dc_181 (a := 1) (b := 72) (by decide +kernel) rfl
theorem d_Mod_read_271 : decode b_Mod_read 271 = .ok (.iload 6, 2) := dc_21 (a := 6) (by decide +kernel) rfl
theorem d_Mod_read_273 : decode b_Mod_read 273 = .ok (.ireturn, 1) := dc_172 (by decide +kernel)
theorem d_Mod_count_0 : decode b_Mod_count 0 = .ok (.iconst 0, 1) := dc_3 (by decide +kernel)
theorem d_Mod_count_1 : decode b_Mod_count 1 = .ok (.istore_n 2, 1) := dc_61 (by decide +kernel)
theorem d_Mod_count_2 : decode b_Mod_count 2 = .ok (.iconst 0, 1) := dc_3 (by decide +kernel)
theorem d_Mod_count_3 : decode b_Mod_count 3 = .ok (.istore_n 3, 1) := dc_62 (by decide +kernel)
theorem d_Mod_count_4 : decode b_Mod_count 4 = .ok (.iconst 0, 1) := dc_3 (by decide +kernel)
theorem d_Mod_count_5 : decode b_Mod_count 5 = .ok (.istore 4, 2) := dc_54 (a := 4) (by decide +kernel) rfl
theorem d_Mod_count_7 : decode b_Mod_count 7 = .ok (.iload 4, 2) := dc_21 (a := 4) (by decide +kernel) rfl
theorem d_Mod_count_9 : decode b_Mod_count 9 = .ok (.aload_n 0, 1) := dc_42 (by decide +kernel)
theorem d_Mod_count_10 : decode b_Mod_count 10 = .ok (.invokevirtual 183, 3) := dc_182 (a := 0) (b := 183) (by decide +kernel) rfl
theorem d_Mod_count_13 : decode b_Mod_count 13 = .ok (.if_icmp .ge 33, 3) := dc_162 (a := 0) (b := 33) (by decide +kernel) rfl
theorem d_Mod_count_16 : decode b_Mod_count 16 = .ok (.iload_n 2, 1) := dc_28 (by decide +kernel)
theorem d_Mod_count_17 : decode b_Mod_count 17 = .ok (.aload_n 0, 1) := dc_42 (by decide +kernel)
theorem d_Mod_count_18 : decode b_Mod_count 18 = .ok (.getfield 7, 3) := dc_180 (a := 0) (b := 7) (by decide +kernel) rfl
theorem d_Mod_count_21 : decode b_Mod_count 21 = .ok (.bipush 64, 2) := dc_16 (a := 64) (by decide +kernel) rfl
theorem d_Mod_count_23 : decode b_Mod_count 23 = .ok (.iload 4, 2) := dc_21 (a := 4) (by decide +kernel) rfl
theorem d_Mod_count_25 : decode b_Mod_count 25 = .ok (.iadd, 1) := dc_96 (by decide +kernel)
theorem d_Mod_count_26 : decode b_Mod_count 26 = .ok (.iaload, 1) := dc_46 (by decide +kernel)
theorem d_Mod_count_27 : decode b_Mod_count 27 = .ok (.ifCond .le 7, 3) := dc_158 (a := 0) (b := 7) (by decide +kernel) rfl
theorem d_Mod_count_30 : decode b_Mod_count 30 = .ok (.iconst 1, 1) := dc_4 (by decide +kernel)
theorem d_Mod_count_31 : decode b_Mod_count 31 = .ok (.goto 4, 3) := dc_167 (a := 0) (b := 4) (by decide +kernel) rfl
theorem d_Mod_count_34 : decode b_Mod_count 34 = .ok (.iconst 0, 1) := dc_3 (by decide +kernel)
theorem d_Mod_count_35 : decode b_Mod_count 35 = .ok (.invokestatic 196, 3) := dc_184 (a := 0) (b := 196) (by decide +kernel) rfl
theorem d_Mod_count_38 : decode b_Mod_count 38 = .ok (.iadd, 1) := dc_96 (by decide +kernel)
theorem d_Mod_count_39 : decode b_Mod_count 39 = .ok (.istore_n 2, 1) := dc_61 (by decide +kernel)
theorem d_Mod_count_40 : decode b_Mod_count 40 = .ok (.iinc 4 1, 3) := dc_132 (a := 4) (b := 1) (by decide +kernel) rfl
theorem d_Mod_count_43 : decode b_Mod_count 43 = .ok (.goto (-36), 3) := dc_167 (a := 255) (b := 220) (by decide +kernel) rfl
theorem d_Mod_count_46 : decode b_Mod_count 46 = .ok (.iconst 0, 1) := dc_3 (by decide +kernel)
theorem d_Mod_count_47 : decode b_Mod_count 47 = .ok (.istore 4, 2) := dc_54 (a := 4) (by decide +kernel) rfl
theorem d_Mod_count_49 : decode b_Mod_count 49 = .ok (.iload 4, 2) := dc_21 (a := 4) (by decide +kernel) rfl
theorem d_Mod_count_51 : decode b_Mod_count 51 = .ok (.iconst 4, 1) := dc_7 (by decide +kernel)
theorem d_Mod_count_52 : decode b_Mod_count 52 = .ok (.if_icmp .ge 22, 3) := dc_162 (a := 0) (b := 22) (by decide +kernel) rfl
theorem d_Mod_count_55 : decode b_Mod_count 55 = .ok (.iload_n 3, 1) := dc_29 (by decide +kernel)
theorem d_Mod_count_56 : decode b_Mod_count 56 = .ok (.aload_n 0, 1) := dc_42 (by decide +kernel)
theorem d_Mod_count_57 : decode b_Mod_count 57 = .ok (.getfield 7, 3) := dc_180 (a := 0) (b := 7) (by decide +kernel) rfl
theorem d_Mod_count_60 : decode b_Mod_count 60 = .ok (.bipush 80, 2) := dc_16 (a := 80) (by decide +kernel) rfl
theorem d_Mod_count_62 : decode b_Mod_count 62 = .ok (.iload 4, 2) := dc_21 (a := 4) (by decide +kernel) rfl
theorem d_Mod_count_64 : decode b_Mod_count 64 = .ok (.iadd, 1) := dc_96 (by decide +kernel)
theorem d_Mod_count_65 : decode b_Mod_count 65 = .ok (.iaload, 1) := dc_46 (by decide +kernel)
theorem d_Mod_count_66 : decode b_Mod_count 66 = .ok (.iadd, 1) := dc_96 (by decide +kernel)
theorem d_Mod_count_67 : decode b_Mod_count 67 = .ok (.istore_n 3, 1) := dc_62 (by decide +kernel)
theorem d_Mod_count_68 : decode b_Mod_count 68 = .ok (.iinc 4 1, 3) := dc_132 (a := 4) (b := 1) (by decide +kernel) rfl
theorem d_Mod_count_71 : decode b_Mod_count 71 = .ok (.goto (-22), 3) := dc_167 (a := 255) (b := 234) (by decide +kernel) rfl
theorem d_Mod_count_74 : decode b_Mod_count 74 = .ok (.iload_n 1, 1) := dc_27 (by decide +kernel)
theorem d_Mod_count_75 : decode b_Mod_count 75 = .ok (.tableswitch 106 0 6 #[41, 46, 48, 56, 76, 81, 104], 41) := by decide +kernel
theorem d_Mod_count_116 : decode b_Mod_count 116 = .ok (.aload_n 0, 1) := dc_42 (by decide +kernel)
theorem d_Mod_count_117 : decode b_Mod_count 117 = .ok (.invokevirtual 223, 3) := dc_182 (a := 0) (b := 223) (by decide +kernel) rfl
theorem d_Mod_count_120 : decode b_Mod_count 120 = .ok (.ireturn, 1) := dc_172 (by decide +kernel)
theorem d_Mod_count_121 : decode b_Mod_count 121 = .ok (.iload_n 2, 1) := dc_28 (by decide +kernel)
theorem d_Mod_count_122 : decode b_Mod_count 122 = .ok (.ireturn, 1) := dc_172 (by decide +kernel)
theorem d_Mod_count_123 : decode b_Mod_count 123 = .ok (.aload_n 0, 1) := dc_42 (by decide +kernel)
theorem d_Mod_count_124 : decode b_Mod_count 124 = .ok (.getfield 7, 3) := dc_180 (a := 0) (b := 7) (by decide +kernel) rfl
theorem d_Mod_count_127 : decode b_Mod_count 127 = .ok (.bipush 111, 2) := dc_16 (a := 111) (by decide +kernel) rfl
theorem d_Mod_count_129 : decode b_Mod_count 129 = .ok (.iaload, 1) := dc_46 (by decide +kernel)
theorem d_Mod_count_130 : decode b_Mod_count 130 = .ok (.ireturn, 1) := dc_172 (by decide +kernel)
theorem d_Mod_count_131 : decode b_Mod_count 131 = .ok (.aload_n 0, 1) := dc_42 (by decide +kernel)
theorem d_Mod_count_132 : decode b_Mod_count 132 = .ok (.getfield 13, 3) := dc_180 (a := 0) (b := 13) (by decide +kernel) rfl
theorem d_Mod_count_135 : decode b_Mod_count 135 = .ok (.iconst 0, 1) := dc_3 (by decide +kernel)
theorem d_Mod_count_136 : decode b_Mod_count 136 = .ok (.baload, 1) := dc_51 (by decide +kernel)
theorem d_Mod_count_137 : decode b_Mod_count 137 = .ok (.invokestatic 196, 3) := dc_184 (a := 0) (b := 196) (by decide +kernel) rfl
theorem d_Mod_count_140 : decode b_Mod_count 140 = .ok (.aload_n 0, 1) := dc_42 (by decide +kernel)
theorem d_Mod_count_141 : decode b_Mod_count 141 = .ok (.getfield 13, 3) := dc_180 (a := 0) (b := 13) (by decide +kernel) rfl
theorem d_Mod_count_144 : decode b_Mod_count 144 = .ok (.iconst 1, 1) := dc_4 (by decide +kernel)
theorem d_Mod_count_145 : decode b_Mod_count 145 = .ok (.baload, 1) := dc_51 (by decide +kernel)
theorem d_Mod_count_146 : decode b_Mod_count 146 = .ok (.invokestatic 196, 3) := dc_184 (a := 0) (b := 196) (by decide +kernel) rfl
theorem d_Mod_count_149 : decode b_Mod_count 149 = .ok (.iadd, 1) := dc_96 (by decide +kernel)
theorem d_Mod_count_150 : decode b_Mod_count 150 = .ok (.ireturn, 1) := dc_172 (by decide +kernel)
theorem d_Mod_count_151 : decode b_Mod_count 151 = .ok (.aload_n 0, 1) := dc_42 (by decide +kernel)
theorem d_Mod_count_152 : decode b_Mod_count 152 = .ok (.getfield 99, 3) := dc_180 (a := 0) (b := 99) (by decide +kernel) rfl
theorem d_Mod_count_155 : decode b_Mod_count 155 = .ok (.ireturn, 1) := dc_172 (by decide +kernel)
theorem d_Mod_count_156 : decode b_Mod_count 156 = .ok (.aload_n 0, 1) := dc_42 (by decide +kernel)
theorem d_Mod_count_157 : decode b_Mod_count 157 = .ok (.getfield 44, 3) := dc_180 (a := 0) (b := 44) (by decide +kernel) rfl
theorem d_Mod_count_160 : decode b_Mod_count 160 = .ok (.iconst 0, 1) := dc_3 (by decide +kernel)
theorem d_Mod_count_161 : decode b_Mod_count 161 = .ok (.iaload, 1) := dc_46 (by decide +kernel)
theorem d_Mod_count_162 : decode b_Mod_count 162 = .ok (.bipush (-4), 2) := dc_16 (a := 252) (by decide +kernel) rfl
theorem d_Mod_count_164 : decode b_Mod_count 164 = .ok (.if_icmp .ne 8, 3) := dc_160 (a := 0) (b := 8) (by decide +kernel) rfl
theorem d_Mod_count_167 : decode b_Mod_count 167 = .ok (.bipush (-4), 2) := dc_16 (a := 252) (by decide +kernel) rfl
theorem d_Mod_count_169 : decode b_Mod_count 169 = .ok (.goto 9, 3) := dc_167 (a := 0) (b := 9) (by decide +kernel) rfl
theorem d_Mod_count_172 : decode b_Mod_count 172 = .ok (.aload_n 0, 1) := dc_42 (by decide +kernel)
theorem d_Mod_count_173 : decode b_Mod_count 173 = .ok (.getfield 47, 3) := dc_180 (a := 0) (b := 47) (by decide +kernel) rfl
theorem d_Mod_count_176 : decode b_Mod_count 176 = .ok (.iconst 0, 1) := dc_3 (by decide +kernel)
theorem d_Mod_count_177 : decode b_Mod_count 177 = .ok (.iaload, 1) := dc_46 (by decide +kernel)
theorem d_Mod_count_178 : decode b_Mod_count 178 = .ok (.ireturn, 1) := dc_172 (by decide +kernel)
theorem d_Mod_count_179 : decode b_Mod_count 179 = .ok (.iload_n 3, 1) := dc_29 (by decide +kernel)
theorem d_Mod_count_180 : decode b_Mod_count 180 = .ok (.ireturn, 1) := dc_172 (by decide +kernel)
theorem d_Mod_count_181 : decode b_Mod_count 181 = .ok (.iconst (-1), 1) := dc_2 (by decide +kernel)
theorem d_Mod_count_182 : decode b_Mod_count 182 = .ok (.ireturn, 1) := dc_172 (by decide +kernel)
end
