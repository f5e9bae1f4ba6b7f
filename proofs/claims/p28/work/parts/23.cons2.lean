section
theorem wo_Land_3 : Cond.methodLink R_Land 3 objectInit ∈ vv_G := vv_Gin (List.mem_append_right _ (List.mem_append_left _ (List.mem_of_getElem? (i := 40) (by decide +kernel)))) (by decide +kernel)
theorem wo1 : Cond.instanceMethod objectInit ∈ vv_G := vv_Gin (List.mem_append_right _ (List.mem_append_left _ (List.mem_of_getElem? (i := 27) (by decide +kernel)))) (by decide +kernel)
theorem wo2 : Cond.code objectInit ⟨#[0xb1]⟩ 1 none ∈ vv_G := vv_Gin (List.mem_append_right _ (List.mem_append_left _ (List.mem_of_getElem? (i := 28) (by decide +kernel)))) (by decide +kernel)
theorem wa_int : Cond.arrayClass .int ∈ vv_G := vv_Gin (List.mem_append_right _ (List.mem_append_left _ (List.mem_of_getElem? (i := 99) (by decide +kernel)))) (by decide +kernel)
theorem fl_Land_9 : Cond.fieldLink R_Land 9 (T_Land 4).1 (T_Land 4).2.1 (T_Land 4).2.2.1 ∈ vv_G := vv_Gin (List.mem_append_right _ (List.mem_append_left _ (List.mem_of_getElem? (i := 59) rfl))) rfl
theorem fl_Land_15 : Cond.fieldLink R_Land 15 (T_Land 5).1 (T_Land 5).2.1 (T_Land 5).2.2.1 ∈ vv_G := vv_Gin (List.mem_append_right _ (List.mem_append_left _ (List.mem_of_getElem? (i := 64) rfl))) rfl
theorem fl_Land_18 : Cond.fieldLink R_Land 18 (T_Land 6).1 (T_Land 6).2.1 (T_Land 6).2.2.1 ∈ vv_G := vv_Gin (List.mem_append_right _ (List.mem_append_left _ (List.mem_of_getElem? (i := 67) rfl))) rfl
theorem fl_Land_21 : Cond.fieldLink R_Land 21 (T_Land 7).1 (T_Land 7).2.1 (T_Land 7).2.2.1 ∈ vv_G := vv_Gin (List.mem_append_right _ (List.mem_append_left _ (List.mem_of_getElem? (i := 71) rfl))) rfl
theorem fl_Land_24 : Cond.fieldLink R_Land 24 (T_Land 8).1 (T_Land 8).2.1 (T_Land 8).2.2.1 ∈ vv_G := vv_Gin (List.mem_append_right _ (List.mem_append_left _ (List.mem_of_getElem? (i := 76) rfl))) rfl
theorem wo_Ledger_3 : Cond.methodLink R_Ledger 3 objectInit ∈ vv_G := vv_Gin (List.mem_append_right _ (List.mem_append_left _ (List.mem_of_getElem? (i := 105) (by decide +kernel)))) (by decide +kernel)
theorem fl_Ledger_9 : Cond.fieldLink R_Ledger 9 (T_Ledger 0).1 (T_Ledger 0).2.1 (T_Ledger 0).2.2.1 ∈ vv_G := vv_Gin (List.mem_append_right _ (List.mem_append_left _ (List.mem_of_getElem? (i := 106) rfl))) rfl
theorem fl_Ledger_15 : Cond.fieldLink R_Ledger 15 (T_Ledger 1).1 (T_Ledger 1).2.1 (T_Ledger 1).2.2.1 ∈ vv_G := vv_Gin (List.mem_append_right _ (List.mem_append_left _ (List.mem_of_getElem? (i := 110) rfl))) rfl
theorem fl_Ledger_18 : Cond.fieldLink R_Ledger 18 (T_Ledger 2).1 (T_Ledger 2).2.1 (T_Ledger 2).2.2.1 ∈ vv_G := vv_Gin (List.mem_append_right _ (List.mem_append_left _ (List.mem_of_getElem? (i := 111) rfl))) rfl
theorem fl_Ledger_21 : Cond.fieldLink R_Ledger 21 (T_Ledger 3).1 (T_Ledger 3).2.1 (T_Ledger 3).2.2.1 ∈ vv_G := vv_Gin (List.mem_append_right _ (List.mem_append_left _ (List.mem_of_getElem? (i := 112) rfl))) rfl
theorem wo_Sights_3 : Cond.methodLink R_Sights 3 objectInit ∈ vv_G := vv_Gin (List.mem_append_right _ (List.mem_append_left _ (List.mem_of_getElem? (i := 132) (by decide +kernel)))) (by decide +kernel)
theorem fl_Sights_9 : Cond.fieldLink R_Sights 9 (T_Sights 0).1 (T_Sights 0).2.1 (T_Sights 0).2.2.1 ∈ vv_G := vv_Gin (List.mem_append_right _ (List.mem_append_left _ (List.mem_of_getElem? (i := 133) rfl))) rfl
theorem fl_Sights_15 : Cond.fieldLink R_Sights 15 (T_Sights 1).1 (T_Sights 1).2.1 (T_Sights 1).2.2.1 ∈ vv_G := vv_Gin (List.mem_append_right _ (List.mem_append_left _ (List.mem_of_getElem? (i := 135) rfl))) rfl
theorem fl_Sights_18 : Cond.fieldLink R_Sights 18 (T_Sights 2).1 (T_Sights 2).2.1 (T_Sights 2).2.2.1 ∈ vv_G := vv_Gin (List.mem_append_right _ (List.mem_append_left _ (List.mem_of_getElem? (i := 137) rfl))) rfl
theorem fl_Sights_21 : Cond.fieldLink R_Sights 21 (T_Sights 3).1 (T_Sights 3).2.1 (T_Sights 3).2.2.1 ∈ vv_G := vv_Gin (List.mem_append_right _ (List.mem_append_left _ (List.mem_of_getElem? (i := 139) rfl))) rfl
theorem fl_Land_27 : Cond.fieldLink R_Land 27 (T_Land 0).1 (T_Land 0).2.1 (T_Land 0).2.2.1 ∈ vv_G := vv_Gin (List.mem_append_right _ (List.mem_append_left _ (List.mem_of_getElem? (i := 41) rfl))) rfl
theorem fl_Land_31 : Cond.fieldLink R_Land 31 (T_Land 1).1 (T_Land 1).2.1 (T_Land 1).2.2.1 ∈ vv_G := vv_Gin (List.mem_append_right _ (List.mem_append_left _ (List.mem_of_getElem? (i := 45) rfl))) rfl
theorem fl_Land_34 : Cond.fieldLink R_Land 34 (T_Land 2).1 (T_Land 2).2.1 (T_Land 2).2.2.1 ∈ vv_G := vv_Gin (List.mem_append_right _ (List.mem_append_left _ (List.mem_of_getElem? (i := 49) rfl))) rfl
theorem fl_Land_37 : Cond.fieldLink R_Land 37 (T_Land 3).1 (T_Land 3).2.1 (T_Land 3).2.2.1 ∈ vv_G := vv_Gin (List.mem_append_right _ (List.mem_append_left _ (List.mem_of_getElem? (i := 54) rfl))) rfl
theorem fl_Ledger_30 : Cond.fieldLink R_Ledger 30 (T_Ledger 4).1 (T_Ledger 4).2.1 (T_Ledger 4).2.2.1 ∈ vv_G := vv_Gin (List.mem_append_right _ (List.mem_append_left _ (List.mem_of_getElem? (i := 113) rfl))) rfl
theorem fl_County_37 : Cond.fieldLink R_County 37 (T_Sights 4).1 (T_Sights 4).2.1 (T_Sights 4).2.2.1 ∈ vv_G := vv_Gin (List.mem_append_right _ (List.mem_append_left _ (List.mem_of_getElem? (i := 141) rfl))) rfl
theorem fl_County_41 : Cond.fieldLink R_County 41 (T_County 3).1 (T_County 3).2.1 (T_County 3).2.2.1 ∈ vv_G := vv_Gin (List.mem_append_right _ (List.mem_append_left _ (List.mem_of_getElem? (i := 180) rfl))) rfl
theorem fl_County_44 : Cond.fieldLink R_County 44 (T_County 4).1 (T_County 4).2.1 (T_County 4).2.2.1 ∈ vv_G := vv_Gin (List.mem_append_right _ (List.mem_append_left _ (List.mem_of_getElem? (i := 183) rfl))) rfl
theorem wo_County_3 : Cond.methodLink R_County 3 objectInit ∈ vv_G := vv_Gin (List.mem_append_right _ (List.mem_append_left _ (List.mem_of_getElem? (i := 34) (by decide +kernel)))) (by decide +kernel)
theorem wk_County_9 : Cond.classLink R_County 9 R_Land ∈ vv_G := vv_Gin (List.mem_append_right _ (List.mem_append_left _ (List.mem_of_getElem? (i := 35) (by decide +kernel)))) (by decide +kernel)
theorem wi_Land : Cond.instantiable R_Land 9 ∈ vv_G := vv_Gin (List.mem_append_right _ (List.mem_append_left _ (List.mem_of_getElem? (i := 36) (by decide +kernel)))) (by decide +kernel)
theorem wn_Land : Cond.initialized R_Land ∈ vv_G := vv_Gin (List.mem_append_right _ (List.mem_append_left _ (List.mem_of_getElem? (i := 3) (by decide +kernel)))) (by decide +kernel)
theorem wd_Land : ∀ j, j < 9 → defaultValue (t_Land j) = vp_V [.int 0, .int 0, .int 0, .int 0, .null, .null, .null, .null, .null] j := by decide
theorem cb_Land_init : CB y_Land_init b_Land_init 1 none 0 := ⟨vv_Gin (List.mem_append_right _ (List.mem_append_left _ (List.mem_of_getElem? (i := 39) rfl))) rfl, by decide +kernel, vv_Gin (List.mem_append_right _ (List.mem_append_left _ (List.mem_of_getElem? (i := 3) rfl))) rfl⟩
theorem im_Land_init : Cond.instanceMethod y_Land_init ∈ vv_G := vv_Gin (List.mem_append_right _ (List.mem_append_left _ (List.mem_of_getElem? (i := 38) rfl))) rfl
theorem ck_County_11 : CI R_County 11 y_Land_init b_Land_init 1 0 := ⟨cb_Land_init, rfl, im_Land_init, Or.inr (by decide +kernel)⟩
theorem fl_County_12 : Cond.fieldLink R_County 12 (T_County 0).1 (T_County 0).2.1 (T_County 0).2.2.1 ∈ vv_G := vv_Gin (List.mem_append_right _ (List.mem_append_left _ (List.mem_of_getElem? (i := 171) rfl))) rfl
theorem wk_County_18 : Cond.classLink R_County 18 R_Ledger ∈ vv_G := vv_Gin (List.mem_append_right _ (List.mem_append_left _ (List.mem_of_getElem? (i := 100) (by decide +kernel)))) (by decide +kernel)
theorem wi_Ledger : Cond.instantiable R_Ledger 5 ∈ vv_G := vv_Gin (List.mem_append_right _ (List.mem_append_left _ (List.mem_of_getElem? (i := 101) (by decide +kernel)))) (by decide +kernel)
theorem wn_Ledger : Cond.initialized R_Ledger ∈ vv_G := vv_Gin (List.mem_append_right _ (List.mem_append_left _ (List.mem_of_getElem? (i := 4) (by decide +kernel)))) (by decide +kernel)
theorem wd_Ledger : ∀ j, j < 5 → defaultValue (t_Ledger j) = vp_V [.null, .null, .null, .null, .int 0] j := by decide
theorem cb_Ledger_init : CB y_Ledger_init b_Ledger_init 1 none 0 := ⟨vv_Gin (List.mem_append_right _ (List.mem_append_left _ (List.mem_of_getElem? (i := 104) rfl))) rfl, by decide +kernel, vv_Gin (List.mem_append_right _ (List.mem_append_left _ (List.mem_of_getElem? (i := 4) rfl))) rfl⟩
theorem im_Ledger_init : Cond.instanceMethod y_Ledger_init ∈ vv_G := vv_Gin (List.mem_append_right _ (List.mem_append_left _ (List.mem_of_getElem? (i := 103) rfl))) rfl
theorem ck_County_20 : CI R_County 20 y_Ledger_init b_Ledger_init 1 0 := ⟨cb_Ledger_init, rfl, im_Ledger_init, Or.inr (by decide +kernel)⟩
theorem fl_County_21 : Cond.fieldLink R_County 21 (T_County 1).1 (T_County 1).2.1 (T_County 1).2.2.1 ∈ vv_G := vv_Gin (List.mem_append_right _ (List.mem_append_left _ (List.mem_of_getElem? (i := 175) rfl))) rfl
theorem wk_County_25 : Cond.classLink R_County 25 R_Sights ∈ vv_G := vv_Gin (List.mem_append_right _ (List.mem_append_left _ (List.mem_of_getElem? (i := 127) (by decide +kernel)))) (by decide +kernel)
theorem wi_Sights : Cond.instantiable R_Sights 5 ∈ vv_G := vv_Gin (List.mem_append_right _ (List.mem_append_left _ (List.mem_of_getElem? (i := 128) (by decide +kernel)))) (by decide +kernel)
theorem wn_Sights : Cond.initialized R_Sights ∈ vv_G := vv_Gin (List.mem_append_right _ (List.mem_append_left _ (List.mem_of_getElem? (i := 5) (by decide +kernel)))) (by decide +kernel)
theorem wd_Sights : ∀ j, j < 5 → defaultValue (t_Sights j) = vp_V [.null, .null, .null, .null, .int 0] j := by decide
theorem cb_Sights_init : CB y_Sights_init b_Sights_init 1 none 0 := ⟨vv_Gin (List.mem_append_right _ (List.mem_append_left _ (List.mem_of_getElem? (i := 131) rfl))) rfl, by decide +kernel, vv_Gin (List.mem_append_right _ (List.mem_append_left _ (List.mem_of_getElem? (i := 5) rfl))) rfl⟩
theorem im_Sights_init : Cond.instanceMethod y_Sights_init ∈ vv_G := vv_Gin (List.mem_append_right _ (List.mem_append_left _ (List.mem_of_getElem? (i := 130) rfl))) rfl
theorem ck_County_27 : CI R_County 27 y_Sights_init b_Sights_init 1 0 := ⟨cb_Sights_init, rfl, im_Sights_init, Or.inr (by decide +kernel)⟩
theorem fl_County_28 : Cond.fieldLink R_County 28 (T_County 2).1 (T_County 2).2.1 (T_County 2).2.2.1 ∈ vv_G := vv_Gin (List.mem_append_right _ (List.mem_append_left _ (List.mem_of_getElem? (i := 178) rfl))) rfl
theorem cv_County_32 : CV R_County 32 y_County_reset b_County_reset 1 none 0 := ⟨cb_County_reset, im_County_reset, se_County_reset, vv_Gin (List.mem_append_right _ (List.mem_append_left _ (List.mem_of_getElem? (i := 155) rfl))) rfl⟩
theorem wo_Tape_3 : Cond.methodLink R_Tape 3 objectInit ∈ vv_G := vv_Gin (List.mem_append_right _ (List.mem_append_left _ (List.mem_of_getElem? (i := 209) (by decide +kernel)))) (by decide +kernel)
theorem wa_byte : Cond.arrayClass .byte ∈ vv_G := vv_Gin (List.mem_append_right _ (List.mem_append_left _ (List.mem_of_getElem? (i := 236) (by decide +kernel)))) (by decide +kernel)
theorem fl_Tape_9 : Cond.fieldLink R_Tape 9 (T_Tape 0).1 (T_Tape 0).2.1 (T_Tape 0).2.2.1 ∈ vv_G := vv_Gin (List.mem_append_right _ (List.mem_append_left _ (List.mem_of_getElem? (i := 210) rfl))) rfl
theorem wo_Reader_3 : Cond.methodLink R_Reader 3 objectInit ∈ vv_G := vv_Gin (List.mem_append_right _ (List.mem_append_left _ (List.mem_of_getElem? (i := 203) (by decide +kernel)))) (by decide +kernel)
theorem wk_Reader_9 : Cond.classLink R_Reader 9 R_Tape ∈ vv_G := vv_Gin (List.mem_append_right _ (List.mem_append_left _ (List.mem_of_getElem? (i := 204) (by decide +kernel)))) (by decide +kernel)
theorem wi_Tape : Cond.instantiable R_Tape 6 ∈ vv_G := vv_Gin (List.mem_append_right _ (List.mem_append_left _ (List.mem_of_getElem? (i := 205) (by decide +kernel)))) (by decide +kernel)
theorem wn_Tape : Cond.initialized R_Tape ∈ vv_G := vv_Gin (List.mem_append_right _ (List.mem_append_left _ (List.mem_of_getElem? (i := 8) (by decide +kernel)))) (by decide +kernel)
theorem wd_Tape : ∀ j, j < 6 → defaultValue (t_Tape j) = vp_V [.null, .int 0, .int 0, .int 0, .int 0, .int 0] j := by decide
theorem cb_Tape_init : CB y_Tape_init b_Tape_init 1 none 0 := ⟨vv_Gin (List.mem_append_right _ (List.mem_append_left _ (List.mem_of_getElem? (i := 208) rfl))) rfl, by decide +kernel, vv_Gin (List.mem_append_right _ (List.mem_append_left _ (List.mem_of_getElem? (i := 8) rfl))) rfl⟩
theorem im_Tape_init : Cond.instanceMethod y_Tape_init ∈ vv_G := vv_Gin (List.mem_append_right _ (List.mem_append_left _ (List.mem_of_getElem? (i := 207) rfl))) rfl
theorem ck_Reader_11 : CI R_Reader 11 y_Tape_init b_Tape_init 1 0 := ⟨cb_Tape_init, rfl, im_Tape_init, Or.inr (by decide +kernel)⟩
theorem fl_Reader_12 : Cond.fieldLink R_Reader 12 (T_Reader 0).1 (T_Reader 0).2.1 (T_Reader 0).2.2.1 ∈ vv_G := vv_Gin (List.mem_append_right _ (List.mem_append_left _ (List.mem_of_getElem? (i := 239) rfl))) rfl
theorem wk_Reader_18 : Cond.classLink R_Reader 18 R_County ∈ vv_G := vv_Gin (List.mem_append_right _ (List.mem_append_left _ (List.mem_of_getElem? (i := 237) (by decide +kernel)))) (by decide +kernel)
theorem wi_County : Cond.instantiable R_County 5 ∈ vv_G := vv_Gin (List.mem_append_right _ (List.mem_append_left _ (List.mem_of_getElem? (i := 30) (by decide +kernel)))) (by decide +kernel)
theorem wn_County : Cond.initialized R_County ∈ vv_G := vv_Gin (List.mem_append_right _ (List.mem_append_left _ (List.mem_of_getElem? (i := 2) (by decide +kernel)))) (by decide +kernel)
theorem wd_County : ∀ j, j < 5 → defaultValue (t_County j) = vp_V [.null, .null, .null, .int 0, .int 0] j := by decide
theorem cb_County_init : CB y_County_init b_County_init 1 none 0 := ⟨vv_Gin (List.mem_append_right _ (List.mem_append_left _ (List.mem_of_getElem? (i := 33) rfl))) rfl, by decide +kernel, vv_Gin (List.mem_append_right _ (List.mem_append_left _ (List.mem_of_getElem? (i := 2) rfl))) rfl⟩
theorem im_County_init : Cond.instanceMethod y_County_init ∈ vv_G := vv_Gin (List.mem_append_right _ (List.mem_append_left _ (List.mem_of_getElem? (i := 32) rfl))) rfl
theorem ck_Reader_20 : CI R_Reader 20 y_County_init b_County_init 1 0 := ⟨cb_County_init, rfl, im_County_init, Or.inl (vv_Gin (List.mem_append_right _ (List.mem_append_left _ (List.mem_of_getElem? (i := 238) rfl))) rfl)⟩
theorem fl_Reader_21 : Cond.fieldLink R_Reader 21 (T_Reader 1).1 (T_Reader 1).2.1 (T_Reader 1).2.2.1 ∈ vv_G := vv_Gin (List.mem_append_right _ (List.mem_append_right _ (List.mem_append_left _ (List.mem_of_getElem? (i := 1) rfl)))) rfl
theorem fl_Reader_25 : Cond.fieldLink R_Reader 25 (T_Reader 2).1 (T_Reader 2).2.1 (T_Reader 2).2.2.1 ∈ vv_G := vv_Gin (List.mem_append_right _ (List.mem_append_right _ (List.mem_append_left _ (List.mem_of_getElem? (i := 3) rfl)))) rfl
theorem fl_Reader_29 : Cond.fieldLink R_Reader 29 (T_Reader 3).1 (T_Reader 3).2.1 (T_Reader 3).2.2.1 ∈ vv_G := vv_Gin (List.mem_append_right _ (List.mem_append_right _ (List.mem_append_left _ (List.mem_of_getElem? (i := 4) rfl)))) rfl
theorem wo_Plans_3 : Cond.methodLink R_Plans 3 objectInit ∈ vv_G := vv_Gin (List.mem_append_right _ (List.mem_append_right _ (List.mem_append_left _ (List.mem_of_getElem? (i := 45) (by decide +kernel))))) (by decide +kernel)
theorem fl_Plans_9 : Cond.fieldLink R_Plans 9 (T_Plans 0).1 (T_Plans 0).2.1 (T_Plans 0).2.2.1 ∈ vv_G := vv_Gin (List.mem_append_right _ (List.mem_append_right _ (List.mem_append_left _ (List.mem_of_getElem? (i := 46) rfl)))) rfl
theorem wo_Beds_3 : Cond.methodLink R_Beds 3 objectInit ∈ vv_G := vv_Gin (List.mem_append_right _ (List.mem_append_right _ (List.mem_append_left _ (List.mem_of_getElem? (i := 63) (by decide +kernel))))) (by decide +kernel)
theorem fl_Beds_9 : Cond.fieldLink R_Beds 9 (T_Beds 0).1 (T_Beds 0).2.1 (T_Beds 0).2.2.1 ∈ vv_G := vv_Gin (List.mem_append_right _ (List.mem_append_right _ (List.mem_append_left _ (List.mem_of_getElem? (i := 64) rfl)))) rfl
theorem fl_Beds_15 : Cond.fieldLink R_Beds 15 (T_Beds 2).1 (T_Beds 2).2.1 (T_Beds 2).2.2.1 ∈ vv_G := vv_Gin (List.mem_append_right _ (List.mem_append_right _ (List.mem_append_left _ (List.mem_of_getElem? (i := 66) rfl)))) rfl
theorem wo_Sheet_3 : Cond.methodLink R_Sheet 3 objectInit ∈ vv_G := vv_Gin (List.mem_append_right _ (List.mem_append_right _ (List.mem_append_left _ (List.mem_of_getElem? (i := 99) (by decide +kernel))))) (by decide +kernel)
theorem fl_Sheet_9 : Cond.fieldLink R_Sheet 9 (T_Sheet 0).1 (T_Sheet 0).2.1 (T_Sheet 0).2.2.1 ∈ vv_G := vv_Gin (List.mem_append_right _ (List.mem_append_right _ (List.mem_append_left _ (List.mem_of_getElem? (i := 100) rfl)))) rfl
theorem fl_Sheet_15 : Cond.fieldLink R_Sheet 15 (T_Sheet 1).1 (T_Sheet 1).2.1 (T_Sheet 1).2.2.1 ∈ vv_G := vv_Gin (List.mem_append_right _ (List.mem_append_right _ (List.mem_append_left _ (List.mem_of_getElem? (i := 102) rfl)))) rfl
theorem wo_Walks_3 : Cond.methodLink R_Walks 3 objectInit ∈ vv_G := vv_Gin (List.mem_append_right _ (List.mem_append_right _ (List.mem_append_left _ (List.mem_of_getElem? (i := 29) (by decide +kernel))))) (by decide +kernel)
theorem wk_Walks_9 : Cond.classLink R_Walks 9 "[[I" ∈ vv_G := vv_Gin (List.mem_append_right _ (List.mem_append_right _ (List.mem_append_left _ (List.mem_of_getElem? (i := 30) (by decide +kernel))))) (by decide +kernel)
theorem fl_Walks_11 : Cond.fieldLink R_Walks 11 (T_Walks 0).1 (T_Walks 0).2.1 (T_Walks 0).2.2.1 ∈ vv_G := vv_Gin (List.mem_append_right _ (List.mem_append_right _ (List.mem_append_left _ (List.mem_of_getElem? (i := 32) rfl)))) rfl
theorem fl_Walks_16 : Cond.fieldLink R_Walks 16 (T_Walks 1).1 (T_Walks 1).2.1 (T_Walks 1).2.2.1 ∈ vv_G := vv_Gin (List.mem_append_right _ (List.mem_append_right _ (List.mem_append_left _ (List.mem_of_getElem? (i := 33) rfl)))) rfl
theorem d_Land_init_0 : decode b_Land_init 0 = .ok (.aload_n 0, 1) := dc_42 (by decide +kernel)
theorem d_Land_init_1 : decode b_Land_init 1 = .ok (.invokespecial 3, 3) := dc_183 (a := 0) (b := 3) (by decide +kernel) rfl
theorem d_Land_init_4 : decode b_Land_init 4 = .ok (.aload_n 0, 1) := dc_42 (by decide +kernel)
theorem d_Land_init_5 : decode b_Land_init 5 = .ok (.bipush 16, 2) := dc_16 (a := 16) (by decide +kernel) rfl
theorem d_Land_init_7 : decode b_Land_init 7 = .ok (.newarray .int, 2) := by decide +kernel
theorem d_Land_init_9 : decode b_Land_init 9 = .ok (.putfield 9, 3) := dc_181 (a := 0) (b := 9) (by decide +kernel) rfl
theorem d_Land_init_12 : decode b_Land_init 12 = .ok (.aload_n 0, 1) := dc_42 (by decide +kernel)
theorem d_Land_init_13 : decode b_Land_init 13 = .ok (.bipush 16, 2) := dc_16 (a := 16) (by decide +kernel) rfl
theorem d_Land_init_15 : decode b_Land_init 15 = .ok (.newarray .int, 2) := by decide +kernel
theorem d_Land_init_17 : decode b_Land_init 17 = .ok (.putfield 15, 3) := dc_181 (a := 0) (b := 15) (by decide +kernel) rfl
theorem d_Land_init_20 : decode b_Land_init 20 = .ok (.aload_n 0, 1) := dc_42 (by decide +kernel)
theorem d_Land_init_21 : decode b_Land_init 21 = .ok (.bipush 16, 2) := dc_16 (a := 16) (by decide +kernel) rfl
theorem d_Land_init_23 : decode b_Land_init 23 = .ok (.newarray .int, 2) := by decide +kernel
theorem d_Land_init_25 : decode b_Land_init 25 = .ok (.putfield 18, 3) := dc_181 (a := 0) (b := 18) (by decide +kernel) rfl
theorem d_Land_init_28 : decode b_Land_init 28 = .ok (.aload_n 0, 1) := dc_42 (by decide +kernel)
theorem d_Land_init_29 : decode b_Land_init 29 = .ok (.bipush 16, 2) := dc_16 (a := 16) (by decide +kernel) rfl
theorem d_Land_init_31 : decode b_Land_init 31 = .ok (.newarray .int, 2) := by decide +kernel
theorem d_Land_init_33 : decode b_Land_init 33 = .ok (.putfield 21, 3) := dc_181 (a := 0) (b := 21) (by decide +kernel) rfl
theorem d_Land_init_36 : decode b_Land_init 36 = .ok (.aload_n 0, 1) := dc_42 (by decide +kernel)
theorem d_Land_init_37 : decode b_Land_init 37 = .ok (.bipush 16, 2) := dc_16 (a := 16) (by decide +kernel) rfl
theorem d_Land_init_39 : decode b_Land_init 39 = .ok (.newarray .int, 2) := by decide +kernel
theorem d_Land_init_41 : decode b_Land_init 41 = .ok (.putfield 24, 3) := dc_181 (a := 0) (b := 24) (by decide +kernel) rfl
theorem d_Land_init_44 : decode b_Land_init 44 = .ok (.return_, 1) := dc_177 (by decide +kernel)
set_option maxRecDepth 100000 in
theorem k_Land_init (D : va_G) (ca : Nat → ClassId) (a0 : Nat) : Cu y_Land_init b_Land_init 1 1 20 5 80 D ca [.ref a0] [(a0, .inr (2, [.int 0, .int 0, .int 0, .int 0, .null, .null, .null, .null, .null]))] (fun w => ∃ (q1 : Nat) (q2 : Nat) (q3 : Nat) (q4 : Nat) (q5 : Nat), w = [(a0, .inr (2, [.int 0, .int 0, .int 0, .int 0, .ref q1, .ref q2, .ref q3, .ref q4, .ref q5])), (q1, .inl (ca 0, 16, .inl (fun _ => 0))), (q2, .inl (ca 0, 16, .inl (fun _ => 0))), (q3, .inl (ca 0, 16, .inl (fun _ => 0))), (q4, .inl (ca 0, 16, .inl (fun _ => 0))), (q5, .inl (ca 0, 16, .inl (fun _ => 0)))]) := by
  refine cu_of R_Land true [some (.ref a0)] rfl (fun _ => rfl) (by decide) rfl (Nat.le_of_ble_eq_true rfl) ?_
  refine U_aload_n 0 d_Land_init_0 rfl rfl ?_
  refine U_obj wo_Land_3 wo1 wo2 d_Land_init_1 (by decide) (Nat.le_of_ble_eq_true rfl) ?_
  refine U_aload_n 0 d_Land_init_4 rfl rfl ?_
  refine U_bipush 16 d_Land_init_5 (by decide) ?_
  refine U_newI 16 (by decide) (by decide) wa_int (by decide) d_Land_init_7 (by decide) (by decide) (fun q1 => ?_)
  refine U_eq [(a0, .inr (2, [.int 0, .int 0, .int 0, .int 0, .null, .null, .null, .null, .null])), (q1, .inl (ca 0, 16, .inl (fun _ => 0)))] rfl ?_
  refine U_putF (ty := t_Land 4) t_Land 0 rfl rfl i_Land t_Land_ok n_Land (by decide) fl_Land_9 rfl rfl rfl (t_Land_ok 4 (by decide)) rfl rfl (Nat.le_of_ble_eq_true rfl) d_Land_init_9 ?_
  refine U_eq [(a0, .inr (2, [.int 0, .int 0, .int 0, .int 0, .ref q1, .null, .null, .null, .null])), (q1, .inl (ca 0, 16, .inl (fun _ => 0)))] rfl ?_
  refine U_aload_n 0 d_Land_init_12 rfl rfl ?_
  refine U_bipush 16 d_Land_init_13 (by decide) ?_
  refine U_newI 16 (by decide) (by decide) wa_int (by decide) d_Land_init_15 (by decide) (by decide) (fun q2 => ?_)
  refine U_eq [(a0, .inr (2, [.int 0, .int 0, .int 0, .int 0, .ref q1, .null, .null, .null, .null])), (q1, .inl (ca 0, 16, .inl (fun _ => 0))), (q2, .inl (ca 0, 16, .inl (fun _ => 0)))] rfl ?_
  refine U_putF (ty := t_Land 5) t_Land 0 rfl rfl i_Land t_Land_ok n_Land (by decide) fl_Land_15 rfl rfl rfl (t_Land_ok 5 (by decide)) rfl rfl (Nat.le_of_ble_eq_true rfl) d_Land_init_17 ?_
  refine U_eq [(a0, .inr (2, [.int 0, .int 0, .int 0, .int 0, .ref q1, .ref q2, .null, .null, .null])), (q1, .inl (ca 0, 16, .inl (fun _ => 0))), (q2, .inl (ca 0, 16, .inl (fun _ => 0)))] rfl ?_
  refine U_aload_n 0 d_Land_init_20 rfl rfl ?_
  refine U_bipush 16 d_Land_init_21 (by decide) ?_
  refine U_newI 16 (by decide) (by decide) wa_int (by decide) d_Land_init_23 (by decide) (by decide) (fun q3 => ?_)
  refine U_eq [(a0, .inr (2, [.int 0, .int 0, .int 0, .int 0, .ref q1, .ref q2, .null, .null, .null])), (q1, .inl (ca 0, 16, .inl (fun _ => 0))), (q2, .inl (ca 0, 16, .inl (fun _ => 0))), (q3, .inl (ca 0, 16, .inl (fun _ => 0)))] rfl ?_
  refine U_putF (ty := t_Land 6) t_Land 0 rfl rfl i_Land t_Land_ok n_Land (by decide) fl_Land_18 rfl rfl rfl (t_Land_ok 6 (by decide)) rfl rfl (Nat.le_of_ble_eq_true rfl) d_Land_init_25 ?_
  refine U_eq [(a0, .inr (2, [.int 0, .int 0, .int 0, .int 0, .ref q1, .ref q2, .ref q3, .null, .null])), (q1, .inl (ca 0, 16, .inl (fun _ => 0))), (q2, .inl (ca 0, 16, .inl (fun _ => 0))), (q3, .inl (ca 0, 16, .inl (fun _ => 0)))] rfl ?_
  refine U_aload_n 0 d_Land_init_28 rfl rfl ?_
  refine U_bipush 16 d_Land_init_29 (by decide) ?_
  refine U_newI 16 (by decide) (by decide) wa_int (by decide) d_Land_init_31 (by decide) (by decide) (fun q4 => ?_)
  refine U_eq [(a0, .inr (2, [.int 0, .int 0, .int 0, .int 0, .ref q1, .ref q2, .ref q3, .null, .null])), (q1, .inl (ca 0, 16, .inl (fun _ => 0))), (q2, .inl (ca 0, 16, .inl (fun _ => 0))), (q3, .inl (ca 0, 16, .inl (fun _ => 0))), (q4, .inl (ca 0, 16, .inl (fun _ => 0)))] rfl ?_
  refine U_putF (ty := t_Land 7) t_Land 0 rfl rfl i_Land t_Land_ok n_Land (by decide) fl_Land_21 rfl rfl rfl (t_Land_ok 7 (by decide)) rfl rfl (Nat.le_of_ble_eq_true rfl) d_Land_init_33 ?_
  refine U_eq [(a0, .inr (2, [.int 0, .int 0, .int 0, .int 0, .ref q1, .ref q2, .ref q3, .ref q4, .null])), (q1, .inl (ca 0, 16, .inl (fun _ => 0))), (q2, .inl (ca 0, 16, .inl (fun _ => 0))), (q3, .inl (ca 0, 16, .inl (fun _ => 0))), (q4, .inl (ca 0, 16, .inl (fun _ => 0)))] rfl ?_
  refine U_aload_n 0 d_Land_init_36 rfl rfl ?_
  refine U_bipush 16 d_Land_init_37 (by decide) ?_
  refine U_newI 16 (by decide) (by decide) wa_int (by decide) d_Land_init_39 (by decide) (by decide) (fun q5 => ?_)
  refine U_eq [(a0, .inr (2, [.int 0, .int 0, .int 0, .int 0, .ref q1, .ref q2, .ref q3, .ref q4, .null])), (q1, .inl (ca 0, 16, .inl (fun _ => 0))), (q2, .inl (ca 0, 16, .inl (fun _ => 0))), (q3, .inl (ca 0, 16, .inl (fun _ => 0))), (q4, .inl (ca 0, 16, .inl (fun _ => 0))), (q5, .inl (ca 0, 16, .inl (fun _ => 0)))] rfl ?_
  refine U_putF (ty := t_Land 8) t_Land 0 rfl rfl i_Land t_Land_ok n_Land (by decide) fl_Land_24 rfl rfl rfl (t_Land_ok 8 (by decide)) rfl rfl (Nat.le_of_ble_eq_true rfl) d_Land_init_41 ?_
  refine U_eq [(a0, .inr (2, [.int 0, .int 0, .int 0, .int 0, .ref q1, .ref q2, .ref q3, .ref q4, .ref q5])), (q1, .inl (ca 0, 16, .inl (fun _ => 0))), (q2, .inl (ca 0, 16, .inl (fun _ => 0))), (q3, .inl (ca 0, 16, .inl (fun _ => 0))), (q4, .inl (ca 0, 16, .inl (fun _ => 0))), (q5, .inl (ca 0, 16, .inl (fun _ => 0)))] rfl ?_
  exact U_vret d_Land_init_44 ⟨q1, q2, q3, q4, q5, rfl⟩ rfl rfl
theorem d_Ledger_init_0 : decode b_Ledger_init 0 = .ok (.aload_n 0, 1) := dc_42 (by decide +kernel)
theorem d_Ledger_init_1 : decode b_Ledger_init 1 = .ok (.invokespecial 3, 3) := dc_183 (a := 0) (b := 3) (by decide +kernel) rfl
theorem d_Ledger_init_4 : decode b_Ledger_init 4 = .ok (.aload_n 0, 1) := dc_42 (by decide +kernel)
theorem d_Ledger_init_5 : decode b_Ledger_init 5 = .ok (.iconst 4, 1) := dc_7 (by decide +kernel)
theorem d_Ledger_init_6 : decode b_Ledger_init 6 = .ok (.newarray .int, 2) := by decide +kernel
theorem d_Ledger_init_8 : decode b_Ledger_init 8 = .ok (.putfield 9, 3) := dc_181 (a := 0) (b := 9) (by decide +kernel) rfl
theorem d_Ledger_init_11 : decode b_Ledger_init 11 = .ok (.aload_n 0, 1) := dc_42 (by decide +kernel)
theorem d_Ledger_init_12 : decode b_Ledger_init 12 = .ok (.bipush 8, 2) := dc_16 (a := 8) (by decide +kernel) rfl
theorem d_Ledger_init_14 : decode b_Ledger_init 14 = .ok (.newarray .int, 2) := by decide +kernel
theorem d_Ledger_init_16 : decode b_Ledger_init 16 = .ok (.putfield 15, 3) := dc_181 (a := 0) (b := 15) (by decide +kernel) rfl
theorem d_Ledger_init_19 : decode b_Ledger_init 19 = .ok (.aload_n 0, 1) := dc_42 (by decide +kernel)
theorem d_Ledger_init_20 : decode b_Ledger_init 20 = .ok (.bipush 8, 2) := dc_16 (a := 8) (by decide +kernel) rfl
theorem d_Ledger_init_22 : decode b_Ledger_init 22 = .ok (.newarray .int, 2) := by decide +kernel
theorem d_Ledger_init_24 : decode b_Ledger_init 24 = .ok (.putfield 18, 3) := dc_181 (a := 0) (b := 18) (by decide +kernel) rfl
theorem d_Ledger_init_27 : decode b_Ledger_init 27 = .ok (.aload_n 0, 1) := dc_42 (by decide +kernel)
theorem d_Ledger_init_28 : decode b_Ledger_init 28 = .ok (.bipush 8, 2) := dc_16 (a := 8) (by decide +kernel) rfl
theorem d_Ledger_init_30 : decode b_Ledger_init 30 = .ok (.newarray .int, 2) := by decide +kernel
theorem d_Ledger_init_32 : decode b_Ledger_init 32 = .ok (.putfield 21, 3) := dc_181 (a := 0) (b := 21) (by decide +kernel) rfl
theorem d_Ledger_init_35 : decode b_Ledger_init 35 = .ok (.return_, 1) := dc_177 (by decide +kernel)
set_option maxRecDepth 100000 in
theorem k_Ledger_init (D : va_G) (ca : Nat → ClassId) (a0 : Nat) : Cu y_Ledger_init b_Ledger_init 1 1 20 4 28 D ca [.ref a0] [(a0, .inr (3, [.null, .null, .null, .null, .int 0]))] (fun w => ∃ (q1 : Nat) (q2 : Nat) (q3 : Nat) (q4 : Nat), w = [(a0, .inr (3, [.ref q1, .ref q2, .ref q3, .ref q4, .int 0])), (q1, .inl (ca 0, 4, .inl (fun _ => 0))), (q2, .inl (ca 0, 8, .inl (fun _ => 0))), (q3, .inl (ca 0, 8, .inl (fun _ => 0))), (q4, .inl (ca 0, 8, .inl (fun _ => 0)))]) := by
  refine cu_of R_Ledger true [some (.ref a0)] rfl (fun _ => rfl) (by decide) rfl (Nat.le_of_ble_eq_true rfl) ?_
  refine U_aload_n 0 d_Ledger_init_0 rfl rfl ?_
  refine U_obj wo_Ledger_3 wo1 wo2 d_Ledger_init_1 (by decide) (Nat.le_of_ble_eq_true rfl) ?_
  refine U_aload_n 0 d_Ledger_init_4 rfl rfl ?_
  refine U_iconst 4 d_Ledger_init_5 (by decide) ?_
  refine U_newI 4 (by decide) (by decide) wa_int (by decide) d_Ledger_init_6 (by decide) (by decide) (fun q1 => ?_)
  refine U_eq [(a0, .inr (3, [.null, .null, .null, .null, .int 0])), (q1, .inl (ca 0, 4, .inl (fun _ => 0)))] rfl ?_
  refine U_putF (ty := t_Ledger 0) t_Ledger 0 rfl rfl i_Ledger t_Ledger_ok n_Ledger (by decide) fl_Ledger_9 rfl rfl rfl (t_Ledger_ok 0 (by decide)) rfl rfl (Nat.le_of_ble_eq_true rfl) d_Ledger_init_8 ?_
  refine U_eq [(a0, .inr (3, [.ref q1, .null, .null, .null, .int 0])), (q1, .inl (ca 0, 4, .inl (fun _ => 0)))] rfl ?_
  refine U_aload_n 0 d_Ledger_init_11 rfl rfl ?_
  refine U_bipush 8 d_Ledger_init_12 (by decide) ?_
  refine U_newI 8 (by decide) (by decide) wa_int (by decide) d_Ledger_init_14 (by decide) (by decide) (fun q2 => ?_)
  refine U_eq [(a0, .inr (3, [.ref q1, .null, .null, .null, .int 0])), (q1, .inl (ca 0, 4, .inl (fun _ => 0))), (q2, .inl (ca 0, 8, .inl (fun _ => 0)))] rfl ?_
  refine U_putF (ty := t_Ledger 1) t_Ledger 0 rfl rfl i_Ledger t_Ledger_ok n_Ledger (by decide) fl_Ledger_15 rfl rfl rfl (t_Ledger_ok 1 (by decide)) rfl rfl (Nat.le_of_ble_eq_true rfl) d_Ledger_init_16 ?_
  refine U_eq [(a0, .inr (3, [.ref q1, .ref q2, .null, .null, .int 0])), (q1, .inl (ca 0, 4, .inl (fun _ => 0))), (q2, .inl (ca 0, 8, .inl (fun _ => 0)))] rfl ?_
  refine U_aload_n 0 d_Ledger_init_19 rfl rfl ?_
  refine U_bipush 8 d_Ledger_init_20 (by decide) ?_
  refine U_newI 8 (by decide) (by decide) wa_int (by decide) d_Ledger_init_22 (by decide) (by decide) (fun q3 => ?_)
  refine U_eq [(a0, .inr (3, [.ref q1, .ref q2, .null, .null, .int 0])), (q1, .inl (ca 0, 4, .inl (fun _ => 0))), (q2, .inl (ca 0, 8, .inl (fun _ => 0))), (q3, .inl (ca 0, 8, .inl (fun _ => 0)))] rfl ?_
  refine U_putF (ty := t_Ledger 2) t_Ledger 0 rfl rfl i_Ledger t_Ledger_ok n_Ledger (by decide) fl_Ledger_18 rfl rfl rfl (t_Ledger_ok 2 (by decide)) rfl rfl (Nat.le_of_ble_eq_true rfl) d_Ledger_init_24 ?_
  refine U_eq [(a0, .inr (3, [.ref q1, .ref q2, .ref q3, .null, .int 0])), (q1, .inl (ca 0, 4, .inl (fun _ => 0))), (q2, .inl (ca 0, 8, .inl (fun _ => 0))), (q3, .inl (ca 0, 8, .inl (fun _ => 0)))] rfl ?_
  refine U_aload_n 0 d_Ledger_init_27 rfl rfl ?_
  refine U_bipush 8 d_Ledger_init_28 (by decide) ?_
  refine U_newI 8 (by decide) (by decide) wa_int (by decide) d_Ledger_init_30 (by decide) (by decide) (fun q4 => ?_)
  refine U_eq [(a0, .inr (3, [.ref q1, .ref q2, .ref q3, .null, .int 0])), (q1, .inl (ca 0, 4, .inl (fun _ => 0))), (q2, .inl (ca 0, 8, .inl (fun _ => 0))), (q3, .inl (ca 0, 8, .inl (fun _ => 0))), (q4, .inl (ca 0, 8, .inl (fun _ => 0)))] rfl ?_
  refine U_putF (ty := t_Ledger 3) t_Ledger 0 rfl rfl i_Ledger t_Ledger_ok n_Ledger (by decide) fl_Ledger_21 rfl rfl rfl (t_Ledger_ok 3 (by decide)) rfl rfl (Nat.le_of_ble_eq_true rfl) d_Ledger_init_32 ?_
  refine U_eq [(a0, .inr (3, [.ref q1, .ref q2, .ref q3, .ref q4, .int 0])), (q1, .inl (ca 0, 4, .inl (fun _ => 0))), (q2, .inl (ca 0, 8, .inl (fun _ => 0))), (q3, .inl (ca 0, 8, .inl (fun _ => 0))), (q4, .inl (ca 0, 8, .inl (fun _ => 0)))] rfl ?_
  exact U_vret d_Ledger_init_35 ⟨q1, q2, q3, q4, rfl⟩ rfl rfl
theorem d_Sights_init_0 : decode b_Sights_init 0 = .ok (.aload_n 0, 1) := dc_42 (by decide +kernel)
theorem d_Sights_init_1 : decode b_Sights_init 1 = .ok (.invokespecial 3, 3) := dc_183 (a := 0) (b := 3) (by decide +kernel) rfl
theorem d_Sights_init_4 : decode b_Sights_init 4 = .ok (.aload_n 0, 1) := dc_42 (by decide +kernel)
theorem d_Sights_init_5 : decode b_Sights_init 5 = .ok (.bipush 8, 2) := dc_16 (a := 8) (by decide +kernel) rfl
theorem d_Sights_init_7 : decode b_Sights_init 7 = .ok (.newarray .int, 2) := by decide +kernel
theorem d_Sights_init_9 : decode b_Sights_init 9 = .ok (.putfield 9, 3) := dc_181 (a := 0) (b := 9) (by decide +kernel) rfl
theorem d_Sights_init_12 : decode b_Sights_init 12 = .ok (.aload_n 0, 1) := dc_42 (by decide +kernel)
theorem d_Sights_init_13 : decode b_Sights_init 13 = .ok (.bipush 8, 2) := dc_16 (a := 8) (by decide +kernel) rfl
theorem d_Sights_init_15 : decode b_Sights_init 15 = .ok (.newarray .int, 2) := by decide +kernel
theorem d_Sights_init_17 : decode b_Sights_init 17 = .ok (.putfield 15, 3) := dc_181 (a := 0) (b := 15) (by decide +kernel) rfl
theorem d_Sights_init_20 : decode b_Sights_init 20 = .ok (.aload_n 0, 1) := dc_42 (by decide +kernel)
theorem d_Sights_init_21 : decode b_Sights_init 21 = .ok (.bipush 8, 2) := dc_16 (a := 8) (by decide +kernel) rfl
theorem d_Sights_init_23 : decode b_Sights_init 23 = .ok (.newarray .int, 2) := by decide +kernel
theorem d_Sights_init_25 : decode b_Sights_init 25 = .ok (.putfield 18, 3) := dc_181 (a := 0) (b := 18) (by decide +kernel) rfl
theorem d_Sights_init_28 : decode b_Sights_init 28 = .ok (.aload_n 0, 1) := dc_42 (by decide +kernel)
theorem d_Sights_init_29 : decode b_Sights_init 29 = .ok (.bipush 8, 2) := dc_16 (a := 8) (by decide +kernel) rfl
theorem d_Sights_init_31 : decode b_Sights_init 31 = .ok (.newarray .int, 2) := by decide +kernel
theorem d_Sights_init_33 : decode b_Sights_init 33 = .ok (.putfield 21, 3) := dc_181 (a := 0) (b := 21) (by decide +kernel) rfl
theorem d_Sights_init_36 : decode b_Sights_init 36 = .ok (.return_, 1) := dc_177 (by decide +kernel)
set_option maxRecDepth 100000 in
theorem k_Sights_init (D : va_G) (ca : Nat → ClassId) (a0 : Nat) : Cu y_Sights_init b_Sights_init 1 1 20 4 32 D ca [.ref a0] [(a0, .inr (7, [.null, .null, .null, .null, .int 0]))] (fun w => ∃ (q1 : Nat) (q2 : Nat) (q3 : Nat) (q4 : Nat), w = [(a0, .inr (7, [.ref q1, .ref q2, .ref q3, .ref q4, .int 0])), (q1, .inl (ca 0, 8, .inl (fun _ => 0))), (q2, .inl (ca 0, 8, .inl (fun _ => 0))), (q3, .inl (ca 0, 8, .inl (fun _ => 0))), (q4, .inl (ca 0, 8, .inl (fun _ => 0)))]) := by
  refine cu_of R_Sights true [some (.ref a0)] rfl (fun _ => rfl) (by decide) rfl (Nat.le_of_ble_eq_true rfl) ?_
  refine U_aload_n 0 d_Sights_init_0 rfl rfl ?_
  refine U_obj wo_Sights_3 wo1 wo2 d_Sights_init_1 (by decide) (Nat.le_of_ble_eq_true rfl) ?_
  refine U_aload_n 0 d_Sights_init_4 rfl rfl ?_
  refine U_bipush 8 d_Sights_init_5 (by decide) ?_
  refine U_newI 8 (by decide) (by decide) wa_int (by decide) d_Sights_init_7 (by decide) (by decide) (fun q1 => ?_)
  refine U_eq [(a0, .inr (7, [.null, .null, .null, .null, .int 0])), (q1, .inl (ca 0, 8, .inl (fun _ => 0)))] rfl ?_
  refine U_putF (ty := t_Sights 0) t_Sights 0 rfl rfl i_Sights t_Sights_ok n_Sights (by decide) fl_Sights_9 rfl rfl rfl (t_Sights_ok 0 (by decide)) rfl rfl (Nat.le_of_ble_eq_true rfl) d_Sights_init_9 ?_
  refine U_eq [(a0, .inr (7, [.ref q1, .null, .null, .null, .int 0])), (q1, .inl (ca 0, 8, .inl (fun _ => 0)))] rfl ?_
  refine U_aload_n 0 d_Sights_init_12 rfl rfl ?_
  refine U_bipush 8 d_Sights_init_13 (by decide) ?_
  refine U_newI 8 (by decide) (by decide) wa_int (by decide) d_Sights_init_15 (by decide) (by decide) (fun q2 => ?_)
  refine U_eq [(a0, .inr (7, [.ref q1, .null, .null, .null, .int 0])), (q1, .inl (ca 0, 8, .inl (fun _ => 0))), (q2, .inl (ca 0, 8, .inl (fun _ => 0)))] rfl ?_
  refine U_putF (ty := t_Sights 1) t_Sights 0 rfl rfl i_Sights t_Sights_ok n_Sights (by decide) fl_Sights_15 rfl rfl rfl (t_Sights_ok 1 (by decide)) rfl rfl (Nat.le_of_ble_eq_true rfl) d_Sights_init_17 ?_
  refine U_eq [(a0, .inr (7, [.ref q1, .ref q2, .null, .null, .int 0])), (q1, .inl (ca 0, 8, .inl (fun _ => 0))), (q2, .inl (ca 0, 8, .inl (fun _ => 0)))] rfl ?_
  refine U_aload_n 0 d_Sights_init_20 rfl rfl ?_
  refine U_bipush 8 d_Sights_init_21 (by decide) ?_
  refine U_newI 8 (by decide) (by decide) wa_int (by decide) d_Sights_init_23 (by decide) (by decide) (fun q3 => ?_)
  refine U_eq [(a0, .inr (7, [.ref q1, .ref q2, .null, .null, .int 0])), (q1, .inl (ca 0, 8, .inl (fun _ => 0))), (q2, .inl (ca 0, 8, .inl (fun _ => 0))), (q3, .inl (ca 0, 8, .inl (fun _ => 0)))] rfl ?_
  refine U_putF (ty := t_Sights 2) t_Sights 0 rfl rfl i_Sights t_Sights_ok n_Sights (by decide) fl_Sights_18 rfl rfl rfl (t_Sights_ok 2 (by decide)) rfl rfl (Nat.le_of_ble_eq_true rfl) d_Sights_init_25 ?_
  refine U_eq [(a0, .inr (7, [.ref q1, .ref q2, .ref q3, .null, .int 0])), (q1, .inl (ca 0, 8, .inl (fun _ => 0))), (q2, .inl (ca 0, 8, .inl (fun _ => 0))), (q3, .inl (ca 0, 8, .inl (fun _ => 0)))] rfl ?_
  refine U_aload_n 0 d_Sights_init_28 rfl rfl ?_
  refine U_bipush 8 d_Sights_init_29 (by decide) ?_
  refine U_newI 8 (by decide) (by decide) wa_int (by decide) d_Sights_init_31 (by decide) (by decide) (fun q4 => ?_)
  refine U_eq [(a0, .inr (7, [.ref q1, .ref q2, .ref q3, .null, .int 0])), (q1, .inl (ca 0, 8, .inl (fun _ => 0))), (q2, .inl (ca 0, 8, .inl (fun _ => 0))), (q3, .inl (ca 0, 8, .inl (fun _ => 0))), (q4, .inl (ca 0, 8, .inl (fun _ => 0)))] rfl ?_
  refine U_putF (ty := t_Sights 3) t_Sights 0 rfl rfl i_Sights t_Sights_ok n_Sights (by decide) fl_Sights_21 rfl rfl rfl (t_Sights_ok 3 (by decide)) rfl rfl (Nat.le_of_ble_eq_true rfl) d_Sights_init_33 ?_
  refine U_eq [(a0, .inr (7, [.ref q1, .ref q2, .ref q3, .ref q4, .int 0])), (q1, .inl (ca 0, 8, .inl (fun _ => 0))), (q2, .inl (ca 0, 8, .inl (fun _ => 0))), (q3, .inl (ca 0, 8, .inl (fun _ => 0))), (q4, .inl (ca 0, 8, .inl (fun _ => 0)))] rfl ?_
  exact U_vret d_Sights_init_36 ⟨q1, q2, q3, q4, rfl⟩ rfl rfl
set_option maxRecDepth 100000 in
theorem k_Land_reset (D : va_G) (ca : Nat → ClassId) (a0 : Nat) (a1 : Nat) (a2 : Nat) (a3 : Nat) (a4 : Nat) (a5 : Nat) : Cu y_Land_reset b_Land_reset 1 1 23 0 0 D ca [.ref a0] [(a0, .inr (2, [.int 0, .int 0, .int 0, .int 0, .ref a1, .ref a2, .ref a3, .ref a4, .ref a5])), (a1, .inl (ca 0, 16, .inl (fun _ => 0))), (a2, .inl (ca 0, 16, .inl (fun _ => 0))), (a3, .inl (ca 0, 16, .inl (fun _ => 0))), (a4, .inl (ca 0, 16, .inl (fun _ => 0))), (a5, .inl (ca 0, 16, .inl (fun _ => 0)))] (fun w => w = [(a0, .inr (2, [.int 3, .int 3, .int 1, .int 10, .ref a1, .ref a2, .ref a3, .ref a4, .ref a5])), (a1, .inl (ca 0, 16, .inl (fun _ => 0))), (a2, .inl (ca 0, 16, .inl (fun _ => 0))), (a3, .inl (ca 0, 16, .inl (fun _ => 5))), (a4, .inl (ca 0, 16, .inl (fun _ => (-4)))), (a5, .inl (ca 0, 16, .inl (fun _ => 0)))]) := by
  refine cu_of R_Land false [some (.ref a0)] rfl (fun q => by cases q) (by decide) rfl (Nat.le_of_ble_eq_true rfl) ?_
  refine U_aload_n 0 d_Land_reset_0 rfl rfl ?_
  refine U_iconst 3 d_Land_reset_1 (by decide) ?_
  refine U_putI t_Land 0 rfl rfl i_Land t_Land_ok n_Land (by decide) fl_Land_27 rfl (t_Land_ok 0 (by decide)) (Nat.le_of_ble_eq_true rfl) d_Land_reset_2 ?_
  refine U_eq [(a0, .inr (2, [.int 3, .int 0, .int 0, .int 0, .ref a1, .ref a2, .ref a3, .ref a4, .ref a5])), (a1, .inl (ca 0, 16, .inl (fun _ => 0))), (a2, .inl (ca 0, 16, .inl (fun _ => 0))), (a3, .inl (ca 0, 16, .inl (fun _ => 0))), (a4, .inl (ca 0, 16, .inl (fun _ => 0))), (a5, .inl (ca 0, 16, .inl (fun _ => 0)))] rfl ?_
  refine U_aload_n 0 d_Land_reset_5 rfl rfl ?_
  refine U_iconst 3 d_Land_reset_6 (by decide) ?_
  refine U_putI t_Land 0 rfl rfl i_Land t_Land_ok n_Land (by decide) fl_Land_31 rfl (t_Land_ok 1 (by decide)) (Nat.le_of_ble_eq_true rfl) d_Land_reset_7 ?_
  refine U_eq [(a0, .inr (2, [.int 3, .int 3, .int 0, .int 0, .ref a1, .ref a2, .ref a3, .ref a4, .ref a5])), (a1, .inl (ca 0, 16, .inl (fun _ => 0))), (a2, .inl (ca 0, 16, .inl (fun _ => 0))), (a3, .inl (ca 0, 16, .inl (fun _ => 0))), (a4, .inl (ca 0, 16, .inl (fun _ => 0))), (a5, .inl (ca 0, 16, .inl (fun _ => 0)))] rfl ?_
  refine U_aload_n 0 d_Land_reset_10 rfl rfl ?_
  refine U_iconst 1 d_Land_reset_11 (by decide) ?_
  refine U_putI t_Land 0 rfl rfl i_Land t_Land_ok n_Land (by decide) fl_Land_34 rfl (t_Land_ok 2 (by decide)) (Nat.le_of_ble_eq_true rfl) d_Land_reset_12 ?_
  refine U_eq [(a0, .inr (2, [.int 3, .int 3, .int 1, .int 0, .ref a1, .ref a2, .ref a3, .ref a4, .ref a5])), (a1, .inl (ca 0, 16, .inl (fun _ => 0))), (a2, .inl (ca 0, 16, .inl (fun _ => 0))), (a3, .inl (ca 0, 16, .inl (fun _ => 0))), (a4, .inl (ca 0, 16, .inl (fun _ => 0))), (a5, .inl (ca 0, 16, .inl (fun _ => 0)))] rfl ?_
  refine U_aload_n 0 d_Land_reset_15 rfl rfl ?_
  refine U_bipush 10 d_Land_reset_16 (by decide) ?_
  refine U_putI t_Land 0 rfl rfl i_Land t_Land_ok n_Land (by decide) fl_Land_37 rfl (t_Land_ok 3 (by decide)) (Nat.le_of_ble_eq_true rfl) d_Land_reset_18 ?_
  refine U_eq [(a0, .inr (2, [.int 3, .int 3, .int 1, .int 10, .ref a1, .ref a2, .ref a3, .ref a4, .ref a5])), (a1, .inl (ca 0, 16, .inl (fun _ => 0))), (a2, .inl (ca 0, 16, .inl (fun _ => 0))), (a3, .inl (ca 0, 16, .inl (fun _ => 0))), (a4, .inl (ca 0, 16, .inl (fun _ => 0))), (a5, .inl (ca 0, 16, .inl (fun _ => 0)))] rfl ?_
  refine U_aload_n 0 d_Land_reset_21 rfl rfl ?_
  refine U_get (.ref a1) 0 fa_Land_9 rfl rfl d_Land_reset_22 ?_
  refine U_iconst 0 d_Land_reset_25 (by decide) ?_
  refine U_callS [.ref a1, .int 0] [(a0, .inr (2, [.int 3, .int 3, .int 1, .int 10, .ref a1, .ref a2, .ref a3, .ref a4, .ref a5])), (a2, .inl (ca 0, 16, .inl (fun _ => 0))), (a3, .inl (ca 0, 16, .inl (fun _ => 0))), (a4, .inl (ca 0, 16, .inl (fun _ => 0))), (a5, .inl (ca 0, 16, .inl (fun _ => 0)))] [] [1] [0, 2, 3, 4, 5] cs_Land_40 rfl rfl (by decide) (by decide) (by decide) (by decide +kernel) d_Land_reset_26 rfl (Nat.le_of_ble_eq_true rfl) (by decide) (by decide) (by decide) (by decide) (k_fill D ca a1 16 (by decide) _ 0) (fun w1 hw => ?_)
  subst hw
  refine U_eq [(a0, .inr (2, [.int 3, .int 3, .int 1, .int 10, .ref a1, .ref a2, .ref a3, .ref a4, .ref a5])), (a2, .inl (ca 0, 16, .inl (fun _ => 0))), (a3, .inl (ca 0, 16, .inl (fun _ => 0))), (a4, .inl (ca 0, 16, .inl (fun _ => 0))), (a5, .inl (ca 0, 16, .inl (fun _ => 0))), (a1, .inl (ca 0, 16, .inl (fun _ => 0)))] rfl ?_
  refine U_aload_n 0 d_Land_reset_29 rfl rfl ?_
  refine U_get (.ref a2) 0 fa_Land_15 rfl rfl d_Land_reset_30 ?_
  refine U_iconst 0 d_Land_reset_33 (by decide) ?_
  refine U_callS [.ref a2, .int 0] [(a0, .inr (2, [.int 3, .int 3, .int 1, .int 10, .ref a1, .ref a2, .ref a3, .ref a4, .ref a5])), (a3, .inl (ca 0, 16, .inl (fun _ => 0))), (a4, .inl (ca 0, 16, .inl (fun _ => 0))), (a5, .inl (ca 0, 16, .inl (fun _ => 0))), (a1, .inl (ca 0, 16, .inl (fun _ => 0)))] [] [1] [0, 2, 3, 4, 5] cs_Land_40 rfl rfl (by decide) (by decide) (by decide) (by decide +kernel) d_Land_reset_34 rfl (Nat.le_of_ble_eq_true rfl) (by decide) (by decide) (by decide) (by decide) (k_fill D ca a2 16 (by decide) _ 0) (fun w1 hw => ?_)
  subst hw
  refine U_eq [(a0, .inr (2, [.int 3, .int 3, .int 1, .int 10, .ref a1, .ref a2, .ref a3, .ref a4, .ref a5])), (a3, .inl (ca 0, 16, .inl (fun _ => 0))), (a4, .inl (ca 0, 16, .inl (fun _ => 0))), (a5, .inl (ca 0, 16, .inl (fun _ => 0))), (a1, .inl (ca 0, 16, .inl (fun _ => 0))), (a2, .inl (ca 0, 16, .inl (fun _ => 0)))] rfl ?_
  refine U_aload_n 0 d_Land_reset_37 rfl rfl ?_
  refine U_get (.ref a3) 0 fa_Land_18 rfl rfl d_Land_reset_38 ?_
  refine U_iconst 5 d_Land_reset_41 (by decide) ?_
  refine U_callS [.ref a3, .int 5] [(a0, .inr (2, [.int 3, .int 3, .int 1, .int 10, .ref a1, .ref a2, .ref a3, .ref a4, .ref a5])), (a4, .inl (ca 0, 16, .inl (fun _ => 0))), (a5, .inl (ca 0, 16, .inl (fun _ => 0))), (a1, .inl (ca 0, 16, .inl (fun _ => 0))), (a2, .inl (ca 0, 16, .inl (fun _ => 0)))] [] [1] [0, 2, 3, 4, 5] cs_Land_40 rfl rfl (by decide) (by decide) (by decide) (by decide +kernel) d_Land_reset_42 rfl (Nat.le_of_ble_eq_true rfl) (by decide) (by decide) (by decide) (by decide) (k_fill D ca a3 16 (by decide) _ 5) (fun w1 hw => ?_)
  subst hw
  refine U_eq [(a0, .inr (2, [.int 3, .int 3, .int 1, .int 10, .ref a1, .ref a2, .ref a3, .ref a4, .ref a5])), (a4, .inl (ca 0, 16, .inl (fun _ => 0))), (a5, .inl (ca 0, 16, .inl (fun _ => 0))), (a1, .inl (ca 0, 16, .inl (fun _ => 0))), (a2, .inl (ca 0, 16, .inl (fun _ => 0))), (a3, .inl (ca 0, 16, .inl (fun _ => 5)))] rfl ?_
  refine U_aload_n 0 d_Land_reset_45 rfl rfl ?_
  refine U_get (.ref a4) 0 fa_Land_21 rfl rfl d_Land_reset_46 ?_
  refine U_bipush (-4) d_Land_reset_49 (by decide) ?_
  refine U_callS [.ref a4, .int (-4)] [(a0, .inr (2, [.int 3, .int 3, .int 1, .int 10, .ref a1, .ref a2, .ref a3, .ref a4, .ref a5])), (a5, .inl (ca 0, 16, .inl (fun _ => 0))), (a1, .inl (ca 0, 16, .inl (fun _ => 0))), (a2, .inl (ca 0, 16, .inl (fun _ => 0))), (a3, .inl (ca 0, 16, .inl (fun _ => 5)))] [] [1] [0, 2, 3, 4, 5] cs_Land_40 rfl rfl (by decide) (by decide) (by decide) (by decide +kernel) d_Land_reset_51 rfl (Nat.le_of_ble_eq_true rfl) (by decide) (by decide) (by decide) (by decide) (k_fill D ca a4 16 (by decide) _ (-4)) (fun w1 hw => ?_)
  subst hw
  refine U_eq [(a0, .inr (2, [.int 3, .int 3, .int 1, .int 10, .ref a1, .ref a2, .ref a3, .ref a4, .ref a5])), (a5, .inl (ca 0, 16, .inl (fun _ => 0))), (a1, .inl (ca 0, 16, .inl (fun _ => 0))), (a2, .inl (ca 0, 16, .inl (fun _ => 0))), (a3, .inl (ca 0, 16, .inl (fun _ => 5))), (a4, .inl (ca 0, 16, .inl (fun _ => (-4))))] rfl ?_
  refine U_aload_n 0 d_Land_reset_54 rfl rfl ?_
  refine U_get (.ref a5) 0 fa_Land_24 rfl rfl d_Land_reset_55 ?_
  refine U_iconst 0 d_Land_reset_58 (by decide) ?_
  refine U_callS [.ref a5, .int 0] [(a0, .inr (2, [.int 3, .int 3, .int 1, .int 10, .ref a1, .ref a2, .ref a3, .ref a4, .ref a5])), (a1, .inl (ca 0, 16, .inl (fun _ => 0))), (a2, .inl (ca 0, 16, .inl (fun _ => 0))), (a3, .inl (ca 0, 16, .inl (fun _ => 5))), (a4, .inl (ca 0, 16, .inl (fun _ => (-4))))] [] [1] [0, 2, 3, 4, 5] cs_Land_40 rfl rfl (by decide) (by decide) (by decide) (by decide +kernel) d_Land_reset_59 rfl (Nat.le_of_ble_eq_true rfl) (by decide) (by decide) (by decide) (by decide) (k_fill D ca a5 16 (by decide) _ 0) (fun w1 hw => ?_)
  subst hw
  refine U_eq [(a0, .inr (2, [.int 3, .int 3, .int 1, .int 10, .ref a1, .ref a2, .ref a3, .ref a4, .ref a5])), (a1, .inl (ca 0, 16, .inl (fun _ => 0))), (a2, .inl (ca 0, 16, .inl (fun _ => 0))), (a3, .inl (ca 0, 16, .inl (fun _ => 5))), (a4, .inl (ca 0, 16, .inl (fun _ => (-4)))), (a5, .inl (ca 0, 16, .inl (fun _ => 0)))] rfl ?_
  exact U_vret d_Land_reset_62 rfl rfl rfl
set_option maxRecDepth 100000 in
theorem k_Ledger_reset (D : va_G) (ca : Nat → ClassId) (a0 : Nat) (a1 : Nat) (a2 : Nat) (a3 : Nat) (a4 : Nat) : Cu y_Ledger_reset b_Ledger_reset 1 1 23 0 0 D ca [.ref a0] [(a0, .inr (3, [.ref a1, .ref a2, .ref a3, .ref a4, .int 0])), (a1, .inl (ca 0, 4, .inl (fun _ => 0))), (a2, .inl (ca 0, 8, .inl (fun _ => 0))), (a3, .inl (ca 0, 8, .inl (fun _ => 0))), (a4, .inl (ca 0, 8, .inl (fun _ => 0)))] (fun w => w = [(a0, .inr (3, [.ref a1, .ref a2, .ref a3, .ref a4, .int 0])), (a2, .inl (ca 0, 8, .inl (fun _ => 0))), (a3, .inl (ca 0, 8, .inl (fun _ => 0))), (a4, .inl (ca 0, 8, .inl (fun _ => 0))), (a1, .inl (ca 0, 4, .inl (fun _ => 0)))]) := by
  refine cu_of R_Ledger false [some (.ref a0)] rfl (fun q => by cases q) (by decide) rfl (Nat.le_of_ble_eq_true rfl) ?_
  refine U_aload_n 0 d_Ledger_reset_0 rfl rfl ?_
  refine U_get (.ref a1) 0 fa_Ledger_9 rfl rfl d_Ledger_reset_1 ?_
  refine U_iconst 0 d_Ledger_reset_4 (by decide) ?_
  refine U_callS [.ref a1, .int 0] [(a0, .inr (3, [.ref a1, .ref a2, .ref a3, .ref a4, .int 0])), (a2, .inl (ca 0, 8, .inl (fun _ => 0))), (a3, .inl (ca 0, 8, .inl (fun _ => 0))), (a4, .inl (ca 0, 8, .inl (fun _ => 0)))] [] [1] [0, 2, 3, 4] cs_Ledger_24 rfl rfl (by decide) (by decide) (by decide) (by decide +kernel) d_Ledger_reset_5 rfl (Nat.le_of_ble_eq_true rfl) (by decide) (by decide) (by decide) (by decide) (k_fill D ca a1 4 (by decide) _ 0) (fun w1 hw => ?_)
  subst hw
  refine U_eq [(a0, .inr (3, [.ref a1, .ref a2, .ref a3, .ref a4, .int 0])), (a2, .inl (ca 0, 8, .inl (fun _ => 0))), (a3, .inl (ca 0, 8, .inl (fun _ => 0))), (a4, .inl (ca 0, 8, .inl (fun _ => 0))), (a1, .inl (ca 0, 4, .inl (fun _ => 0)))] rfl ?_
  refine U_aload_n 0 d_Ledger_reset_8 rfl rfl ?_
  refine U_iconst 0 d_Ledger_reset_9 (by decide) ?_
  refine U_putI t_Ledger 0 rfl rfl i_Ledger t_Ledger_ok n_Ledger (by decide) fl_Ledger_30 rfl (t_Ledger_ok 4 (by decide)) (Nat.le_of_ble_eq_true rfl) d_Ledger_reset_10 ?_
  refine U_eq [(a0, .inr (3, [.ref a1, .ref a2, .ref a3, .ref a4, .int 0])), (a2, .inl (ca 0, 8, .inl (fun _ => 0))), (a3, .inl (ca 0, 8, .inl (fun _ => 0))), (a4, .inl (ca 0, 8, .inl (fun _ => 0))), (a1, .inl (ca 0, 4, .inl (fun _ => 0)))] rfl ?_
  exact U_vret d_Ledger_reset_13 rfl rfl rfl
set_option maxRecDepth 100000 in
theorem k_County_reset (D : va_G) (ca : Nat → ClassId) (a0 : Nat) (a1 : Nat) (a2 : Nat) (a3 : Nat) (a4 : Nat) (a5 : Nat) (a6 : Nat) (a7 : Nat) (a8 : Nat) (a9 : Nat) (a10 : Nat) (a11 : Nat) (a12 : Nat) (a13 : Nat) (a14 : Nat) (a15 : Nat) (a16 : Nat) : Cu y_County_reset b_County_reset 1 2 43 0 0 D ca [.ref a0] [(a0, .inr (1, [.ref a1, .ref a7, .ref a12, .int 0, .int 0])), (a1, .inr (2, [.int 0, .int 0, .int 0, .int 0, .ref a2, .ref a3, .ref a4, .ref a5, .ref a6])), (a2, .inl (ca 0, 16, .inl (fun _ => 0))), (a3, .inl (ca 0, 16, .inl (fun _ => 0))), (a4, .inl (ca 0, 16, .inl (fun _ => 0))), (a5, .inl (ca 0, 16, .inl (fun _ => 0))), (a6, .inl (ca 0, 16, .inl (fun _ => 0))), (a7, .inr (3, [.ref a8, .ref a9, .ref a10, .ref a11, .int 0])), (a8, .inl (ca 0, 4, .inl (fun _ => 0))), (a9, .inl (ca 0, 8, .inl (fun _ => 0))), (a10, .inl (ca 0, 8, .inl (fun _ => 0))), (a11, .inl (ca 0, 8, .inl (fun _ => 0))), (a12, .inr (7, [.ref a13, .ref a14, .ref a15, .ref a16, .int 0])), (a13, .inl (ca 0, 8, .inl (fun _ => 0))), (a14, .inl (ca 0, 8, .inl (fun _ => 0))), (a15, .inl (ca 0, 8, .inl (fun _ => 0))), (a16, .inl (ca 0, 8, .inl (fun _ => 0)))] (fun w => w = [(a0, .inr (1, [.ref a1, .ref a7, .ref a12, .int 0, .int 9])), (a12, .inr (7, [.ref a13, .ref a14, .ref a15, .ref a16, .int 0])), (a13, .inl (ca 0, 8, .inl (fun _ => 0))), (a14, .inl (ca 0, 8, .inl (fun _ => 0))), (a15, .inl (ca 0, 8, .inl (fun _ => 0))), (a16, .inl (ca 0, 8, .inl (fun _ => 0))), (a1, .inr (2, [.int 3, .int 3, .int 1, .int 10, .ref a2, .ref a3, .ref a4, .ref a5, .ref a6])), (a2, .inl (ca 0, 16, .inl (fun _ => 0))), (a3, .inl (ca 0, 16, .inl (fun _ => 0))), (a4, .inl (ca 0, 16, .inl (fun _ => 5))), (a5, .inl (ca 0, 16, .inl (fun _ => (-4)))), (a6, .inl (ca 0, 16, .inl (fun _ => 0))), (a7, .inr (3, [.ref a8, .ref a9, .ref a10, .ref a11, .int 0])), (a9, .inl (ca 0, 8, .inl (fun _ => 0))), (a10, .inl (ca 0, 8, .inl (fun _ => 0))), (a11, .inl (ca 0, 8, .inl (fun _ => 0))), (a8, .inl (ca 0, 4, .inl (fun _ => 0)))]) := by
  refine cu_of R_County false [some (.ref a0)] rfl (fun q => by cases q) (by decide) rfl (Nat.le_of_ble_eq_true rfl) ?_
  refine U_aload_n 0 d_County_reset_0 rfl rfl ?_
  refine U_get (.ref a1) 0 fa_County_12 rfl rfl d_County_reset_1 ?_
  refine U_callV (qb := 1) [(a0, .inr (1, [.ref a1, .ref a7, .ref a12, .int 0, .int 0])), (a7, .inr (3, [.ref a8, .ref a9, .ref a10, .ref a11, .int 0])), (a8, .inl (ca 0, 4, .inl (fun _ => 0))), (a9, .inl (ca 0, 8, .inl (fun _ => 0))), (a10, .inl (ca 0, 8, .inl (fun _ => 0))), (a11, .inl (ca 0, 8, .inl (fun _ => 0))), (a12, .inr (7, [.ref a13, .ref a14, .ref a15, .ref a16, .int 0])), (a13, .inl (ca 0, 8, .inl (fun _ => 0))), (a14, .inl (ca 0, 8, .inl (fun _ => 0))), (a15, .inl (ca 0, 8, .inl (fun _ => 0))), (a16, .inl (ca 0, 8, .inl (fun _ => 0)))] [] [1, 2, 3, 4, 5, 6] [0, 7, 8, 9, 10, 11, 12, 13, 14, 15, 16] cv_County_35 rfl rfl rfl rfl (by decide) (by decide) (by decide) d_County_reset_4 (Nat.le_of_ble_eq_true rfl) (by decide) (by decide) (by decide) (by decide) (k_Land_reset D ca a1 a2 a3 a4 a5 a6) (fun w1 hw => ?_)
  subst hw
  refine U_eq [(a0, .inr (1, [.ref a1, .ref a7, .ref a12, .int 0, .int 0])), (a7, .inr (3, [.ref a8, .ref a9, .ref a10, .ref a11, .int 0])), (a8, .inl (ca 0, 4, .inl (fun _ => 0))), (a9, .inl (ca 0, 8, .inl (fun _ => 0))), (a10, .inl (ca 0, 8, .inl (fun _ => 0))), (a11, .inl (ca 0, 8, .inl (fun _ => 0))), (a12, .inr (7, [.ref a13, .ref a14, .ref a15, .ref a16, .int 0])), (a13, .inl (ca 0, 8, .inl (fun _ => 0))), (a14, .inl (ca 0, 8, .inl (fun _ => 0))), (a15, .inl (ca 0, 8, .inl (fun _ => 0))), (a16, .inl (ca 0, 8, .inl (fun _ => 0))), (a1, .inr (2, [.int 3, .int 3, .int 1, .int 10, .ref a2, .ref a3, .ref a4, .ref a5, .ref a6])), (a2, .inl (ca 0, 16, .inl (fun _ => 0))), (a3, .inl (ca 0, 16, .inl (fun _ => 0))), (a4, .inl (ca 0, 16, .inl (fun _ => 5))), (a5, .inl (ca 0, 16, .inl (fun _ => (-4)))), (a6, .inl (ca 0, 16, .inl (fun _ => 0)))] rfl ?_
  refine U_aload_n 0 d_County_reset_7 rfl rfl ?_
  refine U_get (.ref a7) 0 fa_County_21 rfl rfl d_County_reset_8 ?_
  refine U_callV (qb := 1) [(a0, .inr (1, [.ref a1, .ref a7, .ref a12, .int 0, .int 0])), (a12, .inr (7, [.ref a13, .ref a14, .ref a15, .ref a16, .int 0])), (a13, .inl (ca 0, 8, .inl (fun _ => 0))), (a14, .inl (ca 0, 8, .inl (fun _ => 0))), (a15, .inl (ca 0, 8, .inl (fun _ => 0))), (a16, .inl (ca 0, 8, .inl (fun _ => 0))), (a1, .inr (2, [.int 3, .int 3, .int 1, .int 10, .ref a2, .ref a3, .ref a4, .ref a5, .ref a6])), (a2, .inl (ca 0, 16, .inl (fun _ => 0))), (a3, .inl (ca 0, 16, .inl (fun _ => 0))), (a4, .inl (ca 0, 16, .inl (fun _ => 5))), (a5, .inl (ca 0, 16, .inl (fun _ => (-4)))), (a6, .inl (ca 0, 16, .inl (fun _ => 0)))] [] [1, 2, 3, 4, 5] [0, 6, 7, 8, 9, 10, 11, 12, 13, 14, 15, 16] cv_County_36 rfl rfl rfl rfl (by decide) (by decide) (by decide) d_County_reset_11 (Nat.le_of_ble_eq_true rfl) (by decide) (by decide) (by decide) (by decide) (k_Ledger_reset D ca a7 a8 a9 a10 a11) (fun w1 hw => ?_)
  subst hw
  refine U_eq [(a0, .inr (1, [.ref a1, .ref a7, .ref a12, .int 0, .int 0])), (a12, .inr (7, [.ref a13, .ref a14, .ref a15, .ref a16, .int 0])), (a13, .inl (ca 0, 8, .inl (fun _ => 0))), (a14, .inl (ca 0, 8, .inl (fun _ => 0))), (a15, .inl (ca 0, 8, .inl (fun _ => 0))), (a16, .inl (ca 0, 8, .inl (fun _ => 0))), (a1, .inr (2, [.int 3, .int 3, .int 1, .int 10, .ref a2, .ref a3, .ref a4, .ref a5, .ref a6])), (a2, .inl (ca 0, 16, .inl (fun _ => 0))), (a3, .inl (ca 0, 16, .inl (fun _ => 0))), (a4, .inl (ca 0, 16, .inl (fun _ => 5))), (a5, .inl (ca 0, 16, .inl (fun _ => (-4)))), (a6, .inl (ca 0, 16, .inl (fun _ => 0))), (a7, .inr (3, [.ref a8, .ref a9, .ref a10, .ref a11, .int 0])), (a9, .inl (ca 0, 8, .inl (fun _ => 0))), (a10, .inl (ca 0, 8, .inl (fun _ => 0))), (a11, .inl (ca 0, 8, .inl (fun _ => 0))), (a8, .inl (ca 0, 4, .inl (fun _ => 0)))] rfl ?_
  refine U_aload_n 0 d_County_reset_14 rfl rfl ?_
  refine U_get (.ref a12) 0 fa_County_28 rfl rfl d_County_reset_15 ?_
  refine U_iconst 0 d_County_reset_18 (by decide) ?_
  refine U_putI t_Sights 1 rfl rfl i_Sights t_Sights_ok n_Sights (by decide) fl_County_37 rfl (t_Sights_ok 4 (by decide)) (Nat.le_of_ble_eq_true rfl) d_County_reset_19 ?_
  refine U_eq [(a0, .inr (1, [.ref a1, .ref a7, .ref a12, .int 0, .int 0])), (a12, .inr (7, [.ref a13, .ref a14, .ref a15, .ref a16, .int 0])), (a13, .inl (ca 0, 8, .inl (fun _ => 0))), (a14, .inl (ca 0, 8, .inl (fun _ => 0))), (a15, .inl (ca 0, 8, .inl (fun _ => 0))), (a16, .inl (ca 0, 8, .inl (fun _ => 0))), (a1, .inr (2, [.int 3, .int 3, .int 1, .int 10, .ref a2, .ref a3, .ref a4, .ref a5, .ref a6])), (a2, .inl (ca 0, 16, .inl (fun _ => 0))), (a3, .inl (ca 0, 16, .inl (fun _ => 0))), (a4, .inl (ca 0, 16, .inl (fun _ => 5))), (a5, .inl (ca 0, 16, .inl (fun _ => (-4)))), (a6, .inl (ca 0, 16, .inl (fun _ => 0))), (a7, .inr (3, [.ref a8, .ref a9, .ref a10, .ref a11, .int 0])), (a9, .inl (ca 0, 8, .inl (fun _ => 0))), (a10, .inl (ca 0, 8, .inl (fun _ => 0))), (a11, .inl (ca 0, 8, .inl (fun _ => 0))), (a8, .inl (ca 0, 4, .inl (fun _ => 0)))] rfl ?_
  refine U_aload_n 0 d_County_reset_22 rfl rfl ?_
  refine U_iconst 0 d_County_reset_23 (by decide) ?_
  refine U_putI t_County 0 rfl rfl i_County t_County_ok n_County (by decide) fl_County_41 rfl (t_County_ok 3 (by decide)) (Nat.le_of_ble_eq_true rfl) d_County_reset_24 ?_
  refine U_eq [(a0, .inr (1, [.ref a1, .ref a7, .ref a12, .int 0, .int 0])), (a12, .inr (7, [.ref a13, .ref a14, .ref a15, .ref a16, .int 0])), (a13, .inl (ca 0, 8, .inl (fun _ => 0))), (a14, .inl (ca 0, 8, .inl (fun _ => 0))), (a15, .inl (ca 0, 8, .inl (fun _ => 0))), (a16, .inl (ca 0, 8, .inl (fun _ => 0))), (a1, .inr (2, [.int 3, .int 3, .int 1, .int 10, .ref a2, .ref a3, .ref a4, .ref a5, .ref a6])), (a2, .inl (ca 0, 16, .inl (fun _ => 0))), (a3, .inl (ca 0, 16, .inl (fun _ => 0))), (a4, .inl (ca 0, 16, .inl (fun _ => 5))), (a5, .inl (ca 0, 16, .inl (fun _ => (-4)))), (a6, .inl (ca 0, 16, .inl (fun _ => 0))), (a7, .inr (3, [.ref a8, .ref a9, .ref a10, .ref a11, .int 0])), (a9, .inl (ca 0, 8, .inl (fun _ => 0))), (a10, .inl (ca 0, 8, .inl (fun _ => 0))), (a11, .inl (ca 0, 8, .inl (fun _ => 0))), (a8, .inl (ca 0, 4, .inl (fun _ => 0)))] rfl ?_
  refine U_aload_n 0 d_County_reset_27 rfl rfl ?_
  refine U_bipush 9 d_County_reset_28 (by decide) ?_
  refine U_putI t_County 0 rfl rfl i_County t_County_ok n_County (by decide) fl_County_44 rfl (t_County_ok 4 (by decide)) (Nat.le_of_ble_eq_true rfl) d_County_reset_30 ?_
  refine U_eq [(a0, .inr (1, [.ref a1, .ref a7, .ref a12, .int 0, .int 9])), (a12, .inr (7, [.ref a13, .ref a14, .ref a15, .ref a16, .int 0])), (a13, .inl (ca 0, 8, .inl (fun _ => 0))), (a14, .inl (ca 0, 8, .inl (fun _ => 0))), (a15, .inl (ca 0, 8, .inl (fun _ => 0))), (a16, .inl (ca 0, 8, .inl (fun _ => 0))), (a1, .inr (2, [.int 3, .int 3, .int 1, .int 10, .ref a2, .ref a3, .ref a4, .ref a5, .ref a6])), (a2, .inl (ca 0, 16, .inl (fun _ => 0))), (a3, .inl (ca 0, 16, .inl (fun _ => 0))), (a4, .inl (ca 0, 16, .inl (fun _ => 5))), (a5, .inl (ca 0, 16, .inl (fun _ => (-4)))), (a6, .inl (ca 0, 16, .inl (fun _ => 0))), (a7, .inr (3, [.ref a8, .ref a9, .ref a10, .ref a11, .int 0])), (a9, .inl (ca 0, 8, .inl (fun _ => 0))), (a10, .inl (ca 0, 8, .inl (fun _ => 0))), (a11, .inl (ca 0, 8, .inl (fun _ => 0))), (a8, .inl (ca 0, 4, .inl (fun _ => 0)))] rfl ?_
  exact U_vret d_County_reset_33 rfl rfl rfl
theorem d_County_init_0 : decode b_County_init 0 = .ok (.aload_n 0, 1) := dc_42 (by decide +kernel)
theorem d_County_init_1 : decode b_County_init 1 = .ok (.invokespecial 3, 3) := dc_183 (a := 0) (b := 3) (by decide +kernel) rfl
theorem d_County_init_4 : decode b_County_init 4 = .ok (.aload_n 0, 1) := dc_42 (by decide +kernel)
theorem d_County_init_5 : decode b_County_init 5 = .ok (.new 9, 3) := dc_187 (a := 0) (b := 9) (by decide +kernel) rfl
theorem d_County_init_8 : decode b_County_init 8 = .ok (.dup, 1) := dc_89 (by decide +kernel)
theorem d_County_init_9 : decode b_County_init 9 = .ok (.invokespecial 11, 3) := dc_183 (a := 0) (b := 11) (by decide +kernel) rfl
theorem d_County_init_12 : decode b_County_init 12 = .ok (.putfield 12, 3) := dc_181 (a := 0) (b := 12) (by decide +kernel) rfl
theorem d_County_init_15 : decode b_County_init 15 = .ok (.aload_n 0, 1) := dc_42 (by decide +kernel)
theorem d_County_init_16 : decode b_County_init 16 = .ok (.new 18, 3) := dc_187 (a := 0) (b := 18) (by decide +kernel) rfl
theorem d_County_init_19 : decode b_County_init 19 = .ok (.dup, 1) := dc_89 (by decide +kernel)
theorem d_County_init_20 : decode b_County_init 20 = .ok (.invokespecial 20, 3) := dc_183 (a := 0) (b := 20) (by decide +kernel) rfl
theorem d_County_init_23 : decode b_County_init 23 = .ok (.putfield 21, 3) := dc_181 (a := 0) (b := 21) (by decide +kernel) rfl
theorem d_County_init_26 : decode b_County_init 26 = .ok (.aload_n 0, 1) := dc_42 (by decide +kernel)
theorem d_County_init_27 : decode b_County_init 27 = .ok (.new 25, 3) := dc_187 (a := 0) (b := 25) (by decide +kernel) rfl
theorem d_County_init_30 : decode b_County_init 30 = .ok (.dup, 1) := dc_89 (by decide +kernel)
theorem d_County_init_31 : decode b_County_init 31 = .ok (.invokespecial 27, 3) := dc_183 (a := 0) (b := 27) (by decide +kernel) rfl
theorem d_County_init_34 : decode b_County_init 34 = .ok (.putfield 28, 3) := dc_181 (a := 0) (b := 28) (by decide +kernel) rfl
theorem d_County_init_37 : decode b_County_init 37 = .ok (.aload_n 0, 1) := dc_42 (by decide +kernel)
theorem d_County_init_38 : decode b_County_init 38 = .ok (.invokevirtual 32, 3) := dc_182 (a := 0) (b := 32) (by decide +kernel) rfl
theorem d_County_init_41 : decode b_County_init 41 = .ok (.return_, 1) := dc_177 (by decide +kernel)
set_option maxRecDepth 100000 in
theorem k_County_init (D : va_G) (ca : Nat → ClassId) (a0 : Nat) : Cu y_County_init b_County_init 1 3 63 16 159 D ca [.ref a0] [(a0, .inr (1, [.null, .null, .null, .int 0, .int 0]))] (fun w => ∃ (q1 : Nat) (q7 : Nat) (q12 : Nat) (q13 : Nat) (q14 : Nat) (q15 : Nat) (q16 : Nat) (q2 : Nat) (q3 : Nat) (q4 : Nat) (q5 : Nat) (q6 : Nat) (q8 : Nat) (q9 : Nat) (q10 : Nat) (q11 : Nat), w = [(a0, .inr (1, [.ref q1, .ref q7, .ref q12, .int 0, .int 9])), (q12, .inr (7, [.ref q13, .ref q14, .ref q15, .ref q16, .int 0])), (q13, .inl (ca 0, 8, .inl (fun _ => 0))), (q14, .inl (ca 0, 8, .inl (fun _ => 0))), (q15, .inl (ca 0, 8, .inl (fun _ => 0))), (q16, .inl (ca 0, 8, .inl (fun _ => 0))), (q1, .inr (2, [.int 3, .int 3, .int 1, .int 10, .ref q2, .ref q3, .ref q4, .ref q5, .ref q6])), (q2, .inl (ca 0, 16, .inl (fun _ => 0))), (q3, .inl (ca 0, 16, .inl (fun _ => 0))), (q4, .inl (ca 0, 16, .inl (fun _ => 5))), (q5, .inl (ca 0, 16, .inl (fun _ => (-4)))), (q6, .inl (ca 0, 16, .inl (fun _ => 0))), (q7, .inr (3, [.ref q8, .ref q9, .ref q10, .ref q11, .int 0])), (q9, .inl (ca 0, 8, .inl (fun _ => 0))), (q10, .inl (ca 0, 8, .inl (fun _ => 0))), (q11, .inl (ca 0, 8, .inl (fun _ => 0))), (q8, .inl (ca 0, 4, .inl (fun _ => 0)))]) := by
  refine cu_of R_County true [some (.ref a0)] rfl (fun _ => rfl) (by decide) rfl (Nat.le_of_ble_eq_true rfl) ?_
  refine U_aload_n 0 d_County_init_0 rfl rfl ?_
  refine U_obj wo_County_3 wo1 wo2 d_County_init_1 (by decide) (Nat.le_of_ble_eq_true rfl) ?_
  refine U_aload_n 0 d_County_init_4 rfl rfl ?_
  refine U_new (ci := 2) (fs := [.int 0, .int 0, .int 0, .int 0, .null, .null, .null, .null, .null]) t_Land rfl i_Land t_Land_ok wk_County_9 wi_Land wn_Land wd_Land d_County_init_5 (by decide) (by decide) (fun q1 => ?_)
  refine U_eq [(a0, .inr (1, [.null, .null, .null, .int 0, .int 0])), (q1, .inr (2, [.int 0, .int 0, .int 0, .int 0, .null, .null, .null, .null, .null]))] rfl ?_
  refine U_dup d_County_init_8 rfl ?_
  refine U_callI [(a0, .inr (1, [.null, .null, .null, .int 0, .int 0]))] [.ref q1, .ref a0] [1] [0] ck_County_11 rfl rfl (by decide) (by decide) (by decide) d_County_init_9 (Nat.le_of_ble_eq_true rfl) (by decide) (by decide) (by decide) (by decide) (k_Land_init D ca q1) (fun w1 hw => ?_)
  obtain ⟨q2, q3, q4, q5, q6, rfl⟩ := hw
  refine U_eq [(a0, .inr (1, [.null, .null, .null, .int 0, .int 0])), (q1, .inr (2, [.int 0, .int 0, .int 0, .int 0, .ref q2, .ref q3, .ref q4, .ref q5, .ref q6])), (q2, .inl (ca 0, 16, .inl (fun _ => 0))), (q3, .inl (ca 0, 16, .inl (fun _ => 0))), (q4, .inl (ca 0, 16, .inl (fun _ => 0))), (q5, .inl (ca 0, 16, .inl (fun _ => 0))), (q6, .inl (ca 0, 16, .inl (fun _ => 0)))] rfl ?_
  refine U_putF (ty := t_County 0) t_County 0 rfl rfl i_County t_County_ok n_County (by decide) fl_County_12 rfl rfl rfl (t_County_ok 0 (by decide)) rfl rfl (Nat.le_of_ble_eq_true rfl) d_County_init_12 ?_
  refine U_eq [(a0, .inr (1, [.ref q1, .null, .null, .int 0, .int 0])), (q1, .inr (2, [.int 0, .int 0, .int 0, .int 0, .ref q2, .ref q3, .ref q4, .ref q5, .ref q6])), (q2, .inl (ca 0, 16, .inl (fun _ => 0))), (q3, .inl (ca 0, 16, .inl (fun _ => 0))), (q4, .inl (ca 0, 16, .inl (fun _ => 0))), (q5, .inl (ca 0, 16, .inl (fun _ => 0))), (q6, .inl (ca 0, 16, .inl (fun _ => 0)))] rfl ?_
  refine U_aload_n 0 d_County_init_15 rfl rfl ?_
  refine U_new (ci := 3) (fs := [.null, .null, .null, .null, .int 0]) t_Ledger rfl i_Ledger t_Ledger_ok wk_County_18 wi_Ledger wn_Ledger wd_Ledger d_County_init_16 (by decide) (by decide) (fun q7 => ?_)
  refine U_eq [(a0, .inr (1, [.ref q1, .null, .null, .int 0, .int 0])), (q1, .inr (2, [.int 0, .int 0, .int 0, .int 0, .ref q2, .ref q3, .ref q4, .ref q5, .ref q6])), (q2, .inl (ca 0, 16, .inl (fun _ => 0))), (q3, .inl (ca 0, 16, .inl (fun _ => 0))), (q4, .inl (ca 0, 16, .inl (fun _ => 0))), (q5, .inl (ca 0, 16, .inl (fun _ => 0))), (q6, .inl (ca 0, 16, .inl (fun _ => 0))), (q7, .inr (3, [.null, .null, .null, .null, .int 0]))] rfl ?_
  refine U_dup d_County_init_19 rfl ?_
  refine U_callI [(a0, .inr (1, [.ref q1, .null, .null, .int 0, .int 0])), (q1, .inr (2, [.int 0, .int 0, .int 0, .int 0, .ref q2, .ref q3, .ref q4, .ref q5, .ref q6])), (q2, .inl (ca 0, 16, .inl (fun _ => 0))), (q3, .inl (ca 0, 16, .inl (fun _ => 0))), (q4, .inl (ca 0, 16, .inl (fun _ => 0))), (q5, .inl (ca 0, 16, .inl (fun _ => 0))), (q6, .inl (ca 0, 16, .inl (fun _ => 0)))] [.ref q7, .ref a0] [7] [0, 1, 2, 3, 4, 5, 6] ck_County_20 rfl rfl (by decide) (by decide) (by decide) d_County_init_20 (Nat.le_of_ble_eq_true rfl) (by decide) (by decide) (by decide) (by decide) (k_Ledger_init D ca q7) (fun w1 hw => ?_)
  obtain ⟨q8, q9, q10, q11, rfl⟩ := hw
  refine U_eq [(a0, .inr (1, [.ref q1, .null, .null, .int 0, .int 0])), (q1, .inr (2, [.int 0, .int 0, .int 0, .int 0, .ref q2, .ref q3, .ref q4, .ref q5, .ref q6])), (q2, .inl (ca 0, 16, .inl (fun _ => 0))), (q3, .inl (ca 0, 16, .inl (fun _ => 0))), (q4, .inl (ca 0, 16, .inl (fun _ => 0))), (q5, .inl (ca 0, 16, .inl (fun _ => 0))), (q6, .inl (ca 0, 16, .inl (fun _ => 0))), (q7, .inr (3, [.ref q8, .ref q9, .ref q10, .ref q11, .int 0])), (q8, .inl (ca 0, 4, .inl (fun _ => 0))), (q9, .inl (ca 0, 8, .inl (fun _ => 0))), (q10, .inl (ca 0, 8, .inl (fun _ => 0))), (q11, .inl (ca 0, 8, .inl (fun _ => 0)))] rfl ?_
  refine U_putF (ty := t_County 1) t_County 0 rfl rfl i_County t_County_ok n_County (by decide) fl_County_21 rfl rfl rfl (t_County_ok 1 (by decide)) rfl rfl (Nat.le_of_ble_eq_true rfl) d_County_init_23 ?_
  refine U_eq [(a0, .inr (1, [.ref q1, .ref q7, .null, .int 0, .int 0])), (q1, .inr (2, [.int 0, .int 0, .int 0, .int 0, .ref q2, .ref q3, .ref q4, .ref q5, .ref q6])), (q2, .inl (ca 0, 16, .inl (fun _ => 0))), (q3, .inl (ca 0, 16, .inl (fun _ => 0))), (q4, .inl (ca 0, 16, .inl (fun _ => 0))), (q5, .inl (ca 0, 16, .inl (fun _ => 0))), (q6, .inl (ca 0, 16, .inl (fun _ => 0))), (q7, .inr (3, [.ref q8, .ref q9, .ref q10, .ref q11, .int 0])), (q8, .inl (ca 0, 4, .inl (fun _ => 0))), (q9, .inl (ca 0, 8, .inl (fun _ => 0))), (q10, .inl (ca 0, 8, .inl (fun _ => 0))), (q11, .inl (ca 0, 8, .inl (fun _ => 0)))] rfl ?_
  refine U_aload_n 0 d_County_init_26 rfl rfl ?_
  refine U_new (ci := 7) (fs := [.null, .null, .null, .null, .int 0]) t_Sights rfl i_Sights t_Sights_ok wk_County_25 wi_Sights wn_Sights wd_Sights d_County_init_27 (by decide) (by decide) (fun q12 => ?_)
  refine U_eq [(a0, .inr (1, [.ref q1, .ref q7, .null, .int 0, .int 0])), (q1, .inr (2, [.int 0, .int 0, .int 0, .int 0, .ref q2, .ref q3, .ref q4, .ref q5, .ref q6])), (q2, .inl (ca 0, 16, .inl (fun _ => 0))), (q3, .inl (ca 0, 16, .inl (fun _ => 0))), (q4, .inl (ca 0, 16, .inl (fun _ => 0))), (q5, .inl (ca 0, 16, .inl (fun _ => 0))), (q6, .inl (ca 0, 16, .inl (fun _ => 0))), (q7, .inr (3, [.ref q8, .ref q9, .ref q10, .ref q11, .int 0])), (q8, .inl (ca 0, 4, .inl (fun _ => 0))), (q9, .inl (ca 0, 8, .inl (fun _ => 0))), (q10, .inl (ca 0, 8, .inl (fun _ => 0))), (q11, .inl (ca 0, 8, .inl (fun _ => 0))), (q12, .inr (7, [.null, .null, .null, .null, .int 0]))] rfl ?_
  refine U_dup d_County_init_30 rfl ?_
  refine U_callI [(a0, .inr (1, [.ref q1, .ref q7, .null, .int 0, .int 0])), (q1, .inr (2, [.int 0, .int 0, .int 0, .int 0, .ref q2, .ref q3, .ref q4, .ref q5, .ref q6])), (q2, .inl (ca 0, 16, .inl (fun _ => 0))), (q3, .inl (ca 0, 16, .inl (fun _ => 0))), (q4, .inl (ca 0, 16, .inl (fun _ => 0))), (q5, .inl (ca 0, 16, .inl (fun _ => 0))), (q6, .inl (ca 0, 16, .inl (fun _ => 0))), (q7, .inr (3, [.ref q8, .ref q9, .ref q10, .ref q11, .int 0])), (q8, .inl (ca 0, 4, .inl (fun _ => 0))), (q9, .inl (ca 0, 8, .inl (fun _ => 0))), (q10, .inl (ca 0, 8, .inl (fun _ => 0))), (q11, .inl (ca 0, 8, .inl (fun _ => 0)))] [.ref q12, .ref a0] [12] [0, 1, 2, 3, 4, 5, 6, 7, 8, 9, 10, 11] ck_County_27 rfl rfl (by decide) (by decide) (by decide) d_County_init_31 (Nat.le_of_ble_eq_true rfl) (by decide) (by decide) (by decide) (by decide) (k_Sights_init D ca q12) (fun w1 hw => ?_)
  obtain ⟨q13, q14, q15, q16, rfl⟩ := hw
  refine U_eq [(a0, .inr (1, [.ref q1, .ref q7, .null, .int 0, .int 0])), (q1, .inr (2, [.int 0, .int 0, .int 0, .int 0, .ref q2, .ref q3, .ref q4, .ref q5, .ref q6])), (q2, .inl (ca 0, 16, .inl (fun _ => 0))), (q3, .inl (ca 0, 16, .inl (fun _ => 0))), (q4, .inl (ca 0, 16, .inl (fun _ => 0))), (q5, .inl (ca 0, 16, .inl (fun _ => 0))), (q6, .inl (ca 0, 16, .inl (fun _ => 0))), (q7, .inr (3, [.ref q8, .ref q9, .ref q10, .ref q11, .int 0])), (q8, .inl (ca 0, 4, .inl (fun _ => 0))), (q9, .inl (ca 0, 8, .inl (fun _ => 0))), (q10, .inl (ca 0, 8, .inl (fun _ => 0))), (q11, .inl (ca 0, 8, .inl (fun _ => 0))), (q12, .inr (7, [.ref q13, .ref q14, .ref q15, .ref q16, .int 0])), (q13, .inl (ca 0, 8, .inl (fun _ => 0))), (q14, .inl (ca 0, 8, .inl (fun _ => 0))), (q15, .inl (ca 0, 8, .inl (fun _ => 0))), (q16, .inl (ca 0, 8, .inl (fun _ => 0)))] rfl ?_
  refine U_putF (ty := t_County 2) t_County 0 rfl rfl i_County t_County_ok n_County (by decide) fl_County_28 rfl rfl rfl (t_County_ok 2 (by decide)) rfl rfl (Nat.le_of_ble_eq_true rfl) d_County_init_34 ?_
  refine U_eq [(a0, .inr (1, [.ref q1, .ref q7, .ref q12, .int 0, .int 0])), (q1, .inr (2, [.int 0, .int 0, .int 0, .int 0, .ref q2, .ref q3, .ref q4, .ref q5, .ref q6])), (q2, .inl (ca 0, 16, .inl (fun _ => 0))), (q3, .inl (ca 0, 16, .inl (fun _ => 0))), (q4, .inl (ca 0, 16, .inl (fun _ => 0))), (q5, .inl (ca 0, 16, .inl (fun _ => 0))), (q6, .inl (ca 0, 16, .inl (fun _ => 0))), (q7, .inr (3, [.ref q8, .ref q9, .ref q10, .ref q11, .int 0])), (q8, .inl (ca 0, 4, .inl (fun _ => 0))), (q9, .inl (ca 0, 8, .inl (fun _ => 0))), (q10, .inl (ca 0, 8, .inl (fun _ => 0))), (q11, .inl (ca 0, 8, .inl (fun _ => 0))), (q12, .inr (7, [.ref q13, .ref q14, .ref q15, .ref q16, .int 0])), (q13, .inl (ca 0, 8, .inl (fun _ => 0))), (q14, .inl (ca 0, 8, .inl (fun _ => 0))), (q15, .inl (ca 0, 8, .inl (fun _ => 0))), (q16, .inl (ca 0, 8, .inl (fun _ => 0)))] rfl ?_
  refine U_aload_n 0 d_County_init_37 rfl rfl ?_
  refine U_callV (qb := 0) [] [] [0, 1, 2, 3, 4, 5, 6, 7, 8, 9, 10, 11, 12, 13, 14, 15, 16] [] cv_County_32 rfl rfl rfl rfl (by decide) (by decide) (by decide) d_County_init_38 (Nat.le_of_ble_eq_true rfl) (by decide) (by decide) (by decide) (by decide) (k_County_reset D ca a0 q1 q2 q3 q4 q5 q6 q7 q8 q9 q10 q11 q12 q13 q14 q15 q16) (fun w1 hw => ?_)
  subst hw
  refine U_eq [(a0, .inr (1, [.ref q1, .ref q7, .ref q12, .int 0, .int 9])), (q12, .inr (7, [.ref q13, .ref q14, .ref q15, .ref q16, .int 0])), (q13, .inl (ca 0, 8, .inl (fun _ => 0))), (q14, .inl (ca 0, 8, .inl (fun _ => 0))), (q15, .inl (ca 0, 8, .inl (fun _ => 0))), (q16, .inl (ca 0, 8, .inl (fun _ => 0))), (q1, .inr (2, [.int 3, .int 3, .int 1, .int 10, .ref q2, .ref q3, .ref q4, .ref q5, .ref q6])), (q2, .inl (ca 0, 16, .inl (fun _ => 0))), (q3, .inl (ca 0, 16, .inl (fun _ => 0))), (q4, .inl (ca 0, 16, .inl (fun _ => 5))), (q5, .inl (ca 0, 16, .inl (fun _ => (-4)))), (q6, .inl (ca 0, 16, .inl (fun _ => 0))), (q7, .inr (3, [.ref q8, .ref q9, .ref q10, .ref q11, .int 0])), (q9, .inl (ca 0, 8, .inl (fun _ => 0))), (q10, .inl (ca 0, 8, .inl (fun _ => 0))), (q11, .inl (ca 0, 8, .inl (fun _ => 0))), (q8, .inl (ca 0, 4, .inl (fun _ => 0)))] rfl ?_
  exact U_vret d_County_init_41 ⟨q1, q7, q12, q13, q14, q15, q16, q2, q3, q4, q5, q6, q8, q9, q10, q11, rfl⟩ rfl rfl
theorem d_Tape_init_0 : decode b_Tape_init 0 = .ok (.aload_n 0, 1) := dc_42 (by decide +kernel)
theorem d_Tape_init_1 : decode b_Tape_init 1 = .ok (.invokespecial 3, 3) := dc_183 (a := 0) (b := 3) (by decide +kernel) rfl
theorem d_Tape_init_4 : decode b_Tape_init 4 = .ok (.aload_n 0, 1) := dc_42 (by decide +kernel)
theorem d_Tape_init_5 : decode b_Tape_init 5 = .ok (.sipush 160, 3) := dc_17 (a := 0) (b := 160) (by decide +kernel) rfl
theorem d_Tape_init_8 : decode b_Tape_init 8 = .ok (.newarray .byte, 2) := by decide +kernel
theorem d_Tape_init_10 : decode b_Tape_init 10 = .ok (.putfield 9, 3) := dc_181 (a := 0) (b := 9) (by decide +kernel) rfl
theorem d_Tape_init_13 : decode b_Tape_init 13 = .ok (.return_, 1) := dc_177 (by decide +kernel)
set_option maxRecDepth 100000 in
theorem k_Tape_init (D : va_G) (ca : Nat → ClassId) (a0 : Nat) : Cu y_Tape_init b_Tape_init 1 1 20 1 160 D ca [.ref a0] [(a0, .inr (8, [.null, .int 0, .int 0, .int 0, .int 0, .int 0]))] (fun w => ∃ (q1 : Nat), w = [(a0, .inr (8, [.ref q1, .int 0, .int 0, .int 0, .int 0, .int 0])), (q1, .inl (ca 1, 160, .inl (fun _ => 0)))]) := by
  refine cu_of R_Tape true [some (.ref a0)] rfl (fun _ => rfl) (by decide) rfl (Nat.le_of_ble_eq_true rfl) ?_
  refine U_aload_n 0 d_Tape_init_0 rfl rfl ?_
  refine U_obj wo_Tape_3 wo1 wo2 d_Tape_init_1 (by decide) (Nat.le_of_ble_eq_true rfl) ?_
  refine U_aload_n 0 d_Tape_init_4 rfl rfl ?_
  refine U_sipush 160 d_Tape_init_5 (by decide) ?_
  refine U_newB 160 (by decide) (by decide) wa_byte (by decide) d_Tape_init_8 (by decide) (by decide) (fun q1 => ?_)
  refine U_eq [(a0, .inr (8, [.null, .int 0, .int 0, .int 0, .int 0, .int 0])), (q1, .inl (ca 1, 160, .inl (fun _ => 0)))] rfl ?_
  refine U_putF (ty := t_Tape 0) t_Tape 0 rfl rfl i_Tape t_Tape_ok n_Tape (by decide) fl_Tape_9 rfl rfl rfl (t_Tape_ok 0 (by decide)) rfl rfl (Nat.le_of_ble_eq_true rfl) d_Tape_init_10 ?_
  refine U_eq [(a0, .inr (8, [.ref q1, .int 0, .int 0, .int 0, .int 0, .int 0])), (q1, .inl (ca 1, 160, .inl (fun _ => 0)))] rfl ?_
  exact U_vret d_Tape_init_13 ⟨q1, rfl⟩ rfl rfl
theorem d_Reader_init_0 : decode b_Reader_init 0 = .ok (.aload_n 0, 1) := dc_42 (by decide +kernel)
theorem d_Reader_init_1 : decode b_Reader_init 1 = .ok (.invokespecial 3, 3) := dc_183 (a := 0) (b := 3) (by decide +kernel) rfl
theorem d_Reader_init_4 : decode b_Reader_init 4 = .ok (.aload_n 0, 1) := dc_42 (by decide +kernel)
theorem d_Reader_init_5 : decode b_Reader_init 5 = .ok (.new 9, 3) := dc_187 (a := 0) (b := 9) (by decide +kernel) rfl
theorem d_Reader_init_8 : decode b_Reader_init 8 = .ok (.dup, 1) := dc_89 (by decide +kernel)
theorem d_Reader_init_9 : decode b_Reader_init 9 = .ok (.invokespecial 11, 3) := dc_183 (a := 0) (b := 11) (by decide +kernel) rfl
theorem d_Reader_init_12 : decode b_Reader_init 12 = .ok (.putfield 12, 3) := dc_181 (a := 0) (b := 12) (by decide +kernel) rfl
theorem d_Reader_init_15 : decode b_Reader_init 15 = .ok (.aload_n 0, 1) := dc_42 (by decide +kernel)
theorem d_Reader_init_16 : decode b_Reader_init 16 = .ok (.new 18, 3) := dc_187 (a := 0) (b := 18) (by decide +kernel) rfl
theorem d_Reader_init_19 : decode b_Reader_init 19 = .ok (.dup, 1) := dc_89 (by decide +kernel)
theorem d_Reader_init_20 : decode b_Reader_init 20 = .ok (.invokespecial 20, 3) := dc_183 (a := 0) (b := 20) (by decide +kernel) rfl
theorem d_Reader_init_23 : decode b_Reader_init 23 = .ok (.putfield 21, 3) := dc_181 (a := 0) (b := 21) (by decide +kernel) rfl
theorem d_Reader_init_26 : decode b_Reader_init 26 = .ok (.aload_n 0, 1) := dc_42 (by decide +kernel)
theorem d_Reader_init_27 : decode b_Reader_init 27 = .ok (.iconst 3, 1) := dc_6 (by decide +kernel)
theorem d_Reader_init_28 : decode b_Reader_init 28 = .ok (.newarray .int, 2) := by decide +kernel
theorem d_Reader_init_30 : decode b_Reader_init 30 = .ok (.putfield 25, 3) := dc_181 (a := 0) (b := 25) (by decide +kernel) rfl
theorem d_Reader_init_33 : decode b_Reader_init 33 = .ok (.aload_n 0, 1) := dc_42 (by decide +kernel)
theorem d_Reader_init_34 : decode b_Reader_init 34 = .ok (.bipush 10, 2) := dc_16 (a := 10) (by decide +kernel) rfl
theorem d_Reader_init_36 : decode b_Reader_init 36 = .ok (.newarray .int, 2) := by decide +kernel
theorem d_Reader_init_38 : decode b_Reader_init 38 = .ok (.putfield 29, 3) := dc_181 (a := 0) (b := 29) (by decide +kernel) rfl
theorem d_Reader_init_41 : decode b_Reader_init 41 = .ok (.return_, 1) := dc_177 (by decide +kernel)
set_option maxRecDepth 100000 in
theorem k_Reader_init (D : va_G) (ca : Nat → ClassId) (a0 : Nat) : Cu y_Reader_init b_Reader_init 1 4 83 21 343 D ca [.ref a0] [(a0, .inr (5, [.null, .null, .null, .null, .int 0, .int 0, .int 0]))] (fun w => ∃ (q1 : Nat) (q3 : Nat) (q20 : Nat) (q21 : Nat) (q2 : Nat) (q4 : Nat) (q5 : Nat) (q6 : Nat) (q7 : Nat) (q8 : Nat) (q9 : Nat) (q10 : Nat) (q11 : Nat) (q12 : Nat) (q13 : Nat) (q14 : Nat) (q15 : Nat) (q16 : Nat) (q17 : Nat) (q18 : Nat) (q19 : Nat), w = [(a0, .inr (5, [.ref q1, .ref q3, .ref q20, .ref q21, .int 0, .int 0, .int 0])), (q1, .inr (8, [.ref q2, .int 0, .int 0, .int 0, .int 0, .int 0])), (q2, .inl (ca 1, 160, .inl (fun _ => 0))), (q3, .inr (1, [.ref q4, .ref q5, .ref q6, .int 0, .int 9])), (q6, .inr (7, [.ref q7, .ref q8, .ref q9, .ref q10, .int 0])), (q7, .inl (ca 0, 8, .inl (fun _ => 0))), (q8, .inl (ca 0, 8, .inl (fun _ => 0))), (q9, .inl (ca 0, 8, .inl (fun _ => 0))), (q10, .inl (ca 0, 8, .inl (fun _ => 0))), (q4, .inr (2, [.int 3, .int 3, .int 1, .int 10, .ref q11, .ref q12, .ref q13, .ref q14, .ref q15])), (q11, .inl (ca 0, 16, .inl (fun _ => 0))), (q12, .inl (ca 0, 16, .inl (fun _ => 0))), (q13, .inl (ca 0, 16, .inl (fun _ => 5))), (q14, .inl (ca 0, 16, .inl (fun _ => (-4)))), (q15, .inl (ca 0, 16, .inl (fun _ => 0))), (q5, .inr (3, [.ref q16, .ref q17, .ref q18, .ref q19, .int 0])), (q17, .inl (ca 0, 8, .inl (fun _ => 0))), (q18, .inl (ca 0, 8, .inl (fun _ => 0))), (q19, .inl (ca 0, 8, .inl (fun _ => 0))), (q16, .inl (ca 0, 4, .inl (fun _ => 0))), (q20, .inl (ca 0, 3, .inl (fun _ => 0))), (q21, .inl (ca 0, 10, .inl (fun _ => 0)))]) := by
  refine cu_of R_Reader true [some (.ref a0)] rfl (fun _ => rfl) (by decide) rfl (Nat.le_of_ble_eq_true rfl) ?_
  refine U_aload_n 0 d_Reader_init_0 rfl rfl ?_
  refine U_obj wo_Reader_3 wo1 wo2 d_Reader_init_1 (by decide) (Nat.le_of_ble_eq_true rfl) ?_
  refine U_aload_n 0 d_Reader_init_4 rfl rfl ?_
  refine U_new (ci := 8) (fs := [.null, .int 0, .int 0, .int 0, .int 0, .int 0]) t_Tape rfl i_Tape t_Tape_ok wk_Reader_9 wi_Tape wn_Tape wd_Tape d_Reader_init_5 (by decide) (by decide) (fun q1 => ?_)
  refine U_eq [(a0, .inr (5, [.null, .null, .null, .null, .int 0, .int 0, .int 0])), (q1, .inr (8, [.null, .int 0, .int 0, .int 0, .int 0, .int 0]))] rfl ?_
  refine U_dup d_Reader_init_8 rfl ?_
  refine U_callI [(a0, .inr (5, [.null, .null, .null, .null, .int 0, .int 0, .int 0]))] [.ref q1, .ref a0] [1] [0] ck_Reader_11 rfl rfl (by decide) (by decide) (by decide) d_Reader_init_9 (Nat.le_of_ble_eq_true rfl) (by decide) (by decide) (by decide) (by decide) (k_Tape_init D ca q1) (fun w1 hw => ?_)
  obtain ⟨q2, rfl⟩ := hw
  refine U_eq [(a0, .inr (5, [.null, .null, .null, .null, .int 0, .int 0, .int 0])), (q1, .inr (8, [.ref q2, .int 0, .int 0, .int 0, .int 0, .int 0])), (q2, .inl (ca 1, 160, .inl (fun _ => 0)))] rfl ?_
  refine U_putF (ty := t_Reader 0) t_Reader 0 rfl rfl i_Reader t_Reader_ok n_Reader (by decide) fl_Reader_12 rfl rfl rfl (t_Reader_ok 0 (by decide)) rfl rfl (Nat.le_of_ble_eq_true rfl) d_Reader_init_12 ?_
  refine U_eq [(a0, .inr (5, [.ref q1, .null, .null, .null, .int 0, .int 0, .int 0])), (q1, .inr (8, [.ref q2, .int 0, .int 0, .int 0, .int 0, .int 0])), (q2, .inl (ca 1, 160, .inl (fun _ => 0)))] rfl ?_
  refine U_aload_n 0 d_Reader_init_15 rfl rfl ?_
  refine U_new (ci := 1) (fs := [.null, .null, .null, .int 0, .int 0]) t_County rfl i_County t_County_ok wk_Reader_18 wi_County wn_County wd_County d_Reader_init_16 (by decide) (by decide) (fun q3 => ?_)
  refine U_eq [(a0, .inr (5, [.ref q1, .null, .null, .null, .int 0, .int 0, .int 0])), (q1, .inr (8, [.ref q2, .int 0, .int 0, .int 0, .int 0, .int 0])), (q2, .inl (ca 1, 160, .inl (fun _ => 0))), (q3, .inr (1, [.null, .null, .null, .int 0, .int 0]))] rfl ?_
  refine U_dup d_Reader_init_19 rfl ?_
  refine U_callI [(a0, .inr (5, [.ref q1, .null, .null, .null, .int 0, .int 0, .int 0])), (q1, .inr (8, [.ref q2, .int 0, .int 0, .int 0, .int 0, .int 0])), (q2, .inl (ca 1, 160, .inl (fun _ => 0)))] [.ref q3, .ref a0] [3] [0, 1, 2] ck_Reader_20 rfl rfl (by decide) (by decide) (by decide) d_Reader_init_20 (Nat.le_of_ble_eq_true rfl) (by decide) (by decide) (by decide) (by decide) (k_County_init D ca q3) (fun w1 hw => ?_)
  obtain ⟨q4, q5, q6, q7, q8, q9, q10, q11, q12, q13, q14, q15, q16, q17, q18, q19, rfl⟩ := hw
  refine U_eq [(a0, .inr (5, [.ref q1, .null, .null, .null, .int 0, .int 0, .int 0])), (q1, .inr (8, [.ref q2, .int 0, .int 0, .int 0, .int 0, .int 0])), (q2, .inl (ca 1, 160, .inl (fun _ => 0))), (q3, .inr (1, [.ref q4, .ref q5, .ref q6, .int 0, .int 9])), (q6, .inr (7, [.ref q7, .ref q8, .ref q9, .ref q10, .int 0])), (q7, .inl (ca 0, 8, .inl (fun _ => 0))), (q8, .inl (ca 0, 8, .inl (fun _ => 0))), (q9, .inl (ca 0, 8, .inl (fun _ => 0))), (q10, .inl (ca 0, 8, .inl (fun _ => 0))), (q4, .inr (2, [.int 3, .int 3, .int 1, .int 10, .ref q11, .ref q12, .ref q13, .ref q14, .ref q15])), (q11, .inl (ca 0, 16, .inl (fun _ => 0))), (q12, .inl (ca 0, 16, .inl (fun _ => 0))), (q13, .inl (ca 0, 16, .inl (fun _ => 5))), (q14, .inl (ca 0, 16, .inl (fun _ => (-4)))), (q15, .inl (ca 0, 16, .inl (fun _ => 0))), (q5, .inr (3, [.ref q16, .ref q17, .ref q18, .ref q19, .int 0])), (q17, .inl (ca 0, 8, .inl (fun _ => 0))), (q18, .inl (ca 0, 8, .inl (fun _ => 0))), (q19, .inl (ca 0, 8, .inl (fun _ => 0))), (q16, .inl (ca 0, 4, .inl (fun _ => 0)))] rfl ?_
  refine U_putF (ty := t_Reader 1) t_Reader 0 rfl rfl i_Reader t_Reader_ok n_Reader (by decide) fl_Reader_21 rfl rfl rfl (t_Reader_ok 1 (by decide)) rfl rfl (Nat.le_of_ble_eq_true rfl) d_Reader_init_23 ?_
  refine U_eq [(a0, .inr (5, [.ref q1, .ref q3, .null, .null, .int 0, .int 0, .int 0])), (q1, .inr (8, [.ref q2, .int 0, .int 0, .int 0, .int 0, .int 0])), (q2, .inl (ca 1, 160, .inl (fun _ => 0))), (q3, .inr (1, [.ref q4, .ref q5, .ref q6, .int 0, .int 9])), (q6, .inr (7, [.ref q7, .ref q8, .ref q9, .ref q10, .int 0])), (q7, .inl (ca 0, 8, .inl (fun _ => 0))), (q8, .inl (ca 0, 8, .inl (fun _ => 0))), (q9, .inl (ca 0, 8, .inl (fun _ => 0))), (q10, .inl (ca 0, 8, .inl (fun _ => 0))), (q4, .inr (2, [.int 3, .int 3, .int 1, .int 10, .ref q11, .ref q12, .ref q13, .ref q14, .ref q15])), (q11, .inl (ca 0, 16, .inl (fun _ => 0))), (q12, .inl (ca 0, 16, .inl (fun _ => 0))), (q13, .inl (ca 0, 16, .inl (fun _ => 5))), (q14, .inl (ca 0, 16, .inl (fun _ => (-4)))), (q15, .inl (ca 0, 16, .inl (fun _ => 0))), (q5, .inr (3, [.ref q16, .ref q17, .ref q18, .ref q19, .int 0])), (q17, .inl (ca 0, 8, .inl (fun _ => 0))), (q18, .inl (ca 0, 8, .inl (fun _ => 0))), (q19, .inl (ca 0, 8, .inl (fun _ => 0))), (q16, .inl (ca 0, 4, .inl (fun _ => 0)))] rfl ?_
  refine U_aload_n 0 d_Reader_init_26 rfl rfl ?_
  refine U_iconst 3 d_Reader_init_27 (by decide) ?_
  refine U_newI 3 (by decide) (by decide) wa_int (by decide) d_Reader_init_28 (by decide) (by decide) (fun q20 => ?_)
  refine U_eq [(a0, .inr (5, [.ref q1, .ref q3, .null, .null, .int 0, .int 0, .int 0])), (q1, .inr (8, [.ref q2, .int 0, .int 0, .int 0, .int 0, .int 0])), (q2, .inl (ca 1, 160, .inl (fun _ => 0))), (q3, .inr (1, [.ref q4, .ref q5, .ref q6, .int 0, .int 9])), (q6, .inr (7, [.ref q7, .ref q8, .ref q9, .ref q10, .int 0])), (q7, .inl (ca 0, 8, .inl (fun _ => 0))), (q8, .inl (ca 0, 8, .inl (fun _ => 0))), (q9, .inl (ca 0, 8, .inl (fun _ => 0))), (q10, .inl (ca 0, 8, .inl (fun _ => 0))), (q4, .inr (2, [.int 3, .int 3, .int 1, .int 10, .ref q11, .ref q12, .ref q13, .ref q14, .ref q15])), (q11, .inl (ca 0, 16, .inl (fun _ => 0))), (q12, .inl (ca 0, 16, .inl (fun _ => 0))), (q13, .inl (ca 0, 16, .inl (fun _ => 5))), (q14, .inl (ca 0, 16, .inl (fun _ => (-4)))), (q15, .inl (ca 0, 16, .inl (fun _ => 0))), (q5, .inr (3, [.ref q16, .ref q17, .ref q18, .ref q19, .int 0])), (q17, .inl (ca 0, 8, .inl (fun _ => 0))), (q18, .inl (ca 0, 8, .inl (fun _ => 0))), (q19, .inl (ca 0, 8, .inl (fun _ => 0))), (q16, .inl (ca 0, 4, .inl (fun _ => 0))), (q20, .inl (ca 0, 3, .inl (fun _ => 0)))] rfl ?_
  refine U_putF (ty := t_Reader 2) t_Reader 0 rfl rfl i_Reader t_Reader_ok n_Reader (by decide) fl_Reader_25 rfl rfl rfl (t_Reader_ok 2 (by decide)) rfl rfl (Nat.le_of_ble_eq_true rfl) d_Reader_init_30 ?_
  refine U_eq [(a0, .inr (5, [.ref q1, .ref q3, .ref q20, .null, .int 0, .int 0, .int 0])), (q1, .inr (8, [.ref q2, .int 0, .int 0, .int 0, .int 0, .int 0])), (q2, .inl (ca 1, 160, .inl (fun _ => 0))), (q3, .inr (1, [.ref q4, .ref q5, .ref q6, .int 0, .int 9])), (q6, .inr (7, [.ref q7, .ref q8, .ref q9, .ref q10, .int 0])), (q7, .inl (ca 0, 8, .inl (fun _ => 0))), (q8, .inl (ca 0, 8, .inl (fun _ => 0))), (q9, .inl (ca 0, 8, .inl (fun _ => 0))), (q10, .inl (ca 0, 8, .inl (fun _ => 0))), (q4, .inr (2, [.int 3, .int 3, .int 1, .int 10, .ref q11, .ref q12, .ref q13, .ref q14, .ref q15])), (q11, .inl (ca 0, 16, .inl (fun _ => 0))), (q12, .inl (ca 0, 16, .inl (fun _ => 0))), (q13, .inl (ca 0, 16, .inl (fun _ => 5))), (q14, .inl (ca 0, 16, .inl (fun _ => (-4)))), (q15, .inl (ca 0, 16, .inl (fun _ => 0))), (q5, .inr (3, [.ref q16, .ref q17, .ref q18, .ref q19, .int 0])), (q17, .inl (ca 0, 8, .inl (fun _ => 0))), (q18, .inl (ca 0, 8, .inl (fun _ => 0))), (q19, .inl (ca 0, 8, .inl (fun _ => 0))), (q16, .inl (ca 0, 4, .inl (fun _ => 0))), (q20, .inl (ca 0, 3, .inl (fun _ => 0)))] rfl ?_
  refine U_aload_n 0 d_Reader_init_33 rfl rfl ?_
  refine U_bipush 10 d_Reader_init_34 (by decide) ?_
  refine U_newI 10 (by decide) (by decide) wa_int (by decide) d_Reader_init_36 (by decide) (by decide) (fun q21 => ?_)
  refine U_eq [(a0, .inr (5, [.ref q1, .ref q3, .ref q20, .null, .int 0, .int 0, .int 0])), (q1, .inr (8, [.ref q2, .int 0, .int 0, .int 0, .int 0, .int 0])), (q2, .inl (ca 1, 160, .inl (fun _ => 0))), (q3, .inr (1, [.ref q4, .ref q5, .ref q6, .int 0, .int 9])), (q6, .inr (7, [.ref q7, .ref q8, .ref q9, .ref q10, .int 0])), (q7, .inl (ca 0, 8, .inl (fun _ => 0))), (q8, .inl (ca 0, 8, .inl (fun _ => 0))), (q9, .inl (ca 0, 8, .inl (fun _ => 0))), (q10, .inl (ca 0, 8, .inl (fun _ => 0))), (q4, .inr (2, [.int 3, .int 3, .int 1, .int 10, .ref q11, .ref q12, .ref q13, .ref q14, .ref q15])), (q11, .inl (ca 0, 16, .inl (fun _ => 0))), (q12, .inl (ca 0, 16, .inl (fun _ => 0))), (q13, .inl (ca 0, 16, .inl (fun _ => 5))), (q14, .inl (ca 0, 16, .inl (fun _ => (-4)))), (q15, .inl (ca 0, 16, .inl (fun _ => 0))), (q5, .inr (3, [.ref q16, .ref q17, .ref q18, .ref q19, .int 0])), (q17, .inl (ca 0, 8, .inl (fun _ => 0))), (q18, .inl (ca 0, 8, .inl (fun _ => 0))), (q19, .inl (ca 0, 8, .inl (fun _ => 0))), (q16, .inl (ca 0, 4, .inl (fun _ => 0))), (q20, .inl (ca 0, 3, .inl (fun _ => 0))), (q21, .inl (ca 0, 10, .inl (fun _ => 0)))] rfl ?_
  refine U_putF (ty := t_Reader 3) t_Reader 0 rfl rfl i_Reader t_Reader_ok n_Reader (by decide) fl_Reader_29 rfl rfl rfl (t_Reader_ok 3 (by decide)) rfl rfl (Nat.le_of_ble_eq_true rfl) d_Reader_init_38 ?_
  refine U_eq [(a0, .inr (5, [.ref q1, .ref q3, .ref q20, .ref q21, .int 0, .int 0, .int 0])), (q1, .inr (8, [.ref q2, .int 0, .int 0, .int 0, .int 0, .int 0])), (q2, .inl (ca 1, 160, .inl (fun _ => 0))), (q3, .inr (1, [.ref q4, .ref q5, .ref q6, .int 0, .int 9])), (q6, .inr (7, [.ref q7, .ref q8, .ref q9, .ref q10, .int 0])), (q7, .inl (ca 0, 8, .inl (fun _ => 0))), (q8, .inl (ca 0, 8, .inl (fun _ => 0))), (q9, .inl (ca 0, 8, .inl (fun _ => 0))), (q10, .inl (ca 0, 8, .inl (fun _ => 0))), (q4, .inr (2, [.int 3, .int 3, .int 1, .int 10, .ref q11, .ref q12, .ref q13, .ref q14, .ref q15])), (q11, .inl (ca 0, 16, .inl (fun _ => 0))), (q12, .inl (ca 0, 16, .inl (fun _ => 0))), (q13, .inl (ca 0, 16, .inl (fun _ => 5))), (q14, .inl (ca 0, 16, .inl (fun _ => (-4)))), (q15, .inl (ca 0, 16, .inl (fun _ => 0))), (q5, .inr (3, [.ref q16, .ref q17, .ref q18, .ref q19, .int 0])), (q17, .inl (ca 0, 8, .inl (fun _ => 0))), (q18, .inl (ca 0, 8, .inl (fun _ => 0))), (q19, .inl (ca 0, 8, .inl (fun _ => 0))), (q16, .inl (ca 0, 4, .inl (fun _ => 0))), (q20, .inl (ca 0, 3, .inl (fun _ => 0))), (q21, .inl (ca 0, 10, .inl (fun _ => 0)))] rfl ?_
  exact U_vret d_Reader_init_41 ⟨q1, q3, q20, q21, q2, q4, q5, q6, q7, q8, q9, q10, q11, q12, q13, q14, q15, q16, q17, q18, q19, rfl⟩ rfl rfl
theorem d_Plans_init_0 : decode b_Plans_init 0 = .ok (.aload_n 0, 1) := dc_42 (by decide +kernel)
theorem d_Plans_init_1 : decode b_Plans_init 1 = .ok (.invokespecial 3, 3) := dc_183 (a := 0) (b := 3) (by decide +kernel) rfl
theorem d_Plans_init_4 : decode b_Plans_init 4 = .ok (.aload_n 0, 1) := dc_42 (by decide +kernel)
theorem d_Plans_init_5 : decode b_Plans_init 5 = .ok (.iconst 4, 1) := dc_7 (by decide +kernel)
theorem d_Plans_init_6 : decode b_Plans_init 6 = .ok (.newarray .int, 2) := by decide +kernel
theorem d_Plans_init_8 : decode b_Plans_init 8 = .ok (.putfield 9, 3) := dc_181 (a := 0) (b := 9) (by decide +kernel) rfl
theorem d_Plans_init_11 : decode b_Plans_init 11 = .ok (.return_, 1) := dc_177 (by decide +kernel)
set_option maxRecDepth 100000 in
theorem k_Plans_init (D : va_G) (ca : Nat → ClassId) (a0 : Nat) : Cu y_Plans_init b_Plans_init 1 1 20 1 4 D ca [.ref a0] [(a0, .inr (4, [.null, .int 0, .int 0]))] (fun w => ∃ (q1 : Nat), w = [(a0, .inr (4, [.ref q1, .int 0, .int 0])), (q1, .inl (ca 0, 4, .inl (fun _ => 0)))]) := by
  refine cu_of R_Plans true [some (.ref a0)] rfl (fun _ => rfl) (by decide) rfl (Nat.le_of_ble_eq_true rfl) ?_
  refine U_aload_n 0 d_Plans_init_0 rfl rfl ?_
  refine U_obj wo_Plans_3 wo1 wo2 d_Plans_init_1 (by decide) (Nat.le_of_ble_eq_true rfl) ?_
  refine U_aload_n 0 d_Plans_init_4 rfl rfl ?_
  refine U_iconst 4 d_Plans_init_5 (by decide) ?_
  refine U_newI 4 (by decide) (by decide) wa_int (by decide) d_Plans_init_6 (by decide) (by decide) (fun q1 => ?_)
  refine U_eq [(a0, .inr (4, [.null, .int 0, .int 0])), (q1, .inl (ca 0, 4, .inl (fun _ => 0)))] rfl ?_
  refine U_putF (ty := t_Plans 0) t_Plans 0 rfl rfl i_Plans t_Plans_ok n_Plans (by decide) fl_Plans_9 rfl rfl rfl (t_Plans_ok 0 (by decide)) rfl rfl (Nat.le_of_ble_eq_true rfl) d_Plans_init_8 ?_
  refine U_eq [(a0, .inr (4, [.ref q1, .int 0, .int 0])), (q1, .inl (ca 0, 4, .inl (fun _ => 0)))] rfl ?_
  exact U_vret d_Plans_init_11 ⟨q1, rfl⟩ rfl rfl
theorem d_Beds_init_0 : decode b_Beds_init 0 = .ok (.aload_n 0, 1) := dc_42 (by decide +kernel)
theorem d_Beds_init_1 : decode b_Beds_init 1 = .ok (.invokespecial 3, 3) := dc_183 (a := 0) (b := 3) (by decide +kernel) rfl
theorem d_Beds_init_4 : decode b_Beds_init 4 = .ok (.aload_n 0, 1) := dc_42 (by decide +kernel)
theorem d_Beds_init_5 : decode b_Beds_init 5 = .ok (.bipush 48, 2) := dc_16 (a := 48) (by decide +kernel) rfl
theorem d_Beds_init_7 : decode b_Beds_init 7 = .ok (.newarray .int, 2) := by decide +kernel
theorem d_Beds_init_9 : decode b_Beds_init 9 = .ok (.putfield 9, 3) := dc_181 (a := 0) (b := 9) (by decide +kernel) rfl
theorem d_Beds_init_12 : decode b_Beds_init 12 = .ok (.aload_n 0, 1) := dc_42 (by decide +kernel)
theorem d_Beds_init_13 : decode b_Beds_init 13 = .ok (.bipush 10, 2) := dc_16 (a := 10) (by decide +kernel) rfl
theorem d_Beds_init_15 : decode b_Beds_init 15 = .ok (.newarray .int, 2) := by decide +kernel
theorem d_Beds_init_17 : decode b_Beds_init 17 = .ok (.putfield 15, 3) := dc_181 (a := 0) (b := 15) (by decide +kernel) rfl
theorem d_Beds_init_20 : decode b_Beds_init 20 = .ok (.return_, 1) := dc_177 (by decide +kernel)
set_option maxRecDepth 100000 in
theorem k_Beds_init (D : va_G) (ca : Nat → ClassId) (a0 : Nat) : Cu y_Beds_init b_Beds_init 1 1 20 2 58 D ca [.ref a0] [(a0, .inr (0, [.null, .int 0, .null, .int 0, .int 0, .int 0, .int 0, .int 0]))] (fun w => ∃ (q1 : Nat) (q2 : Nat), w = [(a0, .inr (0, [.ref q1, .int 0, .ref q2, .int 0, .int 0, .int 0, .int 0, .int 0])), (q1, .inl (ca 0, 48, .inl (fun _ => 0))), (q2, .inl (ca 0, 10, .inl (fun _ => 0)))]) := by
  refine cu_of R_Beds true [some (.ref a0)] rfl (fun _ => rfl) (by decide) rfl (Nat.le_of_ble_eq_true rfl) ?_
  refine U_aload_n 0 d_Beds_init_0 rfl rfl ?_
  refine U_obj wo_Beds_3 wo1 wo2 d_Beds_init_1 (by decide) (Nat.le_of_ble_eq_true rfl) ?_
  refine U_aload_n 0 d_Beds_init_4 rfl rfl ?_
  refine U_bipush 48 d_Beds_init_5 (by decide) ?_
  refine U_newI 48 (by decide) (by decide) wa_int (by decide) d_Beds_init_7 (by decide) (by decide) (fun q1 => ?_)
  refine U_eq [(a0, .inr (0, [.null, .int 0, .null, .int 0, .int 0, .int 0, .int 0, .int 0])), (q1, .inl (ca 0, 48, .inl (fun _ => 0)))] rfl ?_
  refine U_putF (ty := t_Beds 0) t_Beds 0 rfl rfl i_Beds t_Beds_ok n_Beds (by decide) fl_Beds_9 rfl rfl rfl (t_Beds_ok 0 (by decide)) rfl rfl (Nat.le_of_ble_eq_true rfl) d_Beds_init_9 ?_
  refine U_eq [(a0, .inr (0, [.ref q1, .int 0, .null, .int 0, .int 0, .int 0, .int 0, .int 0])), (q1, .inl (ca 0, 48, .inl (fun _ => 0)))] rfl ?_
  refine U_aload_n 0 d_Beds_init_12 rfl rfl ?_
  refine U_bipush 10 d_Beds_init_13 (by decide) ?_
  refine U_newI 10 (by decide) (by decide) wa_int (by decide) d_Beds_init_15 (by decide) (by decide) (fun q2 => ?_)
  refine U_eq [(a0, .inr (0, [.ref q1, .int 0, .null, .int 0, .int 0, .int 0, .int 0, .int 0])), (q1, .inl (ca 0, 48, .inl (fun _ => 0))), (q2, .inl (ca 0, 10, .inl (fun _ => 0)))] rfl ?_
  refine U_putF (ty := t_Beds 2) t_Beds 0 rfl rfl i_Beds t_Beds_ok n_Beds (by decide) fl_Beds_15 rfl rfl rfl (t_Beds_ok 2 (by decide)) rfl rfl (Nat.le_of_ble_eq_true rfl) d_Beds_init_17 ?_
  refine U_eq [(a0, .inr (0, [.ref q1, .int 0, .ref q2, .int 0, .int 0, .int 0, .int 0, .int 0])), (q1, .inl (ca 0, 48, .inl (fun _ => 0))), (q2, .inl (ca 0, 10, .inl (fun _ => 0)))] rfl ?_
  exact U_vret d_Beds_init_20 ⟨q1, q2, rfl⟩ rfl rfl
theorem d_Sheet_init_0 : decode b_Sheet_init 0 = .ok (.aload_n 0, 1) := dc_42 (by decide +kernel)
theorem d_Sheet_init_1 : decode b_Sheet_init 1 = .ok (.invokespecial 3, 3) := dc_183 (a := 0) (b := 3) (by decide +kernel) rfl
theorem d_Sheet_init_4 : decode b_Sheet_init 4 = .ok (.aload_n 0, 1) := dc_42 (by decide +kernel)
theorem d_Sheet_init_5 : decode b_Sheet_init 5 = .ok (.bipush 40, 2) := dc_16 (a := 40) (by decide +kernel) rfl
theorem d_Sheet_init_7 : decode b_Sheet_init 7 = .ok (.newarray .int, 2) := by decide +kernel
theorem d_Sheet_init_9 : decode b_Sheet_init 9 = .ok (.putfield 9, 3) := dc_181 (a := 0) (b := 9) (by decide +kernel) rfl
theorem d_Sheet_init_12 : decode b_Sheet_init 12 = .ok (.aload_n 0, 1) := dc_42 (by decide +kernel)
theorem d_Sheet_init_13 : decode b_Sheet_init 13 = .ok (.iconst (-1), 1) := dc_2 (by decide +kernel)
theorem d_Sheet_init_14 : decode b_Sheet_init 14 = .ok (.putfield 15, 3) := dc_181 (a := 0) (b := 15) (by decide +kernel) rfl
theorem d_Sheet_init_17 : decode b_Sheet_init 17 = .ok (.return_, 1) := dc_177 (by decide +kernel)
set_option maxRecDepth 100000 in
theorem k_Sheet_init (D : va_G) (ca : Nat → ClassId) (a0 : Nat) : Cu y_Sheet_init b_Sheet_init 1 1 20 1 40 D ca [.ref a0] [(a0, .inr (6, [.null, .int 0, .int 0]))] (fun w => ∃ (q1 : Nat), w = [(a0, .inr (6, [.ref q1, .int (-1), .int 0])), (q1, .inl (ca 0, 40, .inl (fun _ => 0)))]) := by
  refine cu_of R_Sheet true [some (.ref a0)] rfl (fun _ => rfl) (by decide) rfl (Nat.le_of_ble_eq_true rfl) ?_
  refine U_aload_n 0 d_Sheet_init_0 rfl rfl ?_
  refine U_obj wo_Sheet_3 wo1 wo2 d_Sheet_init_1 (by decide) (Nat.le_of_ble_eq_true rfl) ?_
  refine U_aload_n 0 d_Sheet_init_4 rfl rfl ?_
  refine U_bipush 40 d_Sheet_init_5 (by decide) ?_
  refine U_newI 40 (by decide) (by decide) wa_int (by decide) d_Sheet_init_7 (by decide) (by decide) (fun q1 => ?_)
  refine U_eq [(a0, .inr (6, [.null, .int 0, .int 0])), (q1, .inl (ca 0, 40, .inl (fun _ => 0)))] rfl ?_
  refine U_putF (ty := t_Sheet 0) t_Sheet 0 rfl rfl i_Sheet t_Sheet_ok n_Sheet (by decide) fl_Sheet_9 rfl rfl rfl (t_Sheet_ok 0 (by decide)) rfl rfl (Nat.le_of_ble_eq_true rfl) d_Sheet_init_9 ?_
  refine U_eq [(a0, .inr (6, [.ref q1, .int 0, .int 0])), (q1, .inl (ca 0, 40, .inl (fun _ => 0)))] rfl ?_
  refine U_aload_n 0 d_Sheet_init_12 rfl rfl ?_
  refine U_iconst (-1) d_Sheet_init_13 (by decide) ?_
  refine U_putI t_Sheet 0 rfl rfl i_Sheet t_Sheet_ok n_Sheet (by decide) fl_Sheet_15 rfl (t_Sheet_ok 1 (by decide)) (Nat.le_of_ble_eq_true rfl) d_Sheet_init_14 ?_
  refine U_eq [(a0, .inr (6, [.ref q1, .int (-1), .int 0])), (q1, .inl (ca 0, 40, .inl (fun _ => 0)))] rfl ?_
  exact U_vret d_Sheet_init_17 ⟨q1, rfl⟩ rfl rfl
theorem d_Walks_init_0 : decode b_Walks_init 0 = .ok (.aload_n 0, 1) := dc_42 (by decide +kernel)
theorem d_Walks_init_1 : decode b_Walks_init 1 = .ok (.invokespecial 3, 3) := dc_183 (a := 0) (b := 3) (by decide +kernel) rfl
theorem d_Walks_init_4 : decode b_Walks_init 4 = .ok (.aload_n 0, 1) := dc_42 (by decide +kernel)
theorem d_Walks_init_5 : decode b_Walks_init 5 = .ok (.bipush 6, 2) := dc_16 (a := 6) (by decide +kernel) rfl
theorem d_Walks_init_7 : decode b_Walks_init 7 = .ok (.bipush 16, 2) := dc_16 (a := 16) (by decide +kernel) rfl
theorem d_Walks_init_9 : decode b_Walks_init 9 = .ok (.multianewarray 9 2, 4) := by decide +kernel
theorem d_Walks_init_13 : decode b_Walks_init 13 = .ok (.putfield 11, 3) := dc_181 (a := 0) (b := 11) (by decide +kernel) rfl
theorem d_Walks_init_16 : decode b_Walks_init 16 = .ok (.aload_n 0, 1) := dc_42 (by decide +kernel)
theorem d_Walks_init_17 : decode b_Walks_init 17 = .ok (.bipush 6, 2) := dc_16 (a := 6) (by decide +kernel) rfl
theorem d_Walks_init_19 : decode b_Walks_init 19 = .ok (.newarray .int, 2) := by decide +kernel
theorem d_Walks_init_21 : decode b_Walks_init 21 = .ok (.putfield 16, 3) := dc_181 (a := 0) (b := 16) (by decide +kernel) rfl
theorem d_Walks_init_24 : decode b_Walks_init 24 = .ok (.return_, 1) := dc_177 (by decide +kernel)
set_option maxRecDepth 100000 in
theorem k_Walks_init (D : va_G) (ca : Nat → ClassId) (a0 : Nat) : Cu y_Walks_init b_Walks_init 1 1 20 8 108 D ca [.ref a0] [(a0, .inr (9, [.null, .null]))] (fun w => ∃ (q1 : Nat) (q3 : Nat) (r2 : Nat → Nat), w = [(a0, .inr (9, [.ref q1, .ref q3])), (q1, .inl (ca 5, 6, .inr (.inr (.inr (.inr (fun i => if i < 6 then some (r2 i) else none)))))), ((r2 0), .inl (ca 0, 16, .inl (fun _ => 0))), ((r2 1), .inl (ca 0, 16, .inl (fun _ => 0))), ((r2 2), .inl (ca 0, 16, .inl (fun _ => 0))), ((r2 3), .inl (ca 0, 16, .inl (fun _ => 0))), ((r2 4), .inl (ca 0, 16, .inl (fun _ => 0))), ((r2 5), .inl (ca 0, 16, .inl (fun _ => 0))), (q3, .inl (ca 0, 6, .inl (fun _ => 0)))]) := by
  refine cu_of R_Walks true [some (.ref a0)] rfl (fun _ => rfl) (by decide) rfl (Nat.le_of_ble_eq_true rfl) ?_
  refine U_aload_n 0 d_Walks_init_0 rfl rfl ?_
  refine U_obj wo_Walks_3 wo1 wo2 d_Walks_init_1 (by decide) (Nat.le_of_ble_eq_true rfl) ?_
  refine U_aload_n 0 d_Walks_init_4 rfl rfl ?_
  refine U_bipush 6 d_Walks_init_5 (by decide) ?_
  refine U_bipush 16 d_Walks_init_7 (by decide) ?_
  refine U_mna wk_Walks_9 wa_int d_Walks_init_9 (by decide) (by decide) (fun q1 r2 => ?_)
  refine U_eq [(a0, .inr (9, [.null, .null])), (q1, .inl (ca 5, 6, .inr (.inr (.inr (.inr (fun i => if i < 6 then some (r2 i) else none)))))), ((r2 0), .inl (ca 0, 16, .inl (fun _ => 0))), ((r2 1), .inl (ca 0, 16, .inl (fun _ => 0))), ((r2 2), .inl (ca 0, 16, .inl (fun _ => 0))), ((r2 3), .inl (ca 0, 16, .inl (fun _ => 0))), ((r2 4), .inl (ca 0, 16, .inl (fun _ => 0))), ((r2 5), .inl (ca 0, 16, .inl (fun _ => 0)))] rfl ?_
  refine U_putF (ty := t_Walks 0) t_Walks 0 rfl rfl i_Walks t_Walks_ok n_Walks (by decide) fl_Walks_11 rfl rfl rfl (t_Walks_ok 0 (by decide)) rfl rfl (Nat.le_of_ble_eq_true rfl) d_Walks_init_13 ?_
  refine U_eq [(a0, .inr (9, [.ref q1, .null])), (q1, .inl (ca 5, 6, .inr (.inr (.inr (.inr (fun i => if i < 6 then some (r2 i) else none)))))), ((r2 0), .inl (ca 0, 16, .inl (fun _ => 0))), ((r2 1), .inl (ca 0, 16, .inl (fun _ => 0))), ((r2 2), .inl (ca 0, 16, .inl (fun _ => 0))), ((r2 3), .inl (ca 0, 16, .inl (fun _ => 0))), ((r2 4), .inl (ca 0, 16, .inl (fun _ => 0))), ((r2 5), .inl (ca 0, 16, .inl (fun _ => 0)))] rfl ?_
  refine U_aload_n 0 d_Walks_init_16 rfl rfl ?_
  refine U_bipush 6 d_Walks_init_17 (by decide) ?_
  refine U_newI 6 (by decide) (by decide) wa_int (by decide) d_Walks_init_19 (by decide) (by decide) (fun q3 => ?_)
  refine U_eq [(a0, .inr (9, [.ref q1, .null])), (q1, .inl (ca 5, 6, .inr (.inr (.inr (.inr (fun i => if i < 6 then some (r2 i) else none)))))), ((r2 0), .inl (ca 0, 16, .inl (fun _ => 0))), ((r2 1), .inl (ca 0, 16, .inl (fun _ => 0))), ((r2 2), .inl (ca 0, 16, .inl (fun _ => 0))), ((r2 3), .inl (ca 0, 16, .inl (fun _ => 0))), ((r2 4), .inl (ca 0, 16, .inl (fun _ => 0))), ((r2 5), .inl (ca 0, 16, .inl (fun _ => 0))), (q3, .inl (ca 0, 6, .inl (fun _ => 0)))] rfl ?_
  refine U_putF (ty := t_Walks 1) t_Walks 0 rfl rfl i_Walks t_Walks_ok n_Walks (by decide) fl_Walks_16 rfl rfl rfl (t_Walks_ok 1 (by decide)) rfl rfl (Nat.le_of_ble_eq_true rfl) d_Walks_init_21 ?_
  refine U_eq [(a0, .inr (9, [.ref q1, .ref q3])), (q1, .inl (ca 5, 6, .inr (.inr (.inr (.inr (fun i => if i < 6 then some (r2 i) else none)))))), ((r2 0), .inl (ca 0, 16, .inl (fun _ => 0))), ((r2 1), .inl (ca 0, 16, .inl (fun _ => 0))), ((r2 2), .inl (ca 0, 16, .inl (fun _ => 0))), ((r2 3), .inl (ca 0, 16, .inl (fun _ => 0))), ((r2 4), .inl (ca 0, 16, .inl (fun _ => 0))), ((r2 5), .inl (ca 0, 16, .inl (fun _ => 0))), (q3, .inl (ca 0, 6, .inl (fun _ => 0)))] rfl ?_
  exact U_vret d_Walks_init_24 ⟨q1, q3, r2, rfl⟩ rfl rfl
end
