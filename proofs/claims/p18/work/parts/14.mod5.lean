theorem fa_Mod_17 : FA R_Mod 17 11 6 := ⟨_, _, _, rfl, i_Mod, by decide, vv_Gin (List.mem_append_right _ (List.mem_append_right _ (List.mem_append_right _ (List.mem_append_right _ (List.mem_append_left _ (List.mem_of_getElem? (i := 229) rfl)))))) rfl⟩
theorem fp_Mod_62 : FP R_Mod 62 11 7 .int := ⟨_, _, _, t_Mod, rfl, i_Mod, by decide, vv_Gin (List.mem_append_right _ (List.mem_append_right _ (List.mem_append_right _ (List.mem_append_right _ (List.mem_append_left _ (List.mem_of_getElem? (i := 230) rfl)))))) rfl, t_Mod_ok, n_Mod, rfl, t_Mod_ok 7 (by decide)⟩
theorem fp_Mod_66 : FP R_Mod 66 11 8 .int := ⟨_, _, _, t_Mod, rfl, i_Mod, by decide, vv_Gin (List.mem_append_right _ (List.mem_append_right _ (List.mem_append_right _ (List.mem_append_right _ (List.mem_append_left _ (List.mem_of_getElem? (i := 231) rfl)))))) rfl, t_Mod_ok, n_Mod, rfl, t_Mod_ok 8 (by decide)⟩
theorem fp_Mod_69 : FP R_Mod 69 11 9 .int := ⟨_, _, _, t_Mod, rfl, i_Mod, by decide, vv_Gin (List.mem_append_right _ (List.mem_append_right _ (List.mem_append_right _ (List.mem_append_right _ (List.mem_append_left _ (List.mem_of_getElem? (i := 232) rfl)))))) rfl, t_Mod_ok, n_Mod, rfl, t_Mod_ok 9 (by decide)⟩
theorem fp_Mod_72 : FP R_Mod 72 11 10 .int := ⟨_, _, _, t_Mod, rfl, i_Mod, by decide, vv_Gin (List.mem_append_right _ (List.mem_append_right _ (List.mem_append_right _ (List.mem_append_right _ (List.mem_append_left _ (List.mem_of_getElem? (i := 233) rfl)))))) rfl, t_Mod_ok, n_Mod, rfl, t_Mod_ok 10 (by decide)⟩
theorem fp_Mod_75 : FP R_Mod 75 11 11 .int := ⟨_, _, _, t_Mod, rfl, i_Mod, by decide, vv_Gin (List.mem_append_right _ (List.mem_append_right _ (List.mem_append_right _ (List.mem_append_right _ (List.mem_append_left _ (List.mem_of_getElem? (i := 234) rfl)))))) rfl, t_Mod_ok, n_Mod, rfl, t_Mod_ok 11 (by decide)⟩
theorem tc_6 : (6 : Int32).toInt = 6 := rfl
theorem fp_Mod_78 : FP R_Mod 78 11 13 .int := ⟨_, _, _, t_Mod, rfl, i_Mod, by decide, vv_Gin (List.mem_append_right _ (List.mem_append_right _ (List.mem_append_right _ (List.mem_append_right _ (List.mem_append_left _ (List.mem_of_getElem? (i := 236) rfl)))))) rfl, t_Mod_ok, n_Mod, rfl, t_Mod_ok 13 (by decide)⟩
theorem fa_Mod_20 : FA R_Mod 20 11 12 := ⟨_, _, _, rfl, i_Mod, by decide, vv_Gin (List.mem_append_right _ (List.mem_append_right _ (List.mem_append_right _ (List.mem_append_right _ (List.mem_append_left _ (List.mem_of_getElem? (i := 235) rfl)))))) rfl⟩
theorem fa_Mod_62 : FA R_Mod 62 11 7 := ⟨_, _, _, rfl, i_Mod, by decide, vv_Gin (List.mem_append_right _ (List.mem_append_right _ (List.mem_append_right _ (List.mem_append_right _ (List.mem_append_left _ (List.mem_of_getElem? (i := 230) rfl)))))) rfl⟩
theorem fp_Mod_81 : FP R_Mod 81 11 2 .int := ⟨_, _, _, t_Mod, rfl, i_Mod, by decide, vv_Gin (List.mem_append_right _ (List.mem_append_right _ (List.mem_append_right _ (List.mem_append_right _ (List.mem_append_left _ (List.mem_of_getElem? (i := 225) rfl)))))) rfl, t_Mod_ok, n_Mod, rfl, t_Mod_ok 2 (by decide)⟩
theorem fa_Mod_66 : FA R_Mod 66 11 8 := ⟨_, _, _, rfl, i_Mod, by decide, vv_Gin (List.mem_append_right _ (List.mem_append_right _ (List.mem_append_right _ (List.mem_append_right _ (List.mem_append_left _ (List.mem_of_getElem? (i := 231) rfl)))))) rfl⟩
theorem fp_Mod_84 : FP R_Mod 84 11 3 .int := ⟨_, _, _, t_Mod, rfl, i_Mod, by decide, vv_Gin (List.mem_append_right _ (List.mem_append_right _ (List.mem_append_right _ (List.mem_append_right _ (List.mem_append_left _ (List.mem_of_getElem? (i := 226) rfl)))))) rfl, t_Mod_ok, n_Mod, rfl, t_Mod_ok 3 (by decide)⟩
theorem fa_Mod_69 : FA R_Mod 69 11 9 := ⟨_, _, _, rfl, i_Mod, by decide, vv_Gin (List.mem_append_right _ (List.mem_append_right _ (List.mem_append_right _ (List.mem_append_right _ (List.mem_append_left _ (List.mem_of_getElem? (i := 232) rfl)))))) rfl⟩
theorem fp_Mod_87 : FP R_Mod 87 11 4 .int := ⟨_, _, _, t_Mod, rfl, i_Mod, by decide, vv_Gin (List.mem_append_right _ (List.mem_append_right _ (List.mem_append_right _ (List.mem_append_right _ (List.mem_append_left _ (List.mem_of_getElem? (i := 227) rfl)))))) rfl, t_Mod_ok, n_Mod, rfl, t_Mod_ok 4 (by decide)⟩
theorem fa_Mod_72 : FA R_Mod 72 11 10 := ⟨_, _, _, rfl, i_Mod, by decide, vv_Gin (List.mem_append_right _ (List.mem_append_right _ (List.mem_append_right _ (List.mem_append_right _ (List.mem_append_left _ (List.mem_of_getElem? (i := 233) rfl)))))) rfl⟩
theorem fp_Mod_90 : FP R_Mod 90 11 5 .int := ⟨_, _, _, t_Mod, rfl, i_Mod, by decide, vv_Gin (List.mem_append_right _ (List.mem_append_right _ (List.mem_append_right _ (List.mem_append_right _ (List.mem_append_left _ (List.mem_of_getElem? (i := 228) rfl)))))) rfl, t_Mod_ok, n_Mod, rfl, t_Mod_ok 5 (by decide)⟩
theorem fp_Mod_102 : FP R_Mod 102 11 20 .int := ⟨_, _, _, t_Mod, rfl, i_Mod, by decide, vv_Gin (List.mem_append_right _ (List.mem_append_right _ (List.mem_append_right _ (List.mem_append_right _ (List.mem_append_right _ (List.mem_append_left _ (List.mem_of_getElem? (i := 3) rfl))))))) rfl, t_Mod_ok, n_Mod, rfl, t_Mod_ok 20 (by decide)⟩
theorem fa_Mod_105 : FA R_Mod 105 11 17 := ⟨_, _, _, rfl, i_Mod, by decide, vv_Gin (List.mem_append_right _ (List.mem_append_right _ (List.mem_append_right _ (List.mem_append_right _ (List.mem_append_right _ (List.mem_append_left _ (List.mem_of_getElem? (i := 0) rfl))))))) rfl⟩
theorem fp_Mod_108 : FP R_Mod 108 11 21 .int := ⟨_, _, _, t_Mod, rfl, i_Mod, by decide, vv_Gin (List.mem_append_right _ (List.mem_append_right _ (List.mem_append_right _ (List.mem_append_right _ (List.mem_append_right _ (List.mem_append_left _ (List.mem_of_getElem? (i := 4) rfl))))))) rfl, t_Mod_ok, n_Mod, rfl, t_Mod_ok 21 (by decide)⟩
theorem fa_Mod_111 : FA R_Mod 111 11 16 := ⟨_, _, _, rfl, i_Mod, by decide, vv_Gin (List.mem_append_right _ (List.mem_append_right _ (List.mem_append_right _ (List.mem_append_right _ (List.mem_append_left _ (List.mem_of_getElem? (i := 239) rfl)))))) rfl⟩
theorem cb_Mod_look : CB y_Mod_look b_Mod_look 2 (some .int) 1 := ⟨vv_Gin (List.mem_append_right _ (List.mem_append_right _ (List.mem_append_right _ (List.mem_append_right _ (List.mem_append_right _ (List.mem_append_left _ (List.mem_of_getElem? (i := 118) rfl))))))) rfl, by decide +kernel, vv_Gin (List.mem_append_right _ (List.mem_append_left _ (List.mem_of_getElem? (i := 13) rfl))) rfl⟩
theorem im_Mod_look : Cond.instanceMethod y_Mod_look ∈ vv_G := vv_Gin (List.mem_append_right _ (List.mem_append_right _ (List.mem_append_right _ (List.mem_append_right _ (List.mem_append_right _ (List.mem_append_left _ (List.mem_of_getElem? (i := 117) rfl))))))) rfl
theorem se_Mod_look : Cond.selects y_Mod_look.cls y_Mod_look y_Mod_look ∈ vv_G := vv_Gin (List.mem_append_left _ (List.mem_of_getElem? (i := 20) rfl)) rfl
theorem cv_Mod_114 : CV R_Mod 114 y_Mod_look b_Mod_look 2 (some .int) 1 := ⟨cb_Mod_look, im_Mod_look, se_Mod_look, vv_Gin (List.mem_append_right _ (List.mem_append_right _ (List.mem_append_right _ (List.mem_append_right _ (List.mem_append_right _ (List.mem_append_left _ (List.mem_of_getElem? (i := 115) rfl))))))) rfl⟩
theorem tc_99 : (99 : Int32).toInt = 99 := rfl
theorem tc_117 : (117 : Int32).toInt = 117 := rfl
theorem cb_Mod_is : CB y_Mod_is b_Mod_is 5 (some .boolean) 4 := ⟨vv_Gin (List.mem_append_right _ (List.mem_append_right _ (List.mem_append_right _ (List.mem_append_right _ (List.mem_append_right _ (List.mem_append_left _ (List.mem_of_getElem? (i := 138) rfl))))))) rfl, by decide +kernel, vv_Gin (List.mem_append_right _ (List.mem_append_left _ (List.mem_of_getElem? (i := 13) rfl))) rfl⟩
theorem im_Mod_is : Cond.instanceMethod y_Mod_is ∈ vv_G := vv_Gin (List.mem_append_right _ (List.mem_append_right _ (List.mem_append_right _ (List.mem_append_right _ (List.mem_append_right _ (List.mem_append_left _ (List.mem_of_getElem? (i := 137) rfl))))))) rfl
theorem se_Mod_is : Cond.selects y_Mod_is.cls y_Mod_is y_Mod_is ∈ vv_G := vv_Gin (List.mem_append_left _ (List.mem_of_getElem? (i := 24) rfl)) rfl
theorem cv_Mod_118 : CV R_Mod 118 y_Mod_is b_Mod_is 5 (some .boolean) 4 := ⟨cb_Mod_is, im_Mod_is, se_Mod_is, vv_Gin (List.mem_append_right _ (List.mem_append_right _ (List.mem_append_right _ (List.mem_append_right _ (List.mem_append_right _ (List.mem_append_left _ (List.mem_of_getElem? (i := 135) rfl))))))) rfl⟩
theorem tc_115 : (115 : Int32).toInt = 115 := rfl
theorem tc_114 : (114 : Int32).toInt = 114 := rfl
theorem tc_105 : (105 : Int32).toInt = 105 := rfl
theorem tc_100 : (100 : Int32).toInt = 100 := rfl
theorem tc_101 : (101 : Int32).toInt = 101 := rfl
theorem cb_Mod_ends : CB y_Mod_ends b_Mod_ends 4 (some .boolean) 3 := ⟨vv_Gin (List.mem_append_right _ (List.mem_append_right _ (List.mem_append_right _ (List.mem_append_right _ (List.mem_append_right _ (List.mem_append_left _ (List.mem_of_getElem? (i := 142) rfl))))))) rfl, by decide +kernel, vv_Gin (List.mem_append_right _ (List.mem_append_left _ (List.mem_of_getElem? (i := 13) rfl))) rfl⟩
theorem im_Mod_ends : Cond.instanceMethod y_Mod_ends ∈ vv_G := vv_Gin (List.mem_append_right _ (List.mem_append_right _ (List.mem_append_right _ (List.mem_append_right _ (List.mem_append_right _ (List.mem_append_left _ (List.mem_of_getElem? (i := 141) rfl))))))) rfl
theorem se_Mod_ends : Cond.selects y_Mod_ends.cls y_Mod_ends y_Mod_ends ∈ vv_G := vv_Gin (List.mem_append_left _ (List.mem_of_getElem? (i := 25) rfl)) rfl
theorem cv_Mod_122 : CV R_Mod 122 y_Mod_ends b_Mod_ends 4 (some .boolean) 3 := ⟨cb_Mod_ends, im_Mod_ends, se_Mod_ends, vv_Gin (List.mem_append_right _ (List.mem_append_right _ (List.mem_append_right _ (List.mem_append_right _ (List.mem_append_right _ (List.mem_append_left _ (List.mem_of_getElem? (i := 139) rfl))))))) rfl⟩
theorem tc_116 : (116 : Int32).toInt = 116 := rfl
theorem tc_110 : (110 : Int32).toInt = 110 := rfl
theorem tc_121 : (121 : Int32).toInt = 121 := rfl
theorem tc_119 : (119 : Int32).toInt = 119 := rfl
theorem tc_108 : (108 : Int32).toInt = 108 := rfl
theorem tc_97 : (97 : Int32).toInt = 97 := rfl
theorem cb_Mod_ruleLine : CB y_Mod_ruleLine b_Mod_ruleLine 1 (some .int) 0 := ⟨vv_Gin (List.mem_append_right _ (List.mem_append_right _ (List.mem_append_right _ (List.mem_append_right _ (List.mem_append_right _ (List.mem_append_left _ (List.mem_of_getElem? (i := 146) rfl))))))) rfl, by decide +kernel, vv_Gin (List.mem_append_right _ (List.mem_append_left _ (List.mem_of_getElem? (i := 13) rfl))) rfl⟩
theorem im_Mod_ruleLine : Cond.instanceMethod y_Mod_ruleLine ∈ vv_G := vv_Gin (List.mem_append_right _ (List.mem_append_right _ (List.mem_append_right _ (List.mem_append_right _ (List.mem_append_right _ (List.mem_append_left _ (List.mem_of_getElem? (i := 145) rfl))))))) rfl
theorem se_Mod_ruleLine : Cond.selects y_Mod_ruleLine.cls y_Mod_ruleLine y_Mod_ruleLine ∈ vv_G := vv_Gin (List.mem_append_left _ (List.mem_of_getElem? (i := 26) rfl)) rfl
theorem cv_Mod_126 : CV R_Mod 126 y_Mod_ruleLine b_Mod_ruleLine 1 (some .int) 0 := ⟨cb_Mod_ruleLine, im_Mod_ruleLine, se_Mod_ruleLine, vv_Gin (List.mem_append_right _ (List.mem_append_right _ (List.mem_append_right _ (List.mem_append_right _ (List.mem_append_right _ (List.mem_append_left _ (List.mem_of_getElem? (i := 143) rfl))))))) rfl⟩
theorem tc_109 : (109 : Int32).toInt = 109 := rfl
theorem tc_7 : (7 : Int32).toInt = 7 := rfl
theorem tc_98 : (98 : Int32).toInt = 98 := rfl
theorem tc_104 : (104 : Int32).toInt = 104 := rfl
theorem fp_Mod_105 : FP R_Mod 105 11 17 .int := ⟨_, _, _, t_Mod, rfl, i_Mod, by decide, vv_Gin (List.mem_append_right _ (List.mem_append_right _ (List.mem_append_right _ (List.mem_append_right _ (List.mem_append_right _ (List.mem_append_left _ (List.mem_of_getElem? (i := 0) rfl))))))) rfl, t_Mod_ok, n_Mod, rfl, t_Mod_ok 17 (by decide)⟩
theorem wl_Mod_133 : Cond.constantLong R_Mod 133 97 ∈ vv_G := by decide +kernel
theorem tl_97 : (97 : Int64).toInt = 97 := rfl
theorem wl_Mod_135 : Cond.constantLong R_Mod 135 122 ∈ vv_G := by decide +kernel
theorem tl_122 : (122 : Int64).toInt = 122 := rfl
theorem wl_Mod_137 : Cond.constantLong R_Mod 137 48 ∈ vv_G := by decide +kernel
theorem tl_48 : (48 : Int64).toInt = 48 := rfl
theorem wl_Mod_139 : Cond.constantLong R_Mod 139 57 ∈ vv_G := by decide +kernel
theorem tl_57 : (57 : Int64).toInt = 57 := rfl
theorem fp_Mod_130 : FP R_Mod 130 11 18 .int := ⟨_, _, _, t_Mod, rfl, i_Mod, by decide, vv_Gin (List.mem_append_right _ (List.mem_append_right _ (List.mem_append_right _ (List.mem_append_right _ (List.mem_append_right _ (List.mem_append_left _ (List.mem_of_getElem? (i := 1) rfl))))))) rfl, t_Mod_ok, n_Mod, rfl, t_Mod_ok 18 (by decide)⟩
theorem tc_59 : (59 : Int32).toInt = 59 := rfl
theorem cb_Mod_needs : CB y_Mod_needs b_Mod_needs 3 none 2 := ⟨vv_Gin (List.mem_append_right _ (List.mem_append_right _ (List.mem_append_right _ (List.mem_append_right _ (List.mem_append_right _ (List.mem_append_left _ (List.mem_of_getElem? (i := 126) rfl))))))) rfl, by decide +kernel, vv_Gin (List.mem_append_right _ (List.mem_append_left _ (List.mem_of_getElem? (i := 13) rfl))) rfl⟩
theorem im_Mod_needs : Cond.instanceMethod y_Mod_needs ∈ vv_G := vv_Gin (List.mem_append_right _ (List.mem_append_right _ (List.mem_append_right _ (List.mem_append_right _ (List.mem_append_right _ (List.mem_append_left _ (List.mem_of_getElem? (i := 125) rfl))))))) rfl
theorem se_Mod_needs : Cond.selects y_Mod_needs.cls y_Mod_needs y_Mod_needs ∈ vv_G := vv_Gin (List.mem_append_left _ (List.mem_of_getElem? (i := 21) rfl)) rfl
theorem cv_Mod_144 : CV R_Mod 144 y_Mod_needs b_Mod_needs 3 none 2 := ⟨cb_Mod_needs, im_Mod_needs, se_Mod_needs, vv_Gin (List.mem_append_right _ (List.mem_append_right _ (List.mem_append_right _ (List.mem_append_right _ (List.mem_append_right _ (List.mem_append_left _ (List.mem_of_getElem? (i := 123) rfl))))))) rfl⟩
theorem fp_Mod_111 : FP R_Mod 111 11 16 .int := ⟨_, _, _, t_Mod, rfl, i_Mod, by decide, vv_Gin (List.mem_append_right _ (List.mem_append_right _ (List.mem_append_right _ (List.mem_append_right _ (List.mem_append_left _ (List.mem_of_getElem? (i := 239) rfl)))))) rfl, t_Mod_ok, n_Mod, rfl, t_Mod_ok 16 (by decide)⟩
theorem fp_Mod_141 : FP R_Mod 141 11 19 .int := ⟨_, _, _, t_Mod, rfl, i_Mod, by decide, vv_Gin (List.mem_append_right _ (List.mem_append_right _ (List.mem_append_right _ (List.mem_append_right _ (List.mem_append_right _ (List.mem_append_left _ (List.mem_of_getElem? (i := 2) rfl))))))) rfl, t_Mod_ok, n_Mod, rfl, t_Mod_ok 19 (by decide)⟩
theorem fa_Mod_141 : FA R_Mod 141 11 19 := ⟨_, _, _, rfl, i_Mod, by decide, vv_Gin (List.mem_append_right _ (List.mem_append_right _ (List.mem_append_right _ (List.mem_append_right _ (List.mem_append_right _ (List.mem_append_left _ (List.mem_of_getElem? (i := 2) rfl))))))) rfl⟩
theorem fa_Mod_130 : FA R_Mod 130 11 18 := ⟨_, _, _, rfl, i_Mod, by decide, vv_Gin (List.mem_append_right _ (List.mem_append_right _ (List.mem_append_right _ (List.mem_append_right _ (List.mem_append_right _ (List.mem_append_left _ (List.mem_of_getElem? (i := 1) rfl))))))) rfl⟩
theorem cb_Mod_looked : CB y_Mod_looked b_Mod_looked 3 (some .int) 2 := ⟨vv_Gin (List.mem_append_right _ (List.mem_append_right _ (List.mem_append_right _ (List.mem_append_right _ (List.mem_append_right _ (List.mem_append_left _ (List.mem_of_getElem? (i := 158) rfl))))))) rfl, by decide +kernel, vv_Gin (List.mem_append_right _ (List.mem_append_left _ (List.mem_of_getElem? (i := 13) rfl))) rfl⟩
theorem im_Mod_looked : Cond.instanceMethod y_Mod_looked ∈ vv_G := vv_Gin (List.mem_append_right _ (List.mem_append_right _ (List.mem_append_right _ (List.mem_append_right _ (List.mem_append_right _ (List.mem_append_left _ (List.mem_of_getElem? (i := 157) rfl))))))) rfl
theorem se_Mod_looked : Cond.selects y_Mod_looked.cls y_Mod_looked y_Mod_looked ∈ vv_G := vv_Gin (List.mem_append_left _ (List.mem_of_getElem? (i := 29) rfl)) rfl
theorem cv_Mod_148 : CV R_Mod 148 y_Mod_looked b_Mod_looked 3 (some .int) 2 := ⟨cb_Mod_looked, im_Mod_looked, se_Mod_looked, vv_Gin (List.mem_append_right _ (List.mem_append_right _ (List.mem_append_right _ (List.mem_append_right _ (List.mem_append_right _ (List.mem_append_left _ (List.mem_of_getElem? (i := 155) rfl))))))) rfl⟩
theorem cb_Mod_next : CB y_Mod_next b_Mod_next 2 none 0 := ⟨vv_Gin (List.mem_append_right _ (List.mem_append_right _ (List.mem_append_right _ (List.mem_append_right _ (List.mem_append_right _ (List.mem_append_left _ (List.mem_of_getElem? (i := 114) rfl))))))) rfl, by decide +kernel, vv_Gin (List.mem_append_right _ (List.mem_append_left _ (List.mem_of_getElem? (i := 13) rfl))) rfl⟩
theorem im_Mod_next : Cond.instanceMethod y_Mod_next ∈ vv_G := vv_Gin (List.mem_append_right _ (List.mem_append_right _ (List.mem_append_right _ (List.mem_append_right _ (List.mem_append_right _ (List.mem_append_left _ (List.mem_of_getElem? (i := 113) rfl))))))) rfl
theorem se_Mod_next : Cond.selects y_Mod_next.cls y_Mod_next y_Mod_next ∈ vv_G := vv_Gin (List.mem_append_left _ (List.mem_of_getElem? (i := 19) rfl)) rfl
theorem cv_Mod_152 : CV R_Mod 152 y_Mod_next b_Mod_next 2 none 0 := ⟨cb_Mod_next, im_Mod_next, se_Mod_next, vv_Gin (List.mem_append_right _ (List.mem_append_right _ (List.mem_append_right _ (List.mem_append_right _ (List.mem_append_right _ (List.mem_append_left _ (List.mem_of_getElem? (i := 111) rfl))))))) rfl⟩
theorem fa_Mod_78 : FA R_Mod 78 11 13 := ⟨_, _, _, rfl, i_Mod, by decide, vv_Gin (List.mem_append_right _ (List.mem_append_right _ (List.mem_append_right _ (List.mem_append_right _ (List.mem_append_left _ (List.mem_of_getElem? (i := 236) rfl)))))) rfl⟩
theorem cb_Mod_readNumber : CB y_Mod_readNumber b_Mod_readNumber 4 (some .int) 2 := ⟨vv_Gin (List.mem_append_right _ (List.mem_append_right _ (List.mem_append_right _ (List.mem_append_right _ (List.mem_append_right _ (List.mem_append_left _ (List.mem_of_getElem? (i := 154) rfl))))))) rfl, by decide +kernel, vv_Gin (List.mem_append_right _ (List.mem_append_left _ (List.mem_of_getElem? (i := 13) rfl))) rfl⟩
theorem im_Mod_readNumber : Cond.instanceMethod y_Mod_readNumber ∈ vv_G := vv_Gin (List.mem_append_right _ (List.mem_append_right _ (List.mem_append_right _ (List.mem_append_right _ (List.mem_append_right _ (List.mem_append_left _ (List.mem_of_getElem? (i := 153) rfl))))))) rfl
theorem se_Mod_readNumber : Cond.selects y_Mod_readNumber.cls y_Mod_readNumber y_Mod_readNumber ∈ vv_G := vv_Gin (List.mem_append_left _ (List.mem_of_getElem? (i := 28) rfl)) rfl
theorem cv_Mod_158 : CV R_Mod 158 y_Mod_readNumber b_Mod_readNumber 4 (some .int) 2 := ⟨cb_Mod_readNumber, im_Mod_readNumber, se_Mod_readNumber, vv_Gin (List.mem_append_right _ (List.mem_append_right _ (List.mem_append_right _ (List.mem_append_right _ (List.mem_append_right _ (List.mem_append_left _ (List.mem_of_getElem? (i := 151) rfl))))))) rfl⟩
theorem cb_Mod_natureNow : CB y_Mod_natureNow b_Mod_natureNow 1 (some .int) 0 := ⟨vv_Gin (List.mem_append_right _ (List.mem_append_right _ (List.mem_append_right _ (List.mem_append_right _ (List.mem_append_right _ (List.mem_append_left _ (List.mem_of_getElem? (i := 166) rfl))))))) rfl, by decide +kernel, vv_Gin (List.mem_append_right _ (List.mem_append_left _ (List.mem_of_getElem? (i := 13) rfl))) rfl⟩
theorem im_Mod_natureNow : Cond.instanceMethod y_Mod_natureNow ∈ vv_G := vv_Gin (List.mem_append_right _ (List.mem_append_right _ (List.mem_append_right _ (List.mem_append_right _ (List.mem_append_right _ (List.mem_append_left _ (List.mem_of_getElem? (i := 165) rfl))))))) rfl
theorem se_Mod_natureNow : Cond.selects y_Mod_natureNow.cls y_Mod_natureNow y_Mod_natureNow ∈ vv_G := vv_Gin (List.mem_append_left _ (List.mem_of_getElem? (i := 31) rfl)) rfl
theorem cv_Mod_155 : CV R_Mod 155 y_Mod_natureNow b_Mod_natureNow 1 (some .int) 0 := ⟨cb_Mod_natureNow, im_Mod_natureNow, se_Mod_natureNow, vv_Gin (List.mem_append_right _ (List.mem_append_right _ (List.mem_append_right _ (List.mem_append_right _ (List.mem_append_right _ (List.mem_append_left _ (List.mem_of_getElem? (i := 163) rfl))))))) rfl⟩
theorem tc_15 : (15 : Int32).toInt = 15 := rfl
theorem cb_Mod_readFresh : CB y_Mod_readFresh b_Mod_readFresh 4 (some .int) 2 := ⟨vv_Gin (List.mem_append_right _ (List.mem_append_right _ (List.mem_append_right _ (List.mem_append_right _ (List.mem_append_right _ (List.mem_append_left _ (List.mem_of_getElem? (i := 170) rfl))))))) rfl, by decide +kernel, vv_Gin (List.mem_append_right _ (List.mem_append_left _ (List.mem_of_getElem? (i := 13) rfl))) rfl⟩
theorem im_Mod_readFresh : Cond.instanceMethod y_Mod_readFresh ∈ vv_G := vv_Gin (List.mem_append_right _ (List.mem_append_right _ (List.mem_append_right _ (List.mem_append_right _ (List.mem_append_right _ (List.mem_append_left _ (List.mem_of_getElem? (i := 169) rfl))))))) rfl
theorem se_Mod_readFresh : Cond.selects y_Mod_readFresh.cls y_Mod_readFresh y_Mod_readFresh ∈ vv_G := vv_Gin (List.mem_append_left _ (List.mem_of_getElem? (i := 32) rfl)) rfl
theorem cv_Mod_161 : CV R_Mod 161 y_Mod_readFresh b_Mod_readFresh 4 (some .int) 2 := ⟨cb_Mod_readFresh, im_Mod_readFresh, se_Mod_readFresh, vv_Gin (List.mem_append_right _ (List.mem_append_right _ (List.mem_append_right _ (List.mem_append_right _ (List.mem_append_right _ (List.mem_append_left _ (List.mem_of_getElem? (i := 167) rfl))))))) rfl⟩
theorem cb_Mod_readCellOf : CB y_Mod_readCellOf b_Mod_readCellOf 5 none 1 := ⟨vv_Gin (List.mem_append_right _ (List.mem_append_right _ (List.mem_append_right _ (List.mem_append_right _ (List.mem_append_right _ (List.mem_append_left _ (List.mem_of_getElem? (i := 178) rfl))))))) rfl, by decide +kernel, vv_Gin (List.mem_append_right _ (List.mem_append_left _ (List.mem_of_getElem? (i := 13) rfl))) rfl⟩
theorem im_Mod_readCellOf : Cond.instanceMethod y_Mod_readCellOf ∈ vv_G := vv_Gin (List.mem_append_right _ (List.mem_append_right _ (List.mem_append_right _ (List.mem_append_right _ (List.mem_append_right _ (List.mem_append_left _ (List.mem_of_getElem? (i := 177) rfl))))))) rfl
theorem se_Mod_readCellOf : Cond.selects y_Mod_readCellOf.cls y_Mod_readCellOf y_Mod_readCellOf ∈ vv_G := vv_Gin (List.mem_append_left _ (List.mem_of_getElem? (i := 34) rfl)) rfl
theorem cv_Mod_170 : CV R_Mod 170 y_Mod_readCellOf b_Mod_readCellOf 5 none 1 := ⟨cb_Mod_readCellOf, im_Mod_readCellOf, se_Mod_readCellOf, vv_Gin (List.mem_append_right _ (List.mem_append_right _ (List.mem_append_right _ (List.mem_append_right _ (List.mem_append_right _ (List.mem_append_left _ (List.mem_of_getElem? (i := 175) rfl))))))) rfl⟩
theorem cb_Mod_readRod : CB y_Mod_readRod b_Mod_readRod 2 none 0 := ⟨vv_Gin (List.mem_append_right _ (List.mem_append_right _ (List.mem_append_right _ (List.mem_append_right _ (List.mem_append_right _ (List.mem_append_left _ (List.mem_of_getElem? (i := 162) rfl))))))) rfl, by decide +kernel, vv_Gin (List.mem_append_right _ (List.mem_append_left _ (List.mem_of_getElem? (i := 13) rfl))) rfl⟩
theorem im_Mod_readRod : Cond.instanceMethod y_Mod_readRod ∈ vv_G := vv_Gin (List.mem_append_right _ (List.mem_append_right _ (List.mem_append_right _ (List.mem_append_right _ (List.mem_append_right _ (List.mem_append_left _ (List.mem_of_getElem? (i := 161) rfl))))))) rfl
theorem se_Mod_readRod : Cond.selects y_Mod_readRod.cls y_Mod_readRod y_Mod_readRod ∈ vv_G := vv_Gin (List.mem_append_left _ (List.mem_of_getElem? (i := 30) rfl)) rfl
theorem cv_Mod_164 : CV R_Mod 164 y_Mod_readRod b_Mod_readRod 2 none 0 := ⟨cb_Mod_readRod, im_Mod_readRod, se_Mod_readRod, vv_Gin (List.mem_append_right _ (List.mem_append_right _ (List.mem_append_right _ (List.mem_append_right _ (List.mem_append_right _ (List.mem_append_left _ (List.mem_of_getElem? (i := 159) rfl))))))) rfl⟩
theorem cb_Mod_readDebt : CB y_Mod_readDebt b_Mod_readDebt 3 none 0 := ⟨vv_Gin (List.mem_append_right _ (List.mem_append_right _ (List.mem_append_right _ (List.mem_append_right _ (List.mem_append_right _ (List.mem_append_left _ (List.mem_of_getElem? (i := 174) rfl))))))) rfl, by decide +kernel, vv_Gin (List.mem_append_right _ (List.mem_append_left _ (List.mem_of_getElem? (i := 13) rfl))) rfl⟩
theorem im_Mod_readDebt : Cond.instanceMethod y_Mod_readDebt ∈ vv_G := vv_Gin (List.mem_append_right _ (List.mem_append_right _ (List.mem_append_right _ (List.mem_append_right _ (List.mem_append_right _ (List.mem_append_left _ (List.mem_of_getElem? (i := 173) rfl))))))) rfl
theorem se_Mod_readDebt : Cond.selects y_Mod_readDebt.cls y_Mod_readDebt y_Mod_readDebt ∈ vv_G := vv_Gin (List.mem_append_left _ (List.mem_of_getElem? (i := 33) rfl)) rfl
theorem cv_Mod_167 : CV R_Mod 167 y_Mod_readDebt b_Mod_readDebt 3 none 0 := ⟨cb_Mod_readDebt, im_Mod_readDebt, se_Mod_readDebt, vv_Gin (List.mem_append_right _ (List.mem_append_right _ (List.mem_append_right _ (List.mem_append_right _ (List.mem_append_right _ (List.mem_append_left _ (List.mem_of_getElem? (i := 171) rfl))))))) rfl⟩
theorem cb_Mod_readLineOf : CB y_Mod_readLineOf b_Mod_readLineOf 3 none 1 := ⟨vv_Gin (List.mem_append_right _ (List.mem_append_right _ (List.mem_append_right _ (List.mem_append_right _ (List.mem_append_right _ (List.mem_append_left _ (List.mem_of_getElem? (i := 150) rfl))))))) rfl, by decide +kernel, vv_Gin (List.mem_append_right _ (List.mem_append_left _ (List.mem_of_getElem? (i := 13) rfl))) rfl⟩
theorem im_Mod_readLineOf : Cond.instanceMethod y_Mod_readLineOf ∈ vv_G := vv_Gin (List.mem_append_right _ (List.mem_append_right _ (List.mem_append_right _ (List.mem_append_right _ (List.mem_append_right _ (List.mem_append_left _ (List.mem_of_getElem? (i := 149) rfl))))))) rfl
theorem se_Mod_readLineOf : Cond.selects y_Mod_readLineOf.cls y_Mod_readLineOf y_Mod_readLineOf ∈ vv_G := vv_Gin (List.mem_append_left _ (List.mem_of_getElem? (i := 27) rfl)) rfl
theorem cv_Mod_177 : CV R_Mod 177 y_Mod_readLineOf b_Mod_readLineOf 3 none 1 := ⟨cb_Mod_readLineOf, im_Mod_readLineOf, se_Mod_readLineOf, vv_Gin (List.mem_append_right _ (List.mem_append_right _ (List.mem_append_right _ (List.mem_append_right _ (List.mem_append_right _ (List.mem_append_left _ (List.mem_of_getElem? (i := 147) rfl))))))) rfl⟩
theorem fa_Mod_75 : FA R_Mod 75 11 11 := ⟨_, _, _, rfl, i_Mod, by decide, vv_Gin (List.mem_append_right _ (List.mem_append_right _ (List.mem_append_right _ (List.mem_append_right _ (List.mem_append_left _ (List.mem_of_getElem? (i := 234) rfl)))))) rfl⟩
theorem cb_Mod_lineNow : CB y_Mod_lineNow b_Mod_lineNow 1 (some .int) 0 := ⟨vv_Gin (List.mem_append_right _ (List.mem_append_right _ (List.mem_append_right _ (List.mem_append_right _ (List.mem_append_right _ (List.mem_append_left _ (List.mem_of_getElem? (i := 134) rfl))))))) rfl, by decide +kernel, vv_Gin (List.mem_append_right _ (List.mem_append_left _ (List.mem_of_getElem? (i := 13) rfl))) rfl⟩
theorem im_Mod_lineNow : Cond.instanceMethod y_Mod_lineNow ∈ vv_G := vv_Gin (List.mem_append_right _ (List.mem_append_right _ (List.mem_append_right _ (List.mem_append_right _ (List.mem_append_right _ (List.mem_append_left _ (List.mem_of_getElem? (i := 133) rfl))))))) rfl
theorem se_Mod_lineNow : Cond.selects y_Mod_lineNow.cls y_Mod_lineNow y_Mod_lineNow ∈ vv_G := vv_Gin (List.mem_append_left _ (List.mem_of_getElem? (i := 23) rfl)) rfl
theorem cv_Mod_174 : CV R_Mod 174 y_Mod_lineNow b_Mod_lineNow 1 (some .int) 0 := ⟨cb_Mod_lineNow, im_Mod_lineNow, se_Mod_lineNow, vv_Gin (List.mem_append_right _ (List.mem_append_right _ (List.mem_append_right _ (List.mem_append_right _ (List.mem_append_right _ (List.mem_append_left _ (List.mem_of_getElem? (i := 131) rfl))))))) rfl⟩
theorem cb_Mod_firstDraft : CB y_Mod_firstDraft b_Mod_firstDraft 2 none 0 := ⟨vv_Gin (List.mem_append_right _ (List.mem_append_right _ (List.mem_append_right _ (List.mem_append_right _ (List.mem_append_left _ (List.mem_of_getElem? (i := 218) rfl)))))) rfl, by decide +kernel, vv_Gin (List.mem_append_right _ (List.mem_append_left _ (List.mem_of_getElem? (i := 13) rfl))) rfl⟩
theorem im_Mod_firstDraft : Cond.instanceMethod y_Mod_firstDraft ∈ vv_G := vv_Gin (List.mem_append_right _ (List.mem_append_right _ (List.mem_append_right _ (List.mem_append_right _ (List.mem_append_left _ (List.mem_of_getElem? (i := 217) rfl)))))) rfl
theorem se_Mod_firstDraft : Cond.selects y_Mod_firstDraft.cls y_Mod_firstDraft y_Mod_firstDraft ∈ vv_G := vv_Gin (List.mem_append_left _ (List.mem_of_getElem? (i := 17) rfl)) rfl
theorem cv_Mod_56 : CV R_Mod 56 y_Mod_firstDraft b_Mod_firstDraft 2 none 0 := ⟨cb_Mod_firstDraft, im_Mod_firstDraft, se_Mod_firstDraft, vv_Gin (List.mem_append_right _ (List.mem_append_right _ (List.mem_append_right _ (List.mem_append_right _ (List.mem_append_left _ (List.mem_of_getElem? (i := 215) rfl)))))) rfl⟩
theorem cb_Mod_keepDraft : CB y_Mod_keepDraft b_Mod_keepDraft 2 none 0 := ⟨vv_Gin (List.mem_append_right _ (List.mem_append_right _ (List.mem_append_right _ (List.mem_append_right _ (List.mem_append_left _ (List.mem_of_getElem? (i := 222) rfl)))))) rfl, by decide +kernel, vv_Gin (List.mem_append_right _ (List.mem_append_left _ (List.mem_of_getElem? (i := 13) rfl))) rfl⟩
theorem im_Mod_keepDraft : Cond.instanceMethod y_Mod_keepDraft ∈ vv_G := vv_Gin (List.mem_append_right _ (List.mem_append_right _ (List.mem_append_right _ (List.mem_append_right _ (List.mem_append_left _ (List.mem_of_getElem? (i := 221) rfl)))))) rfl
theorem se_Mod_keepDraft : Cond.selects y_Mod_keepDraft.cls y_Mod_keepDraft y_Mod_keepDraft ∈ vv_G := vv_Gin (List.mem_append_left _ (List.mem_of_getElem? (i := 18) rfl)) rfl
theorem cv_Mod_59 : CV R_Mod 59 y_Mod_keepDraft b_Mod_keepDraft 2 none 0 := ⟨cb_Mod_keepDraft, im_Mod_keepDraft, se_Mod_keepDraft, vv_Gin (List.mem_append_right _ (List.mem_append_right _ (List.mem_append_right _ (List.mem_append_right _ (List.mem_append_left _ (List.mem_of_getElem? (i := 219) rfl)))))) rfl⟩
theorem tc_m10 : ((-10) : Int32).toInt = (-10) := rfl
theorem fa_Mod_108 : FA R_Mod 108 11 21 := ⟨_, _, _, rfl, i_Mod, by decide, vv_Gin (List.mem_append_right _ (List.mem_append_right _ (List.mem_append_right _ (List.mem_append_right _ (List.mem_append_right _ (List.mem_append_left _ (List.mem_of_getElem? (i := 4) rfl))))))) rfl⟩
theorem cb_Mod_readLine : CB y_Mod_readLine b_Mod_readLine 2 none 0 := ⟨vv_Gin (List.mem_append_right _ (List.mem_append_right _ (List.mem_append_right _ (List.mem_append_right _ (List.mem_append_right _ (List.mem_append_left _ (List.mem_of_getElem? (i := 130) rfl))))))) rfl, by decide +kernel, vv_Gin (List.mem_append_right _ (List.mem_append_left _ (List.mem_of_getElem? (i := 13) rfl))) rfl⟩
theorem im_Mod_readLine : Cond.instanceMethod y_Mod_readLine ∈ vv_G := vv_Gin (List.mem_append_right _ (List.mem_append_right _ (List.mem_append_right _ (List.mem_append_right _ (List.mem_append_right _ (List.mem_append_left _ (List.mem_of_getElem? (i := 129) rfl))))))) rfl
theorem se_Mod_readLine : Cond.selects y_Mod_readLine.cls y_Mod_readLine y_Mod_readLine ∈ vv_G := vv_Gin (List.mem_append_left _ (List.mem_of_getElem? (i := 22) rfl)) rfl
theorem cv_Mod_180 : CV R_Mod 180 y_Mod_readLine b_Mod_readLine 2 none 0 := ⟨cb_Mod_readLine, im_Mod_readLine, se_Mod_readLine, vv_Gin (List.mem_append_right _ (List.mem_append_right _ (List.mem_append_right _ (List.mem_append_right _ (List.mem_append_right _ (List.mem_append_left _ (List.mem_of_getElem? (i := 127) rfl))))))) rfl⟩
theorem d_Mod_firstDraft_0 : decode b_Mod_firstDraft 0 = .ok (.iconst 0, 1) := by decide +kernel
theorem d_Mod_firstDraft_1 : decode b_Mod_firstDraft 1 = .ok (.istore_n 1, 1) := by decide +kernel
theorem d_Mod_firstDraft_2 : decode b_Mod_firstDraft 2 = .ok (.iload_n 1, 1) := by decide +kernel
theorem d_Mod_firstDraft_3 : decode b_Mod_firstDraft 3 = .ok (.sipush 144, 3) := by decide +kernel
theorem d_Mod_firstDraft_6 : decode b_Mod_firstDraft 6 = .ok (.if_icmp .ge 16, 3) := by decide +kernel
theorem d_Mod_firstDraft_9 : decode b_Mod_firstDraft 9 = .ok (.aload_n 0, 1) := by decide +kernel
theorem d_Mod_firstDraft_10 : decode b_Mod_firstDraft 10 = .ok (.getfield 17, 3) := by decide +kernel
theorem d_Mod_firstDraft_13 : decode b_Mod_firstDraft 13 = .ok (.iload_n 1, 1) := by decide +kernel
theorem d_Mod_firstDraft_14 : decode b_Mod_firstDraft 14 = .ok (.iconst 0, 1) := by decide +kernel
theorem d_Mod_firstDraft_15 : decode b_Mod_firstDraft 15 = .ok (.iastore, 1) := by decide +kernel
theorem d_Mod_firstDraft_16 : decode b_Mod_firstDraft 16 = .ok (.iinc 1 1, 3) := by decide +kernel
theorem d_Mod_firstDraft_19 : decode b_Mod_firstDraft 19 = .ok (.goto (-17), 3) := by decide +kernel
theorem d_Mod_firstDraft_22 : decode b_Mod_firstDraft 22 = .ok (.iconst 0, 1) := by decide +kernel
theorem d_Mod_firstDraft_23 : decode b_Mod_firstDraft 23 = .ok (.istore_n 1, 1) := by decide +kernel
theorem d_Mod_firstDraft_24 : decode b_Mod_firstDraft 24 = .ok (.iload_n 1, 1) := by decide +kernel
theorem d_Mod_firstDraft_25 : decode b_Mod_firstDraft 25 = .ok (.bipush 16, 2) := by decide +kernel
theorem d_Mod_firstDraft_27 : decode b_Mod_firstDraft 27 = .ok (.if_icmp .ge 30, 3) := by decide +kernel
theorem d_Mod_firstDraft_30 : decode b_Mod_firstDraft 30 = .ok (.aload_n 0, 1) := by decide +kernel
theorem d_Mod_firstDraft_31 : decode b_Mod_firstDraft 31 = .ok (.getfield 17, 3) := by decide +kernel
theorem d_Mod_firstDraft_34 : decode b_Mod_firstDraft 34 = .ok (.bipush 32, 2) := by decide +kernel
theorem d_Mod_firstDraft_36 : decode b_Mod_firstDraft 36 = .ok (.iload_n 1, 1) := by decide +kernel
theorem d_Mod_firstDraft_37 : decode b_Mod_firstDraft 37 = .ok (.iadd, 1) := by decide +kernel
theorem d_Mod_firstDraft_38 : decode b_Mod_firstDraft 38 = .ok (.iconst 5, 1) := by decide +kernel
theorem d_Mod_firstDraft_39 : decode b_Mod_firstDraft 39 = .ok (.iastore, 1) := by decide +kernel
theorem d_Mod_firstDraft_40 : decode b_Mod_firstDraft 40 = .ok (.aload_n 0, 1) := by decide +kernel
theorem d_Mod_firstDraft_41 : decode b_Mod_firstDraft 41 = .ok (.getfield 17, 3) := by decide +kernel
theorem d_Mod_firstDraft_44 : decode b_Mod_firstDraft 44 = .ok (.bipush 48, 2) := by decide +kernel
theorem d_Mod_firstDraft_46 : decode b_Mod_firstDraft 46 = .ok (.iload_n 1, 1) := by decide +kernel
theorem d_Mod_firstDraft_47 : decode b_Mod_firstDraft 47 = .ok (.iadd, 1) := by decide +kernel
theorem d_Mod_firstDraft_48 : decode b_Mod_firstDraft 48 = .ok (.bipush (-4), 2) := by decide +kernel
theorem d_Mod_firstDraft_50 : decode b_Mod_firstDraft 50 = .ok (.iastore, 1) := by decide +kernel
theorem d_Mod_firstDraft_51 : decode b_Mod_firstDraft 51 = .ok (.iinc 1 1, 3) := by decide +kernel
theorem d_Mod_firstDraft_54 : decode b_Mod_firstDraft 54 = .ok (.goto (-30), 3) := by decide +kernel
theorem d_Mod_firstDraft_57 : decode b_Mod_firstDraft 57 = .ok (.aload_n 0, 1) := by decide +kernel
theorem d_Mod_firstDraft_58 : decode b_Mod_firstDraft 58 = .ok (.getfield 17, 3) := by decide +kernel
theorem d_Mod_firstDraft_61 : decode b_Mod_firstDraft 61 = .ok (.bipush 85, 2) := by decide +kernel
theorem d_Mod_firstDraft_63 : decode b_Mod_firstDraft 63 = .ok (.bipush 9, 2) := by decide +kernel
theorem d_Mod_firstDraft_65 : decode b_Mod_firstDraft 65 = .ok (.iastore, 1) := by decide +kernel
theorem d_Mod_firstDraft_66 : decode b_Mod_firstDraft 66 = .ok (.aload_n 0, 1) := by decide +kernel
theorem d_Mod_firstDraft_67 : decode b_Mod_firstDraft 67 = .ok (.iconst 3, 1) := by decide +kernel
theorem d_Mod_firstDraft_68 : decode b_Mod_firstDraft 68 = .ok (.putfield 62, 3) := by decide +kernel
theorem d_Mod_firstDraft_71 : decode b_Mod_firstDraft 71 = .ok (.aload_n 0, 1) := by decide +kernel
theorem d_Mod_firstDraft_72 : decode b_Mod_firstDraft 72 = .ok (.iconst 3, 1) := by decide +kernel
theorem d_Mod_firstDraft_73 : decode b_Mod_firstDraft 73 = .ok (.putfield 66, 3) := by decide +kernel
theorem d_Mod_firstDraft_76 : decode b_Mod_firstDraft 76 = .ok (.aload_n 0, 1) := by decide +kernel
theorem d_Mod_firstDraft_77 : decode b_Mod_firstDraft 77 = .ok (.iconst 1, 1) := by decide +kernel
theorem d_Mod_firstDraft_78 : decode b_Mod_firstDraft 78 = .ok (.putfield 69, 3) := by decide +kernel
theorem d_Mod_firstDraft_81 : decode b_Mod_firstDraft 81 = .ok (.aload_n 0, 1) := by decide +kernel
theorem d_Mod_firstDraft_82 : decode b_Mod_firstDraft 82 = .ok (.bipush 10, 2) := by decide +kernel
theorem d_Mod_firstDraft_84 : decode b_Mod_firstDraft 84 = .ok (.putfield 72, 3) := by decide +kernel
theorem d_Mod_firstDraft_87 : decode b_Mod_firstDraft 87 = .ok (.aload_n 0, 1) := by decide +kernel
theorem d_Mod_firstDraft_88 : decode b_Mod_firstDraft 88 = .ok (.iconst 0, 1) := by decide +kernel
theorem d_Mod_firstDraft_89 : decode b_Mod_firstDraft 89 = .ok (.putfield 75, 3) := by decide +kernel
theorem d_Mod_firstDraft_92 : decode b_Mod_firstDraft 92 = .ok (.iconst 0, 1) := by decide +kernel
theorem d_Mod_firstDraft_93 : decode b_Mod_firstDraft 93 = .ok (.istore_n 1, 1) := by decide +kernel
theorem d_Mod_firstDraft_94 : decode b_Mod_firstDraft 94 = .ok (.iload_n 1, 1) := by decide +kernel
theorem d_Mod_firstDraft_95 : decode b_Mod_firstDraft 95 = .ok (.bipush 6, 2) := by decide +kernel
theorem d_Mod_firstDraft_97 : decode b_Mod_firstDraft 97 = .ok (.if_icmp .ge 16, 3) := by decide +kernel
theorem d_Mod_firstDraft_100 : decode b_Mod_firstDraft 100 = .ok (.aload_n 0, 1) := by decide +kernel
theorem d_Mod_firstDraft_101 : decode b_Mod_firstDraft 101 = .ok (.getfield 20, 3) := by decide +kernel
theorem d_Mod_firstDraft_104 : decode b_Mod_firstDraft 104 = .ok (.iload_n 1, 1) := by decide +kernel
theorem d_Mod_firstDraft_105 : decode b_Mod_firstDraft 105 = .ok (.iconst 0, 1) := by decide +kernel
theorem d_Mod_firstDraft_106 : decode b_Mod_firstDraft 106 = .ok (.iastore, 1) := by decide +kernel
theorem d_Mod_firstDraft_107 : decode b_Mod_firstDraft 107 = .ok (.iinc 1 1, 3) := by decide +kernel
theorem d_Mod_firstDraft_110 : decode b_Mod_firstDraft 110 = .ok (.goto (-16), 3) := by decide +kernel
theorem d_Mod_firstDraft_113 : decode b_Mod_firstDraft 113 = .ok (.aload_n 0, 1) := by decide +kernel
theorem d_Mod_firstDraft_114 : decode b_Mod_firstDraft 114 = .ok (.bipush (-4), 2) := by decide +kernel
theorem d_Mod_firstDraft_116 : decode b_Mod_firstDraft 116 = .ok (.putfield 78, 3) := by decide +kernel
theorem d_Mod_firstDraft_119 : decode b_Mod_firstDraft 119 = .ok (.return_, 1) := by decide +kernel
def S_Mod_firstDraft : List (Nat × Option Nat) := [(119, none), (120, none), (116, some 7), (116, some 8), (116, some 9), (116, some 10), (116, some 11), (116, some 13)]
abbrev q_Mod_firstDraft (h : Hp)  : Option Value → Hp → Prop := pVd (fun h' => Inv h' ∧ fr S_Mod_firstDraft h h' ∧ ∃ (x : Int32) (xZ : Int), x.toInt = xZ ∧ h'.1 116 7 = x ∧ ∃ (y : Int32) (yZ : Int), y.toInt = yZ ∧ h'.1 116 8 = y ∧ (xZ = 3 ∧ yZ = 3))
set_option maxRecDepth 100000 in
theorem c_Mod_firstDraft (h : Hp) (hI : Inv h) : Ct y_Mod_firstDraft b_Mod_firstDraft 2 none 0 0 [.ref 116] h (q_Mod_firstDraft h ) := by
  refine ct_ow R_Mod [some (.ref 116), none] rfl (by decide) rfl (Nat.le_of_ble_eq_true rfl) ?_
  have f0 : fr S_Mod_firstDraft h h := fr_rf
  refine V_iconst 0 d_Mod_firstDraft_0 (by decide) ?_
  refine V_istore_n 1 [some (.ref 116), some (.int 0)] d_Mod_firstDraft_1 rfl (by decide) rfl rfl ?_
  have L1 : ∀ (nn : Nat) (v3 : Int32) (v3Z : Int) (h4 : Hp), v3.toInt = v3Z → Inv h4 → fr S_Mod_firstDraft h h4 → 0 ≤ v3Z ∧ v3Z ≤ 144 → 144 - v3Z < (nn : Int) → V R_Mod b_Mod_firstDraft 2 none 0 0 (q_Mod_firstDraft h ) h4 2 [some (.ref 116), some (.int v3)] [] := by
    intro nn
    induction nn with
    | zero => intro v3 v3Z h4 v3E Ih4 Fh4 q5 hm6; exact absurd hm6 (by omega)
    | succ nn ihL1 =>
      intro v3 v3Z h4 v3E Ih4 Fh4 q5 hm6
      refine V_iload_n 1 d_Mod_firstDraft_2 rfl rfl ?_
      refine V_sipush 144 d_Mod_firstDraft_3 (by decide) ?_
      refine V_icmp_ge 22 v3E tc_144 d_Mod_firstDraft_6 (by decide) (fun c7 => ?_) (fun c7 => ?_)
      ·
        refine V_iconst 0 d_Mod_firstDraft_22 (by decide) ?_
        refine V_istore_n 1 [some (.ref 116), some (.int 0)] d_Mod_firstDraft_23 rfl (by decide) rfl rfl ?_
        have L8 : ∀ (nn : Nat) (v10 : Int32) (v10Z : Int) (h11 : Hp), v10.toInt = v10Z → Inv h11 → fr S_Mod_firstDraft h h11 → 0 ≤ v10Z ∧ v10Z ≤ 16 → 16 - v10Z < (nn : Int) → V R_Mod b_Mod_firstDraft 2 none 0 0 (q_Mod_firstDraft h ) h11 24 [some (.ref 116), some (.int v10)] [] := by
          intro nn
          induction nn with
          | zero => intro v10 v10Z h11 v10E Ih11 Fh11 q12 hm13; exact absurd hm13 (by omega)
          | succ nn ihL8 =>
            intro v10 v10Z h11 v10E Ih11 Fh11 q12 hm13
            refine V_iload_n 1 d_Mod_firstDraft_24 rfl rfl ?_
            refine V_bipush 16 d_Mod_firstDraft_25 (by decide) ?_
            refine V_icmp_ge 57 v10E tc_16 d_Mod_firstDraft_27 (by decide) (fun c14 => ?_) (fun c14 => ?_)
            ·
              refine V_aload_n 0 d_Mod_firstDraft_57 rfl rfl ?_
              refine V_getR fa_Mod_17 sk_116 rfl d_Mod_firstDraft_58 ?_
              refine V_bipush 85 d_Mod_firstDraft_61 (by decide) ?_
              refine V_bipush 9 d_Mod_firstDraft_63 (by decide) ?_
              refine N_iast sk_119 tc_85 (by omega) d_Mod_firstDraft_65 (fun h15 eh15 => ?_)
              have hI16 : Inv h15 := inv_full Ih11 eh15 rfl
              have f17 : fr S_Mod_firstDraft h h15 := fr_put Fh11 eh15 rfl
              refine V_aload_n 0 d_Mod_firstDraft_66 rfl rfl ?_
              refine V_iconst 3 d_Mod_firstDraft_67 (by decide) ?_
              refine N_putI fp_Mod_62 sk_116 rfl d_Mod_firstDraft_68 (fun h18 eh18 => ?_)
              have hI19 : Inv h18 := inv_put (lo := 0) (hi := 4) hI16 eh18 rfl tc_3 (by omega)
              have f20 : fr S_Mod_firstDraft h h18 := fr_put f17 eh18 rfl
              refine V_aload_n 0 d_Mod_firstDraft_71 rfl rfl ?_
              refine V_iconst 3 d_Mod_firstDraft_72 (by decide) ?_
              refine N_putI fp_Mod_66 sk_116 rfl d_Mod_firstDraft_73 (fun h21 eh21 => ?_)
              have hI22 : Inv h21 := inv_put (lo := 0) (hi := 4) hI19 eh21 rfl tc_3 (by omega)
              have f23 : fr S_Mod_firstDraft h h21 := fr_put f20 eh21 rfl
              refine V_aload_n 0 d_Mod_firstDraft_76 rfl rfl ?_
              refine V_iconst 1 d_Mod_firstDraft_77 (by decide) ?_
              refine N_putI fp_Mod_69 sk_116 rfl d_Mod_firstDraft_78 (fun h24 eh24 => ?_)
              have hI25 : Inv h24 := inv_full hI22 eh24 rfl
              have f26 : fr S_Mod_firstDraft h h24 := fr_put f23 eh24 rfl
              refine V_aload_n 0 d_Mod_firstDraft_81 rfl rfl ?_
              refine V_bipush 10 d_Mod_firstDraft_82 (by decide) ?_
              refine N_putI fp_Mod_72 sk_116 rfl d_Mod_firstDraft_84 (fun h27 eh27 => ?_)
              have hI28 : Inv h27 := inv_full hI25 eh27 rfl
              have f29 : fr S_Mod_firstDraft h h27 := fr_put f26 eh27 rfl
              refine V_aload_n 0 d_Mod_firstDraft_87 rfl rfl ?_
              refine V_iconst 0 d_Mod_firstDraft_88 (by decide) ?_
              refine N_putI fp_Mod_75 sk_116 rfl d_Mod_firstDraft_89 (fun h30 eh30 => ?_)
              have hI31 : Inv h30 := inv_full hI28 eh30 rfl
              have f32 : fr S_Mod_firstDraft h h30 := fr_put f29 eh30 rfl
              refine V_iconst 0 d_Mod_firstDraft_92 (by decide) ?_
              refine V_istore_n 1 [some (.ref 116), some (.int 0)] d_Mod_firstDraft_93 rfl (by decide) rfl rfl ?_
              have L33 : ∀ (nn : Nat) (v35 : Int32) (v35Z : Int) (h36 : Hp), v35.toInt = v35Z → Inv h36 → fr S_Mod_firstDraft h h36 → h36.1 116 7 = 3 → h36.1 116 8 = 3 → 0 ≤ v35Z ∧ v35Z ≤ 6 → 6 - v35Z < (nn : Int) → V R_Mod b_Mod_firstDraft 2 none 0 0 (q_Mod_firstDraft h ) h36 94 [some (.ref 116), some (.int v35)] [] := by
                intro nn
                induction nn with
                | zero => intro v35 v35Z h36 v35E Ih36 Fh36 K37 K38 q39 hm40; exact absurd hm40 (by omega)
                | succ nn ihL33 =>
                  intro v35 v35Z h36 v35E Ih36 Fh36 K37 K38 q39 hm40
                  refine V_iload_n 1 d_Mod_firstDraft_94 rfl rfl ?_
                  refine V_bipush 6 d_Mod_firstDraft_95 (by decide) ?_
                  refine V_icmp_ge 113 v35E tc_6 d_Mod_firstDraft_97 (by decide) (fun c41 => ?_) (fun c41 => ?_)
                  ·
                    refine V_aload_n 0 d_Mod_firstDraft_113 rfl rfl ?_
                    refine V_bipush (-4) d_Mod_firstDraft_114 (by decide) ?_
                    refine N_putI fp_Mod_78 sk_116 rfl d_Mod_firstDraft_116 (fun h42 eh42 => ?_)
                    have hI43 : Inv h42 := inv_full Ih36 eh42 rfl
                    have f44 : fr S_Mod_firstDraft h h42 := fr_put Fh36 eh42 rfl
                    exact V_vret rfl d_Mod_firstDraft_119 ⟨rfl, ⟨hI43, f44, 3, 3, tc_3, (kn_nei eh42 K37 (by decide)), 3, 3, tc_3, (kn_nei eh42 K38 (by decide)), (by omega)⟩⟩
                  ·
                    refine V_aload_n 0 d_Mod_firstDraft_100 rfl rfl ?_
                    refine V_getR fa_Mod_20 sk_116 rfl d_Mod_firstDraft_101 ?_
                    refine V_iload_n 1 d_Mod_firstDraft_104 rfl rfl ?_
                    refine V_iconst 0 d_Mod_firstDraft_105 (by decide) ?_
                    refine N_iast sk_120 v35E (by omega) d_Mod_firstDraft_106 (fun h45 eh45 => ?_)
                    have hI46 : Inv h45 := inv_full Ih36 eh45 rfl
                    have f47 : fr S_Mod_firstDraft h h45 := fr_put Fh36 eh45 rfl
                    obtain ⟨z48, z48E, z48e⟩ : ∃ y : Int32, y.toInt = v35Z + 1 ∧ y = v35 + Int32.ofInt 1 := ⟨_, ti_add v35E (by decide) (by omega), rfl⟩
                    refine V_iinc 1 [some (.ref 116), some (.int z48)] d_Mod_firstDraft_107 rfl z48e.symm (by decide) rfl rfl ?_
                    refine V_goto 94 d_Mod_firstDraft_110 (by decide) ?_
                    exact ihL33 z48 ((v35Z + 1)) h45 z48E hI46 f47 (kn_ne eh45 K37 (by decide)) (kn_ne eh45 K38 (by decide)) (by omega) (by omega)
              exact L33 (Int.toNat ((6 - 0 : Int) + 1)) 0 0 h30 tc_0 hI31 f32 (kn_nei eh30 (kn_nei eh27 (kn_nei eh24 (kn_nei eh21 (kn_put eh18) (by decide)) (by decide)) (by decide)) (by decide)) (kn_nei eh30 (kn_nei eh27 (kn_nei eh24 (kn_put eh21) (by decide)) (by decide)) (by decide)) (by omega) (by omega)
            ·
              refine V_aload_n 0 d_Mod_firstDraft_30 rfl rfl ?_
              refine V_getR fa_Mod_17 sk_116 rfl d_Mod_firstDraft_31 ?_
              refine V_bipush 32 d_Mod_firstDraft_34 (by decide) ?_
              refine V_iload_n 1 d_Mod_firstDraft_36 rfl rfl ?_
              refine V_iadd tc_32 v10E (by omega) d_Mod_firstDraft_37 (fun z49 z49e z49E => ?_)
              refine V_iconst 5 d_Mod_firstDraft_38 (by decide) ?_
              refine N_iast sk_119 z49E (by omega) d_Mod_firstDraft_39 (fun h50 eh50 => ?_)
              have hI51 : Inv h50 := inv_full Ih11 eh50 (st_lo (by omega))
              have f52 : fr S_Mod_firstDraft h h50 := fr_put Fh11 eh50 rfl
              refine V_aload_n 0 d_Mod_firstDraft_40 rfl rfl ?_
              refine V_getR fa_Mod_17 sk_116 rfl d_Mod_firstDraft_41 ?_
              refine V_bipush 48 d_Mod_firstDraft_44 (by decide) ?_
              refine V_iload_n 1 d_Mod_firstDraft_46 rfl rfl ?_
              refine V_iadd tc_48 v10E (by omega) d_Mod_firstDraft_47 (fun z53 z53e z53E => ?_)
              refine V_bipush (-4) d_Mod_firstDraft_48 (by decide) ?_
              refine N_iast sk_119 z53E (by omega) d_Mod_firstDraft_50 (fun h54 eh54 => ?_)
              have hI55 : Inv h54 := inv_full hI51 eh54 (st_lo (by omega))
              have f56 : fr S_Mod_firstDraft h h54 := fr_put f52 eh54 rfl
              obtain ⟨z57, z57E, z57e⟩ : ∃ y : Int32, y.toInt = v10Z + 1 ∧ y = v10 + Int32.ofInt 1 := ⟨_, ti_add v10E (by decide) (by omega), rfl⟩
              refine V_iinc 1 [some (.ref 116), some (.int z57)] d_Mod_firstDraft_51 rfl z57e.symm (by decide) rfl rfl ?_
              refine V_goto 24 d_Mod_firstDraft_54 (by decide) ?_
              exact ihL8 z57 ((v10Z + 1)) h54 z57E hI55 f56 (by omega) (by omega)
        exact L8 (Int.toNat ((16 - 0 : Int) + 1)) 0 0 h4 tc_0 Ih4 Fh4 (by omega) (by omega)
      ·
        refine V_aload_n 0 d_Mod_firstDraft_9 rfl rfl ?_
        refine V_getR fa_Mod_17 sk_116 rfl d_Mod_firstDraft_10 ?_
        refine V_iload_n 1 d_Mod_firstDraft_13 rfl rfl ?_
        refine V_iconst 0 d_Mod_firstDraft_14 (by decide) ?_
        refine N_iast sk_119 v3E (by omega) d_Mod_firstDraft_15 (fun h58 eh58 => ?_)
        have hI59 : Inv h58 := inv_st Ih4 eh58 (Or.inr rfl) tc_0 (stOk_3 (by omega))
        have f60 : fr S_Mod_firstDraft h h58 := fr_put Fh4 eh58 rfl
        obtain ⟨z61, z61E, z61e⟩ : ∃ y : Int32, y.toInt = v3Z + 1 ∧ y = v3 + Int32.ofInt 1 := ⟨_, ti_add v3E (by decide) (by omega), rfl⟩
        refine V_iinc 1 [some (.ref 116), some (.int z61)] d_Mod_firstDraft_16 rfl z61e.symm (by decide) rfl rfl ?_
        refine V_goto 2 d_Mod_firstDraft_19 (by decide) ?_
        exact ihL1 z61 ((v3Z + 1)) h58 z61E hI59 f60 (by omega) (by omega)
  exact L1 (Int.toNat ((144 - 0 : Int) + 1)) 0 0 h tc_0 hI f0 (by omega) (by omega)
theorem d_Mod_keepDraft_0 : decode b_Mod_keepDraft 0 = .ok (.iconst 0, 1) := by decide +kernel
theorem d_Mod_keepDraft_1 : decode b_Mod_keepDraft 1 = .ok (.istore_n 1, 1) := by decide +kernel
theorem d_Mod_keepDraft_2 : decode b_Mod_keepDraft 2 = .ok (.iload_n 1, 1) := by decide +kernel
theorem d_Mod_keepDraft_3 : decode b_Mod_keepDraft 3 = .ok (.sipush 144, 3) := by decide +kernel
theorem d_Mod_keepDraft_6 : decode b_Mod_keepDraft 6 = .ok (.if_icmp .ge 21, 3) := by decide +kernel
theorem d_Mod_keepDraft_9 : decode b_Mod_keepDraft 9 = .ok (.aload_n 0, 1) := by decide +kernel
theorem d_Mod_keepDraft_10 : decode b_Mod_keepDraft 10 = .ok (.getfield 7, 3) := by decide +kernel
theorem d_Mod_keepDraft_13 : decode b_Mod_keepDraft 13 = .ok (.iload_n 1, 1) := by decide +kernel
theorem d_Mod_keepDraft_14 : decode b_Mod_keepDraft 14 = .ok (.aload_n 0, 1) := by decide +kernel
theorem d_Mod_keepDraft_15 : decode b_Mod_keepDraft 15 = .ok (.getfield 17, 3) := by decide +kernel
theorem d_Mod_keepDraft_18 : decode b_Mod_keepDraft 18 = .ok (.iload_n 1, 1) := by decide +kernel
theorem d_Mod_keepDraft_19 : decode b_Mod_keepDraft 19 = .ok (.iaload, 1) := by decide +kernel
theorem d_Mod_keepDraft_20 : decode b_Mod_keepDraft 20 = .ok (.iastore, 1) := by decide +kernel
theorem d_Mod_keepDraft_21 : decode b_Mod_keepDraft 21 = .ok (.iinc 1 1, 3) := by decide +kernel
theorem d_Mod_keepDraft_24 : decode b_Mod_keepDraft 24 = .ok (.goto (-22), 3) := by decide +kernel
theorem d_Mod_keepDraft_27 : decode b_Mod_keepDraft 27 = .ok (.aload_n 0, 1) := by decide +kernel
theorem d_Mod_keepDraft_28 : decode b_Mod_keepDraft 28 = .ok (.aload_n 0, 1) := by decide +kernel
theorem d_Mod_keepDraft_29 : decode b_Mod_keepDraft 29 = .ok (.getfield 62, 3) := by decide +kernel
theorem d_Mod_keepDraft_32 : decode b_Mod_keepDraft 32 = .ok (.putfield 81, 3) := by decide +kernel
theorem d_Mod_keepDraft_35 : decode b_Mod_keepDraft 35 = .ok (.aload_n 0, 1) := by decide +kernel
theorem d_Mod_keepDraft_36 : decode b_Mod_keepDraft 36 = .ok (.aload_n 0, 1) := by decide +kernel
theorem d_Mod_keepDraft_37 : decode b_Mod_keepDraft 37 = .ok (.getfield 66, 3) := by decide +kernel
theorem d_Mod_keepDraft_40 : decode b_Mod_keepDraft 40 = .ok (.putfield 84, 3) := by decide +kernel
theorem d_Mod_keepDraft_43 : decode b_Mod_keepDraft 43 = .ok (.aload_n 0, 1) := by decide +kernel
theorem d_Mod_keepDraft_44 : decode b_Mod_keepDraft 44 = .ok (.aload_n 0, 1) := by decide +kernel
theorem d_Mod_keepDraft_45 : decode b_Mod_keepDraft 45 = .ok (.getfield 69, 3) := by decide +kernel
theorem d_Mod_keepDraft_48 : decode b_Mod_keepDraft 48 = .ok (.putfield 87, 3) := by decide +kernel
theorem d_Mod_keepDraft_51 : decode b_Mod_keepDraft 51 = .ok (.aload_n 0, 1) := by decide +kernel
theorem d_Mod_keepDraft_52 : decode b_Mod_keepDraft 52 = .ok (.aload_n 0, 1) := by decide +kernel
theorem d_Mod_keepDraft_53 : decode b_Mod_keepDraft 53 = .ok (.getfield 72, 3) := by decide +kernel
theorem d_Mod_keepDraft_56 : decode b_Mod_keepDraft 56 = .ok (.putfield 90, 3) := by decide +kernel
theorem d_Mod_keepDraft_59 : decode b_Mod_keepDraft 59 = .ok (.aload_n 0, 1) := by decide +kernel
theorem d_Mod_keepDraft_60 : decode b_Mod_keepDraft 60 = .ok (.getfield 13, 3) := by decide +kernel
theorem d_Mod_keepDraft_63 : decode b_Mod_keepDraft 63 = .ok (.iconst 0, 1) := by decide +kernel
theorem d_Mod_keepDraft_64 : decode b_Mod_keepDraft 64 = .ok (.iconst 0, 1) := by decide +kernel
theorem d_Mod_keepDraft_65 : decode b_Mod_keepDraft 65 = .ok (.bastore, 1) := by decide +kernel
theorem d_Mod_keepDraft_66 : decode b_Mod_keepDraft 66 = .ok (.aload_n 0, 1) := by decide +kernel
theorem d_Mod_keepDraft_67 : decode b_Mod_keepDraft 67 = .ok (.getfield 13, 3) := by decide +kernel
theorem d_Mod_keepDraft_70 : decode b_Mod_keepDraft 70 = .ok (.iconst 1, 1) := by decide +kernel
theorem d_Mod_keepDraft_71 : decode b_Mod_keepDraft 71 = .ok (.iconst 0, 1) := by decide +kernel
theorem d_Mod_keepDraft_72 : decode b_Mod_keepDraft 72 = .ok (.bastore, 1) := by decide +kernel
theorem d_Mod_keepDraft_73 : decode b_Mod_keepDraft 73 = .ok (.return_, 1) := by decide +kernel
def S_Mod_keepDraft : List (Nat × Option Nat) := [(117, none), (118, none), (116, some 2), (116, some 3), (116, some 4), (116, some 5)]
abbrev q_Mod_keepDraft (h : Hp) (x : Int32) (xZ : Int) (y : Int32) (yZ : Int) : Option Value → Hp → Prop := pVd (fun h' => Inv h' ∧ fr S_Mod_keepDraft h h')
set_option maxRecDepth 100000 in
theorem c_Mod_keepDraft (h : Hp) (hI : Inv h) (x : Int32) (xZ : Int) (xE : x.toInt = xZ) (xK : h.1 116 7 = x) (y : Int32) (yZ : Int) (yE : y.toInt = yZ) (yK : h.1 116 8 = y) (hy0 : 2 ≤ xZ ∧ xZ ≤ 4 ∧ 2 ≤ yZ ∧ yZ ≤ 4) : Ct y_Mod_keepDraft b_Mod_keepDraft 2 none 0 0 [.ref 116] h (q_Mod_keepDraft h x xZ y yZ) := by
  refine ct_ow R_Mod [some (.ref 116), none] rfl (by decide) rfl (Nat.le_of_ble_eq_true rfl) ?_
  have f0 : fr S_Mod_keepDraft h h := fr_rf
  have g1 : 0 ≤ xZ ∧ xZ ≤ 4 := inv_at hI xE xK.symm rfl
  have g2 : 0 ≤ yZ ∧ yZ ≤ 4 := inv_at hI yE yK.symm rfl
  refine V_iconst 0 d_Mod_keepDraft_0 (by decide) ?_
  refine V_istore_n 1 [some (.ref 116), some (.int 0)] d_Mod_keepDraft_1 rfl (by decide) rfl rfl ?_
  have L3 : ∀ (nn : Nat) (v5 : Int32) (v5Z : Int) (h6 : Hp), v5.toInt = v5Z → Inv h6 → fr S_Mod_keepDraft h h6 → h6.1 116 7 = x → h6.1 116 8 = y → 0 ≤ v5Z ∧ v5Z ≤ 144 → 144 - v5Z < (nn : Int) → V R_Mod b_Mod_keepDraft 2 none 0 0 (q_Mod_keepDraft h x xZ y yZ) h6 2 [some (.ref 116), some (.int v5)] [] := by
    intro nn
    induction nn with
    | zero => intro v5 v5Z h6 v5E Ih6 Fh6 K7 K8 q9 hm10; exact absurd hm10 (by omega)
    | succ nn ihL3 =>
      intro v5 v5Z h6 v5E Ih6 Fh6 K7 K8 q9 hm10
      refine V_iload_n 1 d_Mod_keepDraft_2 rfl rfl ?_
      refine V_sipush 144 d_Mod_keepDraft_3 (by decide) ?_
      refine V_icmp_ge 27 v5E tc_144 d_Mod_keepDraft_6 (by decide) (fun c11 => ?_) (fun c11 => ?_)
      ·
        refine V_aload_n 0 d_Mod_keepDraft_27 rfl rfl ?_
        refine V_aload_n 0 d_Mod_keepDraft_28 rfl rfl ?_
        refine N_getK fa_Mod_62 sk_116 rfl d_Mod_keepDraft_29 K7 ?_
        refine N_putI fp_Mod_81 sk_116 rfl d_Mod_keepDraft_32 (fun h12 eh12 => ?_)
        have hI13 : Inv h12 := inv_put (lo := 2) (hi := 4) Ih6 eh12 rfl xE (by omega)
        have f14 : fr S_Mod_keepDraft h h12 := fr_put Fh6 eh12 rfl
        refine V_aload_n 0 d_Mod_keepDraft_35 rfl rfl ?_
        refine V_aload_n 0 d_Mod_keepDraft_36 rfl rfl ?_
        refine N_getK fa_Mod_66 sk_116 rfl d_Mod_keepDraft_37 (kn_nei eh12 K8 (by decide)) ?_
        refine N_putI fp_Mod_84 sk_116 rfl d_Mod_keepDraft_40 (fun h15 eh15 => ?_)
        have hI16 : Inv h15 := inv_put (lo := 2) (hi := 4) hI13 eh15 rfl yE (by omega)
        have f17 : fr S_Mod_keepDraft h h15 := fr_put f14 eh15 rfl
        refine V_aload_n 0 d_Mod_keepDraft_43 rfl rfl ?_
        refine V_aload_n 0 d_Mod_keepDraft_44 rfl rfl ?_
        refine N_getI fa_Mod_69 sk_116 rfl d_Mod_keepDraft_45 (fun z18 z18Z z18E z18e => ?_)
        refine N_putI fp_Mod_87 sk_116 rfl d_Mod_keepDraft_48 (fun h19 eh19 => ?_)
        have hI20 : Inv h19 := inv_full hI16 eh19 rfl
        have f21 : fr S_Mod_keepDraft h h19 := fr_put f17 eh19 rfl
        refine V_aload_n 0 d_Mod_keepDraft_51 rfl rfl ?_
        refine V_aload_n 0 d_Mod_keepDraft_52 rfl rfl ?_
        refine N_getI fa_Mod_72 sk_116 rfl d_Mod_keepDraft_53 (fun z22 z22Z z22E z22e => ?_)
        refine N_putI fp_Mod_90 sk_116 rfl d_Mod_keepDraft_56 (fun h23 eh23 => ?_)
        have hI24 : Inv h23 := inv_full hI20 eh23 rfl
        have f25 : fr S_Mod_keepDraft h h23 := fr_put f21 eh23 rfl
        refine V_aload_n 0 d_Mod_keepDraft_59 rfl rfl ?_
        refine V_getR fa_Mod_13 sk_116 rfl d_Mod_keepDraft_60 ?_
        refine V_iconst 0 d_Mod_keepDraft_63 (by decide) ?_
        refine V_iconst 0 d_Mod_keepDraft_64 (by decide) ?_
        refine N_zast sk_118 tc_0 (by omega) d_Mod_keepDraft_65 (fun h26 eh26 => ?_)
        have hI27 : Inv h26 := inv_full hI24 eh26 rfl
        have f28 : fr S_Mod_keepDraft h h26 := fr_put f25 eh26 rfl
        refine V_aload_n 0 d_Mod_keepDraft_66 rfl rfl ?_
        refine V_getR fa_Mod_13 sk_116 rfl d_Mod_keepDraft_67 ?_
        refine V_iconst 1 d_Mod_keepDraft_70 (by decide) ?_
        refine V_iconst 0 d_Mod_keepDraft_71 (by decide) ?_
        refine N_zast sk_118 tc_1 (by omega) d_Mod_keepDraft_72 (fun h29 eh29 => ?_)
        have hI30 : Inv h29 := inv_full hI27 eh29 rfl
        have f31 : fr S_Mod_keepDraft h h29 := fr_put f28 eh29 rfl
        exact V_vret rfl d_Mod_keepDraft_73 ⟨rfl, ⟨hI30, f31⟩⟩
      ·
        refine V_aload_n 0 d_Mod_keepDraft_9 rfl rfl ?_
        refine V_getR fa_Mod_7 sk_116 rfl d_Mod_keepDraft_10 ?_
        refine V_iload_n 1 d_Mod_keepDraft_13 rfl rfl ?_
        refine V_aload_n 0 d_Mod_keepDraft_14 rfl rfl ?_
        refine V_getR fa_Mod_17 sk_116 rfl d_Mod_keepDraft_15 ?_
        refine V_iload_n 1 d_Mod_keepDraft_18 rfl rfl ?_
        refine N_iald sk_119 v5E (by omega) d_Mod_keepDraft_19 (fun z32 z32Z z32E z32e => ?_)
        refine N_iast sk_117 v5E (by omega) d_Mod_keepDraft_20 (fun h33 eh33 => ?_)
        have hI34 : Inv h33 := inv_st Ih6 eh33 (Or.inl rfl) z32E (stOk_of Ih6 (Or.inr rfl) z32E z32e (by omega))
        have f35 : fr S_Mod_keepDraft h h33 := fr_put Fh6 eh33 rfl
        obtain ⟨z36, z36E, z36e⟩ : ∃ y : Int32, y.toInt = v5Z + 1 ∧ y = v5 + Int32.ofInt 1 := ⟨_, ti_add v5E (by decide) (by omega), rfl⟩
        refine V_iinc 1 [some (.ref 116), some (.int z36)] d_Mod_keepDraft_21 rfl z36e.symm (by decide) rfl rfl ?_
        refine V_goto 2 d_Mod_keepDraft_24 (by decide) ?_
        exact ihL3 z36 ((v5Z + 1)) h33 z36E hI34 f35 (kn_ne eh33 K7 (by decide)) (kn_ne eh33 K8 (by decide)) (by omega) (by omega)
  exact L3 (Int.toNat ((144 - 0 : Int) + 1)) 0 0 h tc_0 hI f0 xK yK (by omega) (by omega)
theorem d_Mod_needs_0 : decode b_Mod_needs 0 = .ok (.iload_n 1, 1) := by decide +kernel
theorem d_Mod_needs_1 : decode b_Mod_needs 1 = .ok (.ifCond .ne 23, 3) := by decide +kernel
theorem d_Mod_needs_4 : decode b_Mod_needs 4 = .ok (.aload_n 0, 1) := by decide +kernel
theorem d_Mod_needs_5 : decode b_Mod_needs 5 = .ok (.getfield 102, 3) := by decide +kernel
theorem d_Mod_needs_8 : decode b_Mod_needs 8 = .ok (.ifCond .ne 16, 3) := by decide +kernel
theorem d_Mod_needs_11 : decode b_Mod_needs 11 = .ok (.aload_n 0, 1) := by decide +kernel
theorem d_Mod_needs_12 : decode b_Mod_needs 12 = .ok (.iload_n 2, 1) := by decide +kernel
theorem d_Mod_needs_13 : decode b_Mod_needs 13 = .ok (.putfield 102, 3) := by decide +kernel
theorem d_Mod_needs_16 : decode b_Mod_needs 16 = .ok (.aload_n 0, 1) := by decide +kernel
theorem d_Mod_needs_17 : decode b_Mod_needs 17 = .ok (.aload_n 0, 1) := by decide +kernel
theorem d_Mod_needs_18 : decode b_Mod_needs 18 = .ok (.getfield 105, 3) := by decide +kernel
theorem d_Mod_needs_21 : decode b_Mod_needs 21 = .ok (.putfield 108, 3) := by decide +kernel
theorem d_Mod_needs_24 : decode b_Mod_needs 24 = .ok (.return_, 1) := by decide +kernel
def S_Mod_needs : List (Nat × Option Nat) := [(116, some 20), (116, some 21)]
abbrev q_Mod_needs (h : Hp) (b : Int32) (bZ : Int) (c : Int32) (cZ : Int) (f : Int32) (fZ : Int) : Option Value → Hp → Prop := pVd (fun h' => Inv h' ∧ fr S_Mod_needs h h' ∧ ∃ (u : Int32) (uZ : Int), u.toInt = uZ ∧ h'.1 116 20 = u ∧ (bZ ≠ 0 ∧ uZ = fZ ∨ bZ = 0 ∧ fZ ≠ 0 ∧ uZ = fZ ∨ bZ = 0 ∧ fZ = 0 ∧ uZ = cZ))
set_option maxRecDepth 100000 in
theorem c_Mod_needs (h : Hp) (hI : Inv h) (b : Int32) (bZ : Int) (bE : b.toInt = bZ) (c : Int32) (cZ : Int) (cE : c.toInt = cZ) (f : Int32) (fZ : Int) (fE : f.toInt = fZ) (fK : h.1 116 20 = f) : Ct y_Mod_needs b_Mod_needs 3 none 0 0 [.ref 116, .int b, .int c] h (q_Mod_needs h b bZ c cZ f fZ) := by
  refine ct_ow R_Mod [some (.ref 116), some (.int b), some (.int c)] rfl (by decide) rfl (Nat.le_of_ble_eq_true rfl) ?_
  have f0 : fr S_Mod_needs h h := fr_rf
  refine V_iload_n 1 d_Mod_needs_0 rfl rfl ?_
  refine V_if_ne 24 bE d_Mod_needs_1 (by decide) (fun c1 => ?_) (fun c1 => ?_)
  ·
    exact V_vret rfl d_Mod_needs_24 ⟨rfl, ⟨hI, f0, f, fZ, fE, fK, (by omega)⟩⟩
  ·
    refine V_aload_n 0 d_Mod_needs_4 rfl rfl ?_
    refine N_getK fa_Mod_102 sk_116 rfl d_Mod_needs_5 fK ?_
    refine V_if_ne 24 fE d_Mod_needs_8 (by decide) (fun c2 => ?_) (fun c2 => ?_)
    ·
      exact V_vret rfl d_Mod_needs_24 ⟨rfl, ⟨hI, f0, f, fZ, fE, fK, (by omega)⟩⟩
    ·
      refine V_aload_n 0 d_Mod_needs_11 rfl rfl ?_
      refine V_iload_n 2 d_Mod_needs_12 rfl rfl ?_
      refine N_putI fp_Mod_102 sk_116 rfl d_Mod_needs_13 (fun h3 eh3 => ?_)
      have hI4 : Inv h3 := inv_full hI eh3 rfl
      have f5 : fr S_Mod_needs h h3 := fr_put f0 eh3 rfl
      refine V_aload_n 0 d_Mod_needs_16 rfl rfl ?_
      refine V_aload_n 0 d_Mod_needs_17 rfl rfl ?_
      refine N_getI fa_Mod_105 sk_116 rfl d_Mod_needs_18 (fun z6 z6Z z6E z6e => ?_)
      have g7 : 0 ≤ z6Z ∧ z6Z ≤ 160 := inv_at hI4 z6E z6e rfl
      refine N_putI fp_Mod_108 sk_116 rfl d_Mod_needs_21 (fun h8 eh8 => ?_)
      have hI9 : Inv h8 := inv_full hI4 eh8 rfl
      have f10 : fr S_Mod_needs h h8 := fr_put f5 eh8 rfl
      exact V_vret rfl d_Mod_needs_24 ⟨rfl, ⟨hI9, f10, c, cZ, cE, (kn_nei eh8 (kn_put eh3) (by decide)), (by omega)⟩⟩
theorem d_Mod_is_0 : decode b_Mod_is 0 = .ok (.aload_n 0, 1) := by decide +kernel
theorem d_Mod_is_1 : decode b_Mod_is 1 = .ok (.getfield 111, 3) := by decide +kernel
theorem d_Mod_is_4 : decode b_Mod_is 4 = .ok (.aload_n 0, 1) := by decide +kernel
theorem d_Mod_is_5 : decode b_Mod_is 5 = .ok (.getfield 105, 3) := by decide +kernel
theorem d_Mod_is_8 : decode b_Mod_is 8 = .ok (.isub, 1) := by decide +kernel
theorem d_Mod_is_9 : decode b_Mod_is 9 = .ok (.iload_n 1, 1) := by decide +kernel
theorem d_Mod_is_10 : decode b_Mod_is 10 = .ok (.if_icmp .ne 48, 3) := by decide +kernel
theorem d_Mod_is_13 : decode b_Mod_is 13 = .ok (.aload_n 0, 1) := by decide +kernel
theorem d_Mod_is_14 : decode b_Mod_is 14 = .ok (.aload_n 0, 1) := by decide +kernel
theorem d_Mod_is_15 : decode b_Mod_is 15 = .ok (.getfield 105, 3) := by decide +kernel
theorem d_Mod_is_18 : decode b_Mod_is 18 = .ok (.invokevirtual 114, 3) := by decide +kernel
theorem d_Mod_is_21 : decode b_Mod_is 21 = .ok (.iload_n 2, 1) := by decide +kernel
theorem d_Mod_is_22 : decode b_Mod_is 22 = .ok (.if_icmp .ne 36, 3) := by decide +kernel
theorem d_Mod_is_25 : decode b_Mod_is 25 = .ok (.aload_n 0, 1) := by decide +kernel
theorem d_Mod_is_26 : decode b_Mod_is 26 = .ok (.aload_n 0, 1) := by decide +kernel
theorem d_Mod_is_27 : decode b_Mod_is 27 = .ok (.getfield 105, 3) := by decide +kernel
theorem d_Mod_is_30 : decode b_Mod_is 30 = .ok (.iconst 1, 1) := by decide +kernel
theorem d_Mod_is_31 : decode b_Mod_is 31 = .ok (.iadd, 1) := by decide +kernel
theorem d_Mod_is_32 : decode b_Mod_is 32 = .ok (.invokevirtual 114, 3) := by decide +kernel
theorem d_Mod_is_35 : decode b_Mod_is 35 = .ok (.iload_n 3, 1) := by decide +kernel
theorem d_Mod_is_36 : decode b_Mod_is 36 = .ok (.if_icmp .ne 22, 3) := by decide +kernel
theorem d_Mod_is_39 : decode b_Mod_is 39 = .ok (.aload_n 0, 1) := by decide +kernel
theorem d_Mod_is_40 : decode b_Mod_is 40 = .ok (.aload_n 0, 1) := by decide +kernel
theorem d_Mod_is_41 : decode b_Mod_is 41 = .ok (.getfield 105, 3) := by decide +kernel
theorem d_Mod_is_44 : decode b_Mod_is 44 = .ok (.iconst 2, 1) := by decide +kernel
theorem d_Mod_is_45 : decode b_Mod_is 45 = .ok (.iadd, 1) := by decide +kernel
theorem d_Mod_is_46 : decode b_Mod_is 46 = .ok (.invokevirtual 114, 3) := by decide +kernel
theorem d_Mod_is_49 : decode b_Mod_is 49 = .ok (.iload 4, 2) := by decide +kernel
theorem d_Mod_is_51 : decode b_Mod_is 51 = .ok (.if_icmp .ne 7, 3) := by decide +kernel
theorem d_Mod_is_54 : decode b_Mod_is 54 = .ok (.iconst 1, 1) := by decide +kernel
theorem d_Mod_is_55 : decode b_Mod_is 55 = .ok (.goto 4, 3) := by decide +kernel
theorem d_Mod_is_58 : decode b_Mod_is 58 = .ok (.iconst 0, 1) := by decide +kernel
theorem d_Mod_is_59 : decode b_Mod_is 59 = .ok (.ireturn, 1) := by decide +kernel
abbrev q_Mod_is (h : Hp) (n : Int32) (nZ : Int) (a : Int32) (aZ : Int) (b : Int32) (bZ : Int) (c : Int32) (cZ : Int) : Option Value → Hp → Prop := pInt (fun r h' => h = h' ∧ (r.toInt = 0 ∨ r.toInt = 1))
set_option maxRecDepth 100000 in
theorem c_Mod_is (h : Hp) (hI : Inv h) (n : Int32) (nZ : Int) (nE : n.toInt = nZ) (a : Int32) (aZ : Int) (aE : a.toInt = aZ) (b : Int32) (bZ : Int) (bE : b.toInt = bZ) (c : Int32) (cZ : Int) (cE : c.toInt = cZ) : Ct y_Mod_is b_Mod_is 5 (some .boolean) 1 21 [.ref 116, .int n, .int a, .int b, .int c] h (q_Mod_is h n nZ a aZ b bZ c cZ) := by
  refine ct_ow R_Mod [some (.ref 116), some (.int n), some (.int a), some (.int b), some (.int c)] rfl (by decide) rfl (Nat.le_of_ble_eq_true rfl) ?_
  have f0 : fr [] h h := fr_rf
  refine V_aload_n 0 d_Mod_is_0 rfl rfl ?_
  refine N_getI fa_Mod_111 sk_116 rfl d_Mod_is_1 (fun z1 z1Z z1E z1e => ?_)
  have g2 : 0 ≤ z1Z ∧ z1Z ≤ 160 := inv_at hI z1E z1e rfl
  refine V_aload_n 0 d_Mod_is_4 rfl rfl ?_
  refine N_getI fa_Mod_105 sk_116 rfl d_Mod_is_5 (fun z3 z3Z z3E z3e => ?_)
  have g4 : 0 ≤ z3Z ∧ z3Z ≤ 160 := inv_at hI z3E z3e rfl
  refine V_isub z1E z3E (by omega) d_Mod_is_8 (fun z5 z5e z5E => ?_)
  refine V_iload_n 1 d_Mod_is_9 rfl rfl ?_
  refine V_icmp_ne 58 z5E nE d_Mod_is_10 (by decide) (fun c6 => ?_) (fun c6 => ?_)
  ·
    refine V_iconst 0 d_Mod_is_58 (by decide) ?_
    exact V_zret rfl (by decide) d_Mod_is_59 ⟨0, rfl, ⟨rfl, (by (try rw [show Int32.toInt 0 = 0 from rfl]); omega)⟩⟩
  ·
    refine V_aload_n 0 d_Mod_is_13 rfl rfl ?_
    refine V_aload_n 0 d_Mod_is_14 rfl rfl ?_
    refine N_getK fa_Mod_105 sk_116 rfl d_Mod_is_15 z3e.symm ?_
    obtain ⟨z7, z7Z, z7E, z7e⟩ : ∃ (y : Int32) (Y : Int), y.toInt = Y ∧ y = h.1 116 15 := ⟨_, _, rfl, rfl⟩
    have g8 : 0 ≤ z7Z ∧ z7Z ≤ 160 := inv_at hI z7E z7e rfl
    refine N_callVI [.int z3] [] cv_Mod_114 sk_116 rfl d_Mod_is_18 rfl (Nat.le_of_ble_eq_true rfl) (by decide) (by decide) (c_Mod_look h hI z3 z3Z z3E z7 z7Z z7E z7e.symm (by omega)) (fun z9 h10 z9Z z9E p11 => ?_)
    obtain ⟨eh10, p11⟩ := p11
    subst eh10
    refine V_iload_n 2 d_Mod_is_21 rfl rfl ?_
    refine V_icmp_ne 58 z9E aE d_Mod_is_22 (by decide) (fun c12 => ?_) (fun c12 => ?_)
    ·
      refine V_iconst 0 d_Mod_is_58 (by decide) ?_
      exact V_zret rfl (by decide) d_Mod_is_59 ⟨0, rfl, ⟨rfl, (by (try rw [show Int32.toInt 0 = 0 from rfl]); omega)⟩⟩
    ·
      refine V_aload_n 0 d_Mod_is_25 rfl rfl ?_
      refine V_aload_n 0 d_Mod_is_26 rfl rfl ?_
      refine N_getK fa_Mod_105 sk_116 rfl d_Mod_is_27 z3e.symm ?_
      refine V_iconst 1 d_Mod_is_30 (by decide) ?_
      refine V_iadd z3E tc_1 (by omega) d_Mod_is_31 (fun z13 z13e z13E => ?_)
      refine N_callVI [.int z13] [] cv_Mod_114 sk_116 rfl d_Mod_is_32 rfl (Nat.le_of_ble_eq_true rfl) (by decide) (by decide) (c_Mod_look h hI z13 ((z3Z + 1)) z13E z7 z7Z z7E z7e.symm (by omega)) (fun z14 h15 z14Z z14E p16 => ?_)
      obtain ⟨eh15, p16⟩ := p16
      subst eh15
      refine V_iload_n 3 d_Mod_is_35 rfl rfl ?_
      refine V_icmp_ne 58 z14E bE d_Mod_is_36 (by decide) (fun c17 => ?_) (fun c17 => ?_)
      ·
        refine V_iconst 0 d_Mod_is_58 (by decide) ?_
        exact V_zret rfl (by decide) d_Mod_is_59 ⟨0, rfl, ⟨rfl, (by (try rw [show Int32.toInt 0 = 0 from rfl]); omega)⟩⟩
      ·
        refine V_aload_n 0 d_Mod_is_39 rfl rfl ?_
        refine V_aload_n 0 d_Mod_is_40 rfl rfl ?_
        refine N_getK fa_Mod_105 sk_116 rfl d_Mod_is_41 z3e.symm ?_
        refine V_iconst 2 d_Mod_is_44 (by decide) ?_
        refine V_iadd z3E tc_2 (by omega) d_Mod_is_45 (fun z18 z18e z18E => ?_)
        refine N_callVI [.int z18] [] cv_Mod_114 sk_116 rfl d_Mod_is_46 rfl (Nat.le_of_ble_eq_true rfl) (by decide) (by decide) (c_Mod_look h hI z18 ((z3Z + 2)) z18E z7 z7Z z7E z7e.symm (by omega)) (fun z19 h20 z19Z z19E p21 => ?_)
        obtain ⟨eh20, p21⟩ := p21
        subst eh20
        refine V_iload d_Mod_is_49 rfl ?_
        refine V_icmp_ne 58 z19E cE d_Mod_is_51 (by decide) (fun c22 => ?_) (fun c22 => ?_)
        ·
          refine V_iconst 0 d_Mod_is_58 (by decide) ?_
          exact V_zret rfl (by decide) d_Mod_is_59 ⟨0, rfl, ⟨rfl, (by (try rw [show Int32.toInt 0 = 0 from rfl]); omega)⟩⟩
        ·
          refine V_iconst 1 d_Mod_is_54 (by decide) ?_
          refine V_goto 59 d_Mod_is_55 (by decide) ?_
          exact V_zret rfl (by decide) d_Mod_is_59 ⟨1, rfl, ⟨rfl, (by (try rw [show Int32.toInt 1 = 1 from rfl]); omega)⟩⟩
theorem d_Mod_ends_0 : decode b_Mod_ends 0 = .ok (.aload_n 0, 1) := by decide +kernel
theorem d_Mod_ends_1 : decode b_Mod_ends 1 = .ok (.aload_n 0, 1) := by decide +kernel
theorem d_Mod_ends_2 : decode b_Mod_ends 2 = .ok (.getfield 105, 3) := by decide +kernel
theorem d_Mod_ends_5 : decode b_Mod_ends 5 = .ok (.iconst 3, 1) := by decide +kernel
theorem d_Mod_ends_6 : decode b_Mod_ends 6 = .ok (.iadd, 1) := by decide +kernel
theorem d_Mod_ends_7 : decode b_Mod_ends 7 = .ok (.invokevirtual 114, 3) := by decide +kernel
theorem d_Mod_ends_10 : decode b_Mod_ends 10 = .ok (.iload_n 1, 1) := by decide +kernel
theorem d_Mod_ends_11 : decode b_Mod_ends 11 = .ok (.if_icmp .ne 43, 3) := by decide +kernel
theorem d_Mod_ends_14 : decode b_Mod_ends 14 = .ok (.iload_n 2, 1) := by decide +kernel
theorem d_Mod_ends_15 : decode b_Mod_ends 15 = .ok (.ifCond .eq 17, 3) := by decide +kernel
theorem d_Mod_ends_18 : decode b_Mod_ends 18 = .ok (.aload_n 0, 1) := by decide +kernel
theorem d_Mod_ends_19 : decode b_Mod_ends 19 = .ok (.aload_n 0, 1) := by decide +kernel
theorem d_Mod_ends_20 : decode b_Mod_ends 20 = .ok (.getfield 105, 3) := by decide +kernel
theorem d_Mod_ends_23 : decode b_Mod_ends 23 = .ok (.iconst 4, 1) := by decide +kernel
theorem d_Mod_ends_24 : decode b_Mod_ends 24 = .ok (.iadd, 1) := by decide +kernel
theorem d_Mod_ends_25 : decode b_Mod_ends 25 = .ok (.invokevirtual 114, 3) := by decide +kernel
theorem d_Mod_ends_28 : decode b_Mod_ends 28 = .ok (.iload_n 2, 1) := by decide +kernel
theorem d_Mod_ends_29 : decode b_Mod_ends 29 = .ok (.if_icmp .ne 25, 3) := by decide +kernel
theorem d_Mod_ends_32 : decode b_Mod_ends 32 = .ok (.iload_n 3, 1) := by decide +kernel
theorem d_Mod_ends_33 : decode b_Mod_ends 33 = .ok (.ifCond .eq 17, 3) := by decide +kernel
theorem d_Mod_ends_36 : decode b_Mod_ends 36 = .ok (.aload_n 0, 1) := by decide +kernel
theorem d_Mod_ends_37 : decode b_Mod_ends 37 = .ok (.aload_n 0, 1) := by decide +kernel
theorem d_Mod_ends_38 : decode b_Mod_ends 38 = .ok (.getfield 105, 3) := by decide +kernel
theorem d_Mod_ends_41 : decode b_Mod_ends 41 = .ok (.iconst 5, 1) := by decide +kernel
theorem d_Mod_ends_42 : decode b_Mod_ends 42 = .ok (.iadd, 1) := by decide +kernel
theorem d_Mod_ends_43 : decode b_Mod_ends 43 = .ok (.invokevirtual 114, 3) := by decide +kernel
theorem d_Mod_ends_46 : decode b_Mod_ends 46 = .ok (.iload_n 3, 1) := by decide +kernel
theorem d_Mod_ends_47 : decode b_Mod_ends 47 = .ok (.if_icmp .ne 7, 3) := by decide +kernel
theorem d_Mod_ends_50 : decode b_Mod_ends 50 = .ok (.iconst 1, 1) := by decide +kernel
theorem d_Mod_ends_51 : decode b_Mod_ends 51 = .ok (.goto 4, 3) := by decide +kernel
theorem d_Mod_ends_54 : decode b_Mod_ends 54 = .ok (.iconst 0, 1) := by decide +kernel
theorem d_Mod_ends_55 : decode b_Mod_ends 55 = .ok (.ireturn, 1) := by decide +kernel
abbrev q_Mod_ends (h : Hp) (a : Int32) (aZ : Int) (b : Int32) (bZ : Int) (c : Int32) (cZ : Int) : Option Value → Hp → Prop := pInt (fun r h' => h = h' ∧ (r.toInt = 0 ∨ r.toInt = 1))
set_option maxRecDepth 100000 in
theorem c_Mod_ends (h : Hp) (hI : Inv h) (a : Int32) (aZ : Int) (aE : a.toInt = aZ) (b : Int32) (bZ : Int) (bE : b.toInt = bZ) (c : Int32) (cZ : Int) (cE : c.toInt = cZ) : Ct y_Mod_ends b_Mod_ends 4 (some .boolean) 1 21 [.ref 116, .int a, .int b, .int c] h (q_Mod_ends h a aZ b bZ c cZ) := by
  refine ct_ow R_Mod [some (.ref 116), some (.int a), some (.int b), some (.int c)] rfl (by decide) rfl (Nat.le_of_ble_eq_true rfl) ?_
  have f0 : fr [] h h := fr_rf
  refine V_aload_n 0 d_Mod_ends_0 rfl rfl ?_
  refine V_aload_n 0 d_Mod_ends_1 rfl rfl ?_
  refine N_getI fa_Mod_105 sk_116 rfl d_Mod_ends_2 (fun z1 z1Z z1E z1e => ?_)
  have g2 : 0 ≤ z1Z ∧ z1Z ≤ 160 := inv_at hI z1E z1e rfl
  refine V_iconst 3 d_Mod_ends_5 (by decide) ?_
  refine V_iadd z1E tc_3 (by omega) d_Mod_ends_6 (fun z3 z3e z3E => ?_)
  obtain ⟨z4, z4Z, z4E, z4e⟩ : ∃ (y : Int32) (Y : Int), y.toInt = Y ∧ y = h.1 116 15 := ⟨_, _, rfl, rfl⟩
  have g5 : 0 ≤ z4Z ∧ z4Z ≤ 160 := inv_at hI z4E z4e rfl
  refine N_callVI [.int z3] [] cv_Mod_114 sk_116 rfl d_Mod_ends_7 rfl (Nat.le_of_ble_eq_true rfl) (by decide) (by decide) (c_Mod_look h hI z3 ((z1Z + 3)) z3E z4 z4Z z4E z4e.symm (by omega)) (fun z6 h7 z6Z z6E p8 => ?_)
  obtain ⟨eh7, p8⟩ := p8
  subst eh7
  refine V_iload_n 1 d_Mod_ends_10 rfl rfl ?_
  refine V_icmp_ne 54 z6E aE d_Mod_ends_11 (by decide) (fun c9 => ?_) (fun c9 => ?_)
  ·
    refine V_iconst 0 d_Mod_ends_54 (by decide) ?_
    exact V_zret rfl (by decide) d_Mod_ends_55 ⟨0, rfl, ⟨rfl, (by (try rw [show Int32.toInt 0 = 0 from rfl]); omega)⟩⟩
  ·
    refine V_iload_n 2 d_Mod_ends_14 rfl rfl ?_
    refine V_if_eq 32 bE d_Mod_ends_15 (by decide) (fun c10 => ?_) (fun c10 => ?_)
    ·
      refine V_iload_n 3 d_Mod_ends_32 rfl rfl ?_
      refine V_if_eq 50 cE d_Mod_ends_33 (by decide) (fun c11 => ?_) (fun c11 => ?_)
      ·
        refine V_iconst 1 d_Mod_ends_50 (by decide) ?_
        refine V_goto 55 d_Mod_ends_51 (by decide) ?_
        exact V_zret rfl (by decide) d_Mod_ends_55 ⟨1, rfl, ⟨rfl, (by (try rw [show Int32.toInt 1 = 1 from rfl]); omega)⟩⟩
      ·
        refine V_aload_n 0 d_Mod_ends_36 rfl rfl ?_
        refine V_aload_n 0 d_Mod_ends_37 rfl rfl ?_
        refine N_getK fa_Mod_105 sk_116 rfl d_Mod_ends_38 z1e.symm ?_
        refine V_iconst 5 d_Mod_ends_41 (by decide) ?_
        refine V_iadd z1E tc_5 (by omega) d_Mod_ends_42 (fun z12 z12e z12E => ?_)
        refine N_callVI [.int z12] [] cv_Mod_114 sk_116 rfl d_Mod_ends_43 rfl (Nat.le_of_ble_eq_true rfl) (by decide) (by decide) (c_Mod_look h hI z12 ((z1Z + 5)) z12E z4 z4Z z4E z4e.symm (by omega)) (fun z13 h14 z13Z z13E p15 => ?_)
        obtain ⟨eh14, p15⟩ := p15
        subst eh14
        refine V_iload_n 3 d_Mod_ends_46 rfl rfl ?_
        refine V_icmp_ne 54 z13E cE d_Mod_ends_47 (by decide) (fun c16 => ?_) (fun c16 => ?_)
        ·
          refine V_iconst 0 d_Mod_ends_54 (by decide) ?_
          exact V_zret rfl (by decide) d_Mod_ends_55 ⟨0, rfl, ⟨rfl, (by (try rw [show Int32.toInt 0 = 0 from rfl]); omega)⟩⟩
        ·
          refine V_iconst 1 d_Mod_ends_50 (by decide) ?_
          refine V_goto 55 d_Mod_ends_51 (by decide) ?_
          exact V_zret rfl (by decide) d_Mod_ends_55 ⟨1, rfl, ⟨rfl, (by (try rw [show Int32.toInt 1 = 1 from rfl]); omega)⟩⟩
    ·
      refine V_aload_n 0 d_Mod_ends_18 rfl rfl ?_
      refine V_aload_n 0 d_Mod_ends_19 rfl rfl ?_
      refine N_getK fa_Mod_105 sk_116 rfl d_Mod_ends_20 z1e.symm ?_
      refine V_iconst 4 d_Mod_ends_23 (by decide) ?_
      refine V_iadd z1E tc_4 (by omega) d_Mod_ends_24 (fun z17 z17e z17E => ?_)
      refine N_callVI [.int z17] [] cv_Mod_114 sk_116 rfl d_Mod_ends_25 rfl (Nat.le_of_ble_eq_true rfl) (by decide) (by decide) (c_Mod_look h hI z17 ((z1Z + 4)) z17E z4 z4Z z4E z4e.symm (by omega)) (fun z18 h19 z18Z z18E p20 => ?_)
      obtain ⟨eh19, p20⟩ := p20
      subst eh19
      refine V_iload_n 2 d_Mod_ends_28 rfl rfl ?_
      refine V_icmp_ne 54 z18E bE d_Mod_ends_29 (by decide) (fun c21 => ?_) (fun c21 => ?_)
      ·
        refine V_iconst 0 d_Mod_ends_54 (by decide) ?_
        exact V_zret rfl (by decide) d_Mod_ends_55 ⟨0, rfl, ⟨rfl, (by (try rw [show Int32.toInt 0 = 0 from rfl]); omega)⟩⟩
      ·
        refine V_iload_n 3 d_Mod_ends_32 rfl rfl ?_
        refine V_if_eq 50 cE d_Mod_ends_33 (by decide) (fun c22 => ?_) (fun c22 => ?_)
        ·
          refine V_iconst 1 d_Mod_ends_50 (by decide) ?_
          refine V_goto 55 d_Mod_ends_51 (by decide) ?_
          exact V_zret rfl (by decide) d_Mod_ends_55 ⟨1, rfl, ⟨rfl, (by (try rw [show Int32.toInt 1 = 1 from rfl]); omega)⟩⟩
        ·
          refine V_aload_n 0 d_Mod_ends_36 rfl rfl ?_
          refine V_aload_n 0 d_Mod_ends_37 rfl rfl ?_
          refine N_getK fa_Mod_105 sk_116 rfl d_Mod_ends_38 z1e.symm ?_
          refine V_iconst 5 d_Mod_ends_41 (by decide) ?_
          refine V_iadd z1E tc_5 (by omega) d_Mod_ends_42 (fun z23 z23e z23E => ?_)
          refine N_callVI [.int z23] [] cv_Mod_114 sk_116 rfl d_Mod_ends_43 rfl (Nat.le_of_ble_eq_true rfl) (by decide) (by decide) (c_Mod_look h hI z23 ((z1Z + 5)) z23E z4 z4Z z4E z4e.symm (by omega)) (fun z24 h25 z24Z z24E p26 => ?_)
          obtain ⟨eh25, p26⟩ := p26
          subst eh25
          refine V_iload_n 3 d_Mod_ends_46 rfl rfl ?_
          refine V_icmp_ne 54 z24E cE d_Mod_ends_47 (by decide) (fun c27 => ?_) (fun c27 => ?_)
          ·
            refine V_iconst 0 d_Mod_ends_54 (by decide) ?_
            exact V_zret rfl (by decide) d_Mod_ends_55 ⟨0, rfl, ⟨rfl, (by (try rw [show Int32.toInt 0 = 0 from rfl]); omega)⟩⟩
          ·
            refine V_iconst 1 d_Mod_ends_50 (by decide) ?_
            refine V_goto 55 d_Mod_ends_51 (by decide) ?_
            exact V_zret rfl (by decide) d_Mod_ends_55 ⟨1, rfl, ⟨rfl, (by (try rw [show Int32.toInt 1 = 1 from rfl]); omega)⟩⟩
theorem d_Mod_ruleLine_0 : decode b_Mod_ruleLine 0 = .ok (.aload_n 0, 1) := by decide +kernel
theorem d_Mod_ruleLine_1 : decode b_Mod_ruleLine 1 = .ok (.bipush 6, 2) := by decide +kernel
theorem d_Mod_ruleLine_3 : decode b_Mod_ruleLine 3 = .ok (.bipush 99, 2) := by decide +kernel
theorem d_Mod_ruleLine_5 : decode b_Mod_ruleLine 5 = .ok (.bipush 111, 2) := by decide +kernel
theorem d_Mod_ruleLine_7 : decode b_Mod_ruleLine 7 = .ok (.bipush 117, 2) := by decide +kernel
theorem d_Mod_ruleLine_9 : decode b_Mod_ruleLine 9 = .ok (.invokevirtual 118, 3) := by decide +kernel
theorem d_Mod_ruleLine_12 : decode b_Mod_ruleLine 12 = .ok (.ifCond .eq 18, 3) := by decide +kernel
theorem d_Mod_ruleLine_15 : decode b_Mod_ruleLine 15 = .ok (.aload_n 0, 1) := by decide +kernel
theorem d_Mod_ruleLine_16 : decode b_Mod_ruleLine 16 = .ok (.bipush 110, 2) := by decide +kernel
theorem d_Mod_ruleLine_18 : decode b_Mod_ruleLine 18 = .ok (.bipush 116, 2) := by decide +kernel
theorem d_Mod_ruleLine_20 : decode b_Mod_ruleLine 20 = .ok (.bipush 121, 2) := by decide +kernel
theorem d_Mod_ruleLine_22 : decode b_Mod_ruleLine 22 = .ok (.invokevirtual 122, 3) := by decide +kernel
theorem d_Mod_ruleLine_25 : decode b_Mod_ruleLine 25 = .ok (.ifCond .eq 5, 3) := by decide +kernel
theorem d_Mod_ruleLine_28 : decode b_Mod_ruleLine 28 = .ok (.iconst 0, 1) := by decide +kernel
theorem d_Mod_ruleLine_29 : decode b_Mod_ruleLine 29 = .ok (.ireturn, 1) := by decide +kernel
theorem d_Mod_ruleLine_30 : decode b_Mod_ruleLine 30 = .ok (.aload_n 0, 1) := by decide +kernel
theorem d_Mod_ruleLine_31 : decode b_Mod_ruleLine 31 = .ok (.iconst 4, 1) := by decide +kernel
theorem d_Mod_ruleLine_32 : decode b_Mod_ruleLine 32 = .ok (.bipush 99, 2) := by decide +kernel
theorem d_Mod_ruleLine_34 : decode b_Mod_ruleLine 34 = .ok (.bipush 111, 2) := by decide +kernel
theorem d_Mod_ruleLine_36 : decode b_Mod_ruleLine 36 = .ok (.bipush 115, 2) := by decide +kernel
theorem d_Mod_ruleLine_38 : decode b_Mod_ruleLine 38 = .ok (.invokevirtual 118, 3) := by decide +kernel
theorem d_Mod_ruleLine_41 : decode b_Mod_ruleLine 41 = .ok (.ifCond .eq 16, 3) := by decide +kernel
theorem d_Mod_ruleLine_44 : decode b_Mod_ruleLine 44 = .ok (.aload_n 0, 1) := by decide +kernel
theorem d_Mod_ruleLine_45 : decode b_Mod_ruleLine 45 = .ok (.bipush 116, 2) := by decide +kernel
theorem d_Mod_ruleLine_47 : decode b_Mod_ruleLine 47 = .ok (.iconst 0, 1) := by decide +kernel
theorem d_Mod_ruleLine_48 : decode b_Mod_ruleLine 48 = .ok (.iconst 0, 1) := by decide +kernel
theorem d_Mod_ruleLine_49 : decode b_Mod_ruleLine 49 = .ok (.invokevirtual 122, 3) := by decide +kernel
theorem d_Mod_ruleLine_52 : decode b_Mod_ruleLine 52 = .ok (.ifCond .eq 5, 3) := by decide +kernel
theorem d_Mod_ruleLine_55 : decode b_Mod_ruleLine 55 = .ok (.iconst 1, 1) := by decide +kernel
theorem d_Mod_ruleLine_56 : decode b_Mod_ruleLine 56 = .ok (.ireturn, 1) := by decide +kernel
theorem d_Mod_ruleLine_57 : decode b_Mod_ruleLine 57 = .ok (.aload_n 0, 1) := by decide +kernel
theorem d_Mod_ruleLine_58 : decode b_Mod_ruleLine 58 = .ok (.iconst 5, 1) := by decide +kernel
theorem d_Mod_ruleLine_59 : decode b_Mod_ruleLine 59 = .ok (.bipush 112, 2) := by decide +kernel
theorem d_Mod_ruleLine_61 : decode b_Mod_ruleLine 61 = .ok (.bipush 114, 2) := by decide +kernel
theorem d_Mod_ruleLine_63 : decode b_Mod_ruleLine 63 = .ok (.bipush 105, 2) := by decide +kernel
theorem d_Mod_ruleLine_65 : decode b_Mod_ruleLine 65 = .ok (.invokevirtual 118, 3) := by decide +kernel
theorem d_Mod_ruleLine_68 : decode b_Mod_ruleLine 68 = .ok (.ifCond .eq 19, 3) := by decide +kernel
theorem d_Mod_ruleLine_71 : decode b_Mod_ruleLine 71 = .ok (.aload_n 0, 1) := by decide +kernel
theorem d_Mod_ruleLine_72 : decode b_Mod_ruleLine 72 = .ok (.bipush 99, 2) := by decide +kernel
theorem d_Mod_ruleLine_74 : decode b_Mod_ruleLine 74 = .ok (.bipush 101, 2) := by decide +kernel
theorem d_Mod_ruleLine_76 : decode b_Mod_ruleLine 76 = .ok (.iconst 0, 1) := by decide +kernel
theorem d_Mod_ruleLine_77 : decode b_Mod_ruleLine 77 = .ok (.invokevirtual 122, 3) := by decide +kernel
theorem d_Mod_ruleLine_80 : decode b_Mod_ruleLine 80 = .ok (.ifCond .eq 7, 3) := by decide +kernel
theorem d_Mod_ruleLine_83 : decode b_Mod_ruleLine 83 = .ok (.iconst 2, 1) := by decide +kernel
theorem d_Mod_ruleLine_84 : decode b_Mod_ruleLine 84 = .ok (.goto 23, 3) := by decide +kernel
theorem d_Mod_ruleLine_87 : decode b_Mod_ruleLine 87 = .ok (.aload_n 0, 1) := by decide +kernel
theorem d_Mod_ruleLine_88 : decode b_Mod_ruleLine 88 = .ok (.iconst 3, 1) := by decide +kernel
theorem d_Mod_ruleLine_89 : decode b_Mod_ruleLine 89 = .ok (.bipush 114, 2) := by decide +kernel
theorem d_Mod_ruleLine_91 : decode b_Mod_ruleLine 91 = .ok (.bipush 111, 2) := by decide +kernel
theorem d_Mod_ruleLine_93 : decode b_Mod_ruleLine 93 = .ok (.bipush 100, 2) := by decide +kernel
theorem d_Mod_ruleLine_95 : decode b_Mod_ruleLine 95 = .ok (.invokevirtual 118, 3) := by decide +kernel
theorem d_Mod_ruleLine_98 : decode b_Mod_ruleLine 98 = .ok (.ifCond .eq 7, 3) := by decide +kernel
theorem d_Mod_ruleLine_101 : decode b_Mod_ruleLine 101 = .ok (.iconst 3, 1) := by decide +kernel
theorem d_Mod_ruleLine_102 : decode b_Mod_ruleLine 102 = .ok (.goto 5, 3) := by decide +kernel
theorem d_Mod_ruleLine_105 : decode b_Mod_ruleLine 105 = .ok (.bipush (-4), 2) := by decide +kernel
theorem d_Mod_ruleLine_107 : decode b_Mod_ruleLine 107 = .ok (.ireturn, 1) := by decide +kernel
abbrev q_Mod_ruleLine (h : Hp)  : Option Value → Hp → Prop := pInt (fun r h' => h = h' ∧ (r.toInt = -4 ∨ 0 ≤ r.toInt ∧ r.toInt ≤ 3))
set_option maxRecDepth 100000 in
theorem c_Mod_ruleLine (h : Hp) (hI : Inv h) : Ct y_Mod_ruleLine b_Mod_ruleLine 1 (some .int) 2 45 [.ref 116] h (q_Mod_ruleLine h ) := by
  refine ct_ow R_Mod [some (.ref 116)] rfl (by decide) rfl (Nat.le_of_ble_eq_true rfl) ?_
  have f0 : fr [] h h := fr_rf
  refine V_aload_n 0 d_Mod_ruleLine_0 rfl rfl ?_
  refine V_bipush 6 d_Mod_ruleLine_1 (by decide) ?_
  refine V_bipush 99 d_Mod_ruleLine_3 (by decide) ?_
  refine V_bipush 111 d_Mod_ruleLine_5 (by decide) ?_
  refine V_bipush 117 d_Mod_ruleLine_7 (by decide) ?_
  refine N_callVI [.int 6, .int 99, .int 111, .int 117] [] cv_Mod_118 sk_116 rfl d_Mod_ruleLine_9 rfl (Nat.le_of_ble_eq_true rfl) (by decide) (by decide) (c_Mod_is h hI 6 6 tc_6 99 99 tc_99 111 111 tc_111 117 117 tc_117) (fun z1 h2 z1Z z1E p3 => ?_)
  obtain ⟨eh2, p3⟩ := p3
  subst eh2
  refine V_if_eq 30 z1E d_Mod_ruleLine_12 (by decide) (fun c4 => ?_) (fun c4 => ?_)
  ·
    refine V_aload_n 0 d_Mod_ruleLine_30 rfl rfl ?_
    refine V_iconst 4 d_Mod_ruleLine_31 (by decide) ?_
    refine V_bipush 99 d_Mod_ruleLine_32 (by decide) ?_
    refine V_bipush 111 d_Mod_ruleLine_34 (by decide) ?_
    refine V_bipush 115 d_Mod_ruleLine_36 (by decide) ?_
    refine N_callVI [.int 4, .int 99, .int 111, .int 115] [] cv_Mod_118 sk_116 rfl d_Mod_ruleLine_38 rfl (Nat.le_of_ble_eq_true rfl) (by decide) (by decide) (c_Mod_is h hI 4 4 tc_4 99 99 tc_99 111 111 tc_111 115 115 tc_115) (fun z5 h6 z5Z z5E p7 => ?_)
    obtain ⟨eh6, p7⟩ := p7
    subst eh6
    refine V_if_eq 57 z5E d_Mod_ruleLine_41 (by decide) (fun c8 => ?_) (fun c8 => ?_)
    ·
      refine V_aload_n 0 d_Mod_ruleLine_57 rfl rfl ?_
      refine V_iconst 5 d_Mod_ruleLine_58 (by decide) ?_
      refine V_bipush 112 d_Mod_ruleLine_59 (by decide) ?_
      refine V_bipush 114 d_Mod_ruleLine_61 (by decide) ?_
      refine V_bipush 105 d_Mod_ruleLine_63 (by decide) ?_
      refine N_callVI [.int 5, .int 112, .int 114, .int 105] [] cv_Mod_118 sk_116 rfl d_Mod_ruleLine_65 rfl (Nat.le_of_ble_eq_true rfl) (by decide) (by decide) (c_Mod_is h hI 5 5 tc_5 112 112 tc_112 114 114 tc_114 105 105 tc_105) (fun z9 h10 z9Z z9E p11 => ?_)
      obtain ⟨eh10, p11⟩ := p11
      subst eh10
      refine V_if_eq 87 z9E d_Mod_ruleLine_68 (by decide) (fun c12 => ?_) (fun c12 => ?_)
      ·
        refine V_aload_n 0 d_Mod_ruleLine_87 rfl rfl ?_
        refine V_iconst 3 d_Mod_ruleLine_88 (by decide) ?_
        refine V_bipush 114 d_Mod_ruleLine_89 (by decide) ?_
        refine V_bipush 111 d_Mod_ruleLine_91 (by decide) ?_
        refine V_bipush 100 d_Mod_ruleLine_93 (by decide) ?_
        refine N_callVI [.int 3, .int 114, .int 111, .int 100] [] cv_Mod_118 sk_116 rfl d_Mod_ruleLine_95 rfl (Nat.le_of_ble_eq_true rfl) (by decide) (by decide) (c_Mod_is h hI 3 3 tc_3 114 114 tc_114 111 111 tc_111 100 100 tc_100) (fun z13 h14 z13Z z13E p15 => ?_)
        obtain ⟨eh14, p15⟩ := p15
        subst eh14
        refine V_if_eq 105 z13E d_Mod_ruleLine_98 (by decide) (fun c16 => ?_) (fun c16 => ?_)
        ·
          refine V_bipush (-4) d_Mod_ruleLine_105 (by decide) ?_
          exact V_iret rfl d_Mod_ruleLine_107 ⟨(-4), rfl, ⟨rfl, (by (try rw [show Int32.toInt (-4) = (-4) from rfl]); omega)⟩⟩
        ·
          refine V_iconst 3 d_Mod_ruleLine_101 (by decide) ?_
          refine V_goto 107 d_Mod_ruleLine_102 (by decide) ?_
          exact V_iret rfl d_Mod_ruleLine_107 ⟨3, rfl, ⟨rfl, (by (try rw [show Int32.toInt 3 = 3 from rfl]); omega)⟩⟩
      ·
        refine V_aload_n 0 d_Mod_ruleLine_71 rfl rfl ?_
        refine V_bipush 99 d_Mod_ruleLine_72 (by decide) ?_
        refine V_bipush 101 d_Mod_ruleLine_74 (by decide) ?_
        refine V_iconst 0 d_Mod_ruleLine_76 (by decide) ?_
        refine N_callVI [.int 99, .int 101, .int 0] [] cv_Mod_122 sk_116 rfl d_Mod_ruleLine_77 rfl (Nat.le_of_ble_eq_true rfl) (by decide) (by decide) (c_Mod_ends h hI 99 99 tc_99 101 101 tc_101 0 0 tc_0) (fun z17 h18 z17Z z17E p19 => ?_)
        obtain ⟨eh18, p19⟩ := p19
        subst eh18
        refine V_if_eq 87 z17E d_Mod_ruleLine_80 (by decide) (fun c20 => ?_) (fun c20 => ?_)
        ·
          refine V_aload_n 0 d_Mod_ruleLine_87 rfl rfl ?_
          refine V_iconst 3 d_Mod_ruleLine_88 (by decide) ?_
          refine V_bipush 114 d_Mod_ruleLine_89 (by decide) ?_
          refine V_bipush 111 d_Mod_ruleLine_91 (by decide) ?_
          refine V_bipush 100 d_Mod_ruleLine_93 (by decide) ?_
          refine N_callVI [.int 3, .int 114, .int 111, .int 100] [] cv_Mod_118 sk_116 rfl d_Mod_ruleLine_95 rfl (Nat.le_of_ble_eq_true rfl) (by decide) (by decide) (c_Mod_is h hI 3 3 tc_3 114 114 tc_114 111 111 tc_111 100 100 tc_100) (fun z21 h22 z21Z z21E p23 => ?_)
          obtain ⟨eh22, p23⟩ := p23
          subst eh22
          refine V_if_eq 105 z21E d_Mod_ruleLine_98 (by decide) (fun c24 => ?_) (fun c24 => ?_)
          ·
            refine V_bipush (-4) d_Mod_ruleLine_105 (by decide) ?_
            exact V_iret rfl d_Mod_ruleLine_107 ⟨(-4), rfl, ⟨rfl, (by (try rw [show Int32.toInt (-4) = (-4) from rfl]); omega)⟩⟩
          ·
            refine V_iconst 3 d_Mod_ruleLine_101 (by decide) ?_
            refine V_goto 107 d_Mod_ruleLine_102 (by decide) ?_
            exact V_iret rfl d_Mod_ruleLine_107 ⟨3, rfl, ⟨rfl, (by (try rw [show Int32.toInt 3 = 3 from rfl]); omega)⟩⟩
        ·
          refine V_iconst 2 d_Mod_ruleLine_83 (by decide) ?_
          refine V_goto 107 d_Mod_ruleLine_84 (by decide) ?_
          exact V_iret rfl d_Mod_ruleLine_107 ⟨2, rfl, ⟨rfl, (by (try rw [show Int32.toInt 2 = 2 from rfl]); omega)⟩⟩
    ·
      refine V_aload_n 0 d_Mod_ruleLine_44 rfl rfl ?_
      refine V_bipush 116 d_Mod_ruleLine_45 (by decide) ?_
      refine V_iconst 0 d_Mod_ruleLine_47 (by decide) ?_
      refine V_iconst 0 d_Mod_ruleLine_48 (by decide) ?_
      refine N_callVI [.int 116, .int 0, .int 0] [] cv_Mod_122 sk_116 rfl d_Mod_ruleLine_49 rfl (Nat.le_of_ble_eq_true rfl) (by decide) (by decide) (c_Mod_ends h hI 116 116 tc_116 0 0 tc_0 0 0 tc_0) (fun z25 h26 z25Z z25E p27 => ?_)
      obtain ⟨eh26, p27⟩ := p27
      subst eh26
      refine V_if_eq 57 z25E d_Mod_ruleLine_52 (by decide) (fun c28 => ?_) (fun c28 => ?_)
      ·
        refine V_aload_n 0 d_Mod_ruleLine_57 rfl rfl ?_
        refine V_iconst 5 d_Mod_ruleLine_58 (by decide) ?_
        refine V_bipush 112 d_Mod_ruleLine_59 (by decide) ?_
        refine V_bipush 114 d_Mod_ruleLine_61 (by decide) ?_
        refine V_bipush 105 d_Mod_ruleLine_63 (by decide) ?_
        refine N_callVI [.int 5, .int 112, .int 114, .int 105] [] cv_Mod_118 sk_116 rfl d_Mod_ruleLine_65 rfl (Nat.le_of_ble_eq_true rfl) (by decide) (by decide) (c_Mod_is h hI 5 5 tc_5 112 112 tc_112 114 114 tc_114 105 105 tc_105) (fun z29 h30 z29Z z29E p31 => ?_)
        obtain ⟨eh30, p31⟩ := p31
        subst eh30
        refine V_if_eq 87 z29E d_Mod_ruleLine_68 (by decide) (fun c32 => ?_) (fun c32 => ?_)
        ·
          refine V_aload_n 0 d_Mod_ruleLine_87 rfl rfl ?_
          refine V_iconst 3 d_Mod_ruleLine_88 (by decide) ?_
          refine V_bipush 114 d_Mod_ruleLine_89 (by decide) ?_
          refine V_bipush 111 d_Mod_ruleLine_91 (by decide) ?_
          refine V_bipush 100 d_Mod_ruleLine_93 (by decide) ?_
          refine N_callVI [.int 3, .int 114, .int 111, .int 100] [] cv_Mod_118 sk_116 rfl d_Mod_ruleLine_95 rfl (Nat.le_of_ble_eq_true rfl) (by decide) (by decide) (c_Mod_is h hI 3 3 tc_3 114 114 tc_114 111 111 tc_111 100 100 tc_100) (fun z33 h34 z33Z z33E p35 => ?_)
          obtain ⟨eh34, p35⟩ := p35
          subst eh34
          refine V_if_eq 105 z33E d_Mod_ruleLine_98 (by decide) (fun c36 => ?_) (fun c36 => ?_)
          ·
            refine V_bipush (-4) d_Mod_ruleLine_105 (by decide) ?_
            exact V_iret rfl d_Mod_ruleLine_107 ⟨(-4), rfl, ⟨rfl, (by (try rw [show Int32.toInt (-4) = (-4) from rfl]); omega)⟩⟩
          ·
            refine V_iconst 3 d_Mod_ruleLine_101 (by decide) ?_
            refine V_goto 107 d_Mod_ruleLine_102 (by decide) ?_
            exact V_iret rfl d_Mod_ruleLine_107 ⟨3, rfl, ⟨rfl, (by (try rw [show Int32.toInt 3 = 3 from rfl]); omega)⟩⟩
        ·
          refine V_aload_n 0 d_Mod_ruleLine_71 rfl rfl ?_
          refine V_bipush 99 d_Mod_ruleLine_72 (by decide) ?_
          refine V_bipush 101 d_Mod_ruleLine_74 (by decide) ?_
          refine V_iconst 0 d_Mod_ruleLine_76 (by decide) ?_
          refine N_callVI [.int 99, .int 101, .int 0] [] cv_Mod_122 sk_116 rfl d_Mod_ruleLine_77 rfl (Nat.le_of_ble_eq_true rfl) (by decide) (by decide) (c_Mod_ends h hI 99 99 tc_99 101 101 tc_101 0 0 tc_0) (fun z37 h38 z37Z z37E p39 => ?_)
          obtain ⟨eh38, p39⟩ := p39
          subst eh38
          refine V_if_eq 87 z37E d_Mod_ruleLine_80 (by decide) (fun c40 => ?_) (fun c40 => ?_)
          ·
            refine V_aload_n 0 d_Mod_ruleLine_87 rfl rfl ?_
            refine V_iconst 3 d_Mod_ruleLine_88 (by decide) ?_
            refine V_bipush 114 d_Mod_ruleLine_89 (by decide) ?_
            refine V_bipush 111 d_Mod_ruleLine_91 (by decide) ?_
            refine V_bipush 100 d_Mod_ruleLine_93 (by decide) ?_
            refine N_callVI [.int 3, .int 114, .int 111, .int 100] [] cv_Mod_118 sk_116 rfl d_Mod_ruleLine_95 rfl (Nat.le_of_ble_eq_true rfl) (by decide) (by decide) (c_Mod_is h hI 3 3 tc_3 114 114 tc_114 111 111 tc_111 100 100 tc_100) (fun z41 h42 z41Z z41E p43 => ?_)
            obtain ⟨eh42, p43⟩ := p43
            subst eh42
            refine V_if_eq 105 z41E d_Mod_ruleLine_98 (by decide) (fun c44 => ?_) (fun c44 => ?_)
            ·
              refine V_bipush (-4) d_Mod_ruleLine_105 (by decide) ?_
              exact V_iret rfl d_Mod_ruleLine_107 ⟨(-4), rfl, ⟨rfl, (by (try rw [show Int32.toInt (-4) = (-4) from rfl]); omega)⟩⟩
            ·
              refine V_iconst 3 d_Mod_ruleLine_101 (by decide) ?_
              refine V_goto 107 d_Mod_ruleLine_102 (by decide) ?_
              exact V_iret rfl d_Mod_ruleLine_107 ⟨3, rfl, ⟨rfl, (by (try rw [show Int32.toInt 3 = 3 from rfl]); omega)⟩⟩
          ·
            refine V_iconst 2 d_Mod_ruleLine_83 (by decide) ?_
            refine V_goto 107 d_Mod_ruleLine_84 (by decide) ?_
            exact V_iret rfl d_Mod_ruleLine_107 ⟨2, rfl, ⟨rfl, (by (try rw [show Int32.toInt 2 = 2 from rfl]); omega)⟩⟩
      ·
        refine V_iconst 1 d_Mod_ruleLine_55 (by decide) ?_
        exact V_iret rfl d_Mod_ruleLine_56 ⟨1, rfl, ⟨rfl, (by (try rw [show Int32.toInt 1 = 1 from rfl]); omega)⟩⟩
  ·
    refine V_aload_n 0 d_Mod_ruleLine_15 rfl rfl ?_
    refine V_bipush 110 d_Mod_ruleLine_16 (by decide) ?_
    refine V_bipush 116 d_Mod_ruleLine_18 (by decide) ?_
    refine V_bipush 121 d_Mod_ruleLine_20 (by decide) ?_
    refine N_callVI [.int 110, .int 116, .int 121] [] cv_Mod_122 sk_116 rfl d_Mod_ruleLine_22 rfl (Nat.le_of_ble_eq_true rfl) (by decide) (by decide) (c_Mod_ends h hI 110 110 tc_110 116 116 tc_116 121 121 tc_121) (fun z45 h46 z45Z z45E p47 => ?_)
    obtain ⟨eh46, p47⟩ := p47
    subst eh46
    refine V_if_eq 30 z45E d_Mod_ruleLine_25 (by decide) (fun c48 => ?_) (fun c48 => ?_)
    ·
      refine V_aload_n 0 d_Mod_ruleLine_30 rfl rfl ?_
      refine V_iconst 4 d_Mod_ruleLine_31 (by decide) ?_
      refine V_bipush 99 d_Mod_ruleLine_32 (by decide) ?_
      refine V_bipush 111 d_Mod_ruleLine_34 (by decide) ?_
      refine V_bipush 115 d_Mod_ruleLine_36 (by decide) ?_
      refine N_callVI [.int 4, .int 99, .int 111, .int 115] [] cv_Mod_118 sk_116 rfl d_Mod_ruleLine_38 rfl (Nat.le_of_ble_eq_true rfl) (by decide) (by decide) (c_Mod_is h hI 4 4 tc_4 99 99 tc_99 111 111 tc_111 115 115 tc_115) (fun z49 h50 z49Z z49E p51 => ?_)
      obtain ⟨eh50, p51⟩ := p51
      subst eh50
      refine V_if_eq 57 z49E d_Mod_ruleLine_41 (by decide) (fun c52 => ?_) (fun c52 => ?_)
      ·
        refine V_aload_n 0 d_Mod_ruleLine_57 rfl rfl ?_
        refine V_iconst 5 d_Mod_ruleLine_58 (by decide) ?_
        refine V_bipush 112 d_Mod_ruleLine_59 (by decide) ?_
        refine V_bipush 114 d_Mod_ruleLine_61 (by decide) ?_
        refine V_bipush 105 d_Mod_ruleLine_63 (by decide) ?_
        refine N_callVI [.int 5, .int 112, .int 114, .int 105] [] cv_Mod_118 sk_116 rfl d_Mod_ruleLine_65 rfl (Nat.le_of_ble_eq_true rfl) (by decide) (by decide) (c_Mod_is h hI 5 5 tc_5 112 112 tc_112 114 114 tc_114 105 105 tc_105) (fun z53 h54 z53Z z53E p55 => ?_)
        obtain ⟨eh54, p55⟩ := p55
        subst eh54
        refine V_if_eq 87 z53E d_Mod_ruleLine_68 (by decide) (fun c56 => ?_) (fun c56 => ?_)
        ·
          refine V_aload_n 0 d_Mod_ruleLine_87 rfl rfl ?_
          refine V_iconst 3 d_Mod_ruleLine_88 (by decide) ?_
          refine V_bipush 114 d_Mod_ruleLine_89 (by decide) ?_
          refine V_bipush 111 d_Mod_ruleLine_91 (by decide) ?_
          refine V_bipush 100 d_Mod_ruleLine_93 (by decide) ?_
          refine N_callVI [.int 3, .int 114, .int 111, .int 100] [] cv_Mod_118 sk_116 rfl d_Mod_ruleLine_95 rfl (Nat.le_of_ble_eq_true rfl) (by decide) (by decide) (c_Mod_is h hI 3 3 tc_3 114 114 tc_114 111 111 tc_111 100 100 tc_100) (fun z57 h58 z57Z z57E p59 => ?_)
          obtain ⟨eh58, p59⟩ := p59
          subst eh58
          refine V_if_eq 105 z57E d_Mod_ruleLine_98 (by decide) (fun c60 => ?_) (fun c60 => ?_)
          ·
            refine V_bipush (-4) d_Mod_ruleLine_105 (by decide) ?_
            exact V_iret rfl d_Mod_ruleLine_107 ⟨(-4), rfl, ⟨rfl, (by (try rw [show Int32.toInt (-4) = (-4) from rfl]); omega)⟩⟩
          ·
            refine V_iconst 3 d_Mod_ruleLine_101 (by decide) ?_
            refine V_goto 107 d_Mod_ruleLine_102 (by decide) ?_
            exact V_iret rfl d_Mod_ruleLine_107 ⟨3, rfl, ⟨rfl, (by (try rw [show Int32.toInt 3 = 3 from rfl]); omega)⟩⟩
        ·
          refine V_aload_n 0 d_Mod_ruleLine_71 rfl rfl ?_
          refine V_bipush 99 d_Mod_ruleLine_72 (by decide) ?_
          refine V_bipush 101 d_Mod_ruleLine_74 (by decide) ?_
          refine V_iconst 0 d_Mod_ruleLine_76 (by decide) ?_
          refine N_callVI [.int 99, .int 101, .int 0] [] cv_Mod_122 sk_116 rfl d_Mod_ruleLine_77 rfl (Nat.le_of_ble_eq_true rfl) (by decide) (by decide) (c_Mod_ends h hI 99 99 tc_99 101 101 tc_101 0 0 tc_0) (fun z61 h62 z61Z z61E p63 => ?_)
          obtain ⟨eh62, p63⟩ := p63
          subst eh62
          refine V_if_eq 87 z61E d_Mod_ruleLine_80 (by decide) (fun c64 => ?_) (fun c64 => ?_)
          ·
            refine V_aload_n 0 d_Mod_ruleLine_87 rfl rfl ?_
            refine V_iconst 3 d_Mod_ruleLine_88 (by decide) ?_
            refine V_bipush 114 d_Mod_ruleLine_89 (by decide) ?_
            refine V_bipush 111 d_Mod_ruleLine_91 (by decide) ?_
            refine V_bipush 100 d_Mod_ruleLine_93 (by decide) ?_
            refine N_callVI [.int 3, .int 114, .int 111, .int 100] [] cv_Mod_118 sk_116 rfl d_Mod_ruleLine_95 rfl (Nat.le_of_ble_eq_true rfl) (by decide) (by decide) (c_Mod_is h hI 3 3 tc_3 114 114 tc_114 111 111 tc_111 100 100 tc_100) (fun z65 h66 z65Z z65E p67 => ?_)
            obtain ⟨eh66, p67⟩ := p67
            subst eh66
            refine V_if_eq 105 z65E d_Mod_ruleLine_98 (by decide) (fun c68 => ?_) (fun c68 => ?_)
            ·
              refine V_bipush (-4) d_Mod_ruleLine_105 (by decide) ?_
              exact V_iret rfl d_Mod_ruleLine_107 ⟨(-4), rfl, ⟨rfl, (by (try rw [show Int32.toInt (-4) = (-4) from rfl]); omega)⟩⟩
            ·
              refine V_iconst 3 d_Mod_ruleLine_101 (by decide) ?_
              refine V_goto 107 d_Mod_ruleLine_102 (by decide) ?_
              exact V_iret rfl d_Mod_ruleLine_107 ⟨3, rfl, ⟨rfl, (by (try rw [show Int32.toInt 3 = 3 from rfl]); omega)⟩⟩
          ·
            refine V_iconst 2 d_Mod_ruleLine_83 (by decide) ?_
            refine V_goto 107 d_Mod_ruleLine_84 (by decide) ?_
            exact V_iret rfl d_Mod_ruleLine_107 ⟨2, rfl, ⟨rfl, (by (try rw [show Int32.toInt 2 = 2 from rfl]); omega)⟩⟩
      ·
        refine V_aload_n 0 d_Mod_ruleLine_44 rfl rfl ?_
        refine V_bipush 116 d_Mod_ruleLine_45 (by decide) ?_
        refine V_iconst 0 d_Mod_ruleLine_47 (by decide) ?_
        refine V_iconst 0 d_Mod_ruleLine_48 (by decide) ?_
        refine N_callVI [.int 116, .int 0, .int 0] [] cv_Mod_122 sk_116 rfl d_Mod_ruleLine_49 rfl (Nat.le_of_ble_eq_true rfl) (by decide) (by decide) (c_Mod_ends h hI 116 116 tc_116 0 0 tc_0 0 0 tc_0) (fun z69 h70 z69Z z69E p71 => ?_)
        obtain ⟨eh70, p71⟩ := p71
        subst eh70
        refine V_if_eq 57 z69E d_Mod_ruleLine_52 (by decide) (fun c72 => ?_) (fun c72 => ?_)
        ·
          refine V_aload_n 0 d_Mod_ruleLine_57 rfl rfl ?_
          refine V_iconst 5 d_Mod_ruleLine_58 (by decide) ?_
          refine V_bipush 112 d_Mod_ruleLine_59 (by decide) ?_
          refine V_bipush 114 d_Mod_ruleLine_61 (by decide) ?_
          refine V_bipush 105 d_Mod_ruleLine_63 (by decide) ?_
          refine N_callVI [.int 5, .int 112, .int 114, .int 105] [] cv_Mod_118 sk_116 rfl d_Mod_ruleLine_65 rfl (Nat.le_of_ble_eq_true rfl) (by decide) (by decide) (c_Mod_is h hI 5 5 tc_5 112 112 tc_112 114 114 tc_114 105 105 tc_105) (fun z73 h74 z73Z z73E p75 => ?_)
          obtain ⟨eh74, p75⟩ := p75
          subst eh74
          refine V_if_eq 87 z73E d_Mod_ruleLine_68 (by decide) (fun c76 => ?_) (fun c76 => ?_)
          ·
            refine V_aload_n 0 d_Mod_ruleLine_87 rfl rfl ?_
            refine V_iconst 3 d_Mod_ruleLine_88 (by decide) ?_
            refine V_bipush 114 d_Mod_ruleLine_89 (by decide) ?_
            refine V_bipush 111 d_Mod_ruleLine_91 (by decide) ?_
            refine V_bipush 100 d_Mod_ruleLine_93 (by decide) ?_
            refine N_callVI [.int 3, .int 114, .int 111, .int 100] [] cv_Mod_118 sk_116 rfl d_Mod_ruleLine_95 rfl (Nat.le_of_ble_eq_true rfl) (by decide) (by decide) (c_Mod_is h hI 3 3 tc_3 114 114 tc_114 111 111 tc_111 100 100 tc_100) (fun z77 h78 z77Z z77E p79 => ?_)
            obtain ⟨eh78, p79⟩ := p79
            subst eh78
            refine V_if_eq 105 z77E d_Mod_ruleLine_98 (by decide) (fun c80 => ?_) (fun c80 => ?_)
            ·
              refine V_bipush (-4) d_Mod_ruleLine_105 (by decide) ?_
              exact V_iret rfl d_Mod_ruleLine_107 ⟨(-4), rfl, ⟨rfl, (by (try rw [show Int32.toInt (-4) = (-4) from rfl]); omega)⟩⟩
            ·
              refine V_iconst 3 d_Mod_ruleLine_101 (by decide) ?_
              refine V_goto 107 d_Mod_ruleLine_102 (by decide) ?_
              exact V_iret rfl d_Mod_ruleLine_107 ⟨3, rfl, ⟨rfl, (by (try rw [show Int32.toInt 3 = 3 from rfl]); omega)⟩⟩
          ·
            refine V_aload_n 0 d_Mod_ruleLine_71 rfl rfl ?_
            refine V_bipush 99 d_Mod_ruleLine_72 (by decide) ?_
            refine V_bipush 101 d_Mod_ruleLine_74 (by decide) ?_
            refine V_iconst 0 d_Mod_ruleLine_76 (by decide) ?_
            refine N_callVI [.int 99, .int 101, .int 0] [] cv_Mod_122 sk_116 rfl d_Mod_ruleLine_77 rfl (Nat.le_of_ble_eq_true rfl) (by decide) (by decide) (c_Mod_ends h hI 99 99 tc_99 101 101 tc_101 0 0 tc_0) (fun z81 h82 z81Z z81E p83 => ?_)
            obtain ⟨eh82, p83⟩ := p83
            subst eh82
            refine V_if_eq 87 z81E d_Mod_ruleLine_80 (by decide) (fun c84 => ?_) (fun c84 => ?_)
            ·
              refine V_aload_n 0 d_Mod_ruleLine_87 rfl rfl ?_
              refine V_iconst 3 d_Mod_ruleLine_88 (by decide) ?_
              refine V_bipush 114 d_Mod_ruleLine_89 (by decide) ?_
              refine V_bipush 111 d_Mod_ruleLine_91 (by decide) ?_
              refine V_bipush 100 d_Mod_ruleLine_93 (by decide) ?_
              refine N_callVI [.int 3, .int 114, .int 111, .int 100] [] cv_Mod_118 sk_116 rfl d_Mod_ruleLine_95 rfl (Nat.le_of_ble_eq_true rfl) (by decide) (by decide) (c_Mod_is h hI 3 3 tc_3 114 114 tc_114 111 111 tc_111 100 100 tc_100) (fun z85 h86 z85Z z85E p87 => ?_)
              obtain ⟨eh86, p87⟩ := p87
              subst eh86
              refine V_if_eq 105 z85E d_Mod_ruleLine_98 (by decide) (fun c88 => ?_) (fun c88 => ?_)
              ·
                refine V_bipush (-4) d_Mod_ruleLine_105 (by decide) ?_
                exact V_iret rfl d_Mod_ruleLine_107 ⟨(-4), rfl, ⟨rfl, (by (try rw [show Int32.toInt (-4) = (-4) from rfl]); omega)⟩⟩
              ·
                refine V_iconst 3 d_Mod_ruleLine_101 (by decide) ?_
                refine V_goto 107 d_Mod_ruleLine_102 (by decide) ?_
                exact V_iret rfl d_Mod_ruleLine_107 ⟨3, rfl, ⟨rfl, (by (try rw [show Int32.toInt 3 = 3 from rfl]); omega)⟩⟩
            ·
              refine V_iconst 2 d_Mod_ruleLine_83 (by decide) ?_
              refine V_goto 107 d_Mod_ruleLine_84 (by decide) ?_
              exact V_iret rfl d_Mod_ruleLine_107 ⟨2, rfl, ⟨rfl, (by (try rw [show Int32.toInt 2 = 2 from rfl]); omega)⟩⟩
        ·
          refine V_iconst 1 d_Mod_ruleLine_55 (by decide) ?_
          exact V_iret rfl d_Mod_ruleLine_56 ⟨1, rfl, ⟨rfl, (by (try rw [show Int32.toInt 1 = 1 from rfl]); omega)⟩⟩
    ·
      refine V_iconst 0 d_Mod_ruleLine_28 (by decide) ?_
      exact V_iret rfl d_Mod_ruleLine_29 ⟨0, rfl, ⟨rfl, (by (try rw [show Int32.toInt 0 = 0 from rfl]); omega)⟩⟩
theorem d_Mod_lineNow_0 : decode b_Mod_lineNow 0 = .ok (.aload_n 0, 1) := by decide +kernel
theorem d_Mod_lineNow_1 : decode b_Mod_lineNow 1 = .ok (.iconst 3, 1) := by decide +kernel
theorem d_Mod_lineNow_2 : decode b_Mod_lineNow 2 = .ok (.bipush 119, 2) := by decide +kernel
theorem d_Mod_lineNow_4 : decode b_Mod_lineNow 4 = .ok (.bipush 101, 2) := by decide +kernel
theorem d_Mod_lineNow_6 : decode b_Mod_lineNow 6 = .ok (.bipush 116, 2) := by decide +kernel
theorem d_Mod_lineNow_8 : decode b_Mod_lineNow 8 = .ok (.invokevirtual 118, 3) := by decide +kernel
theorem d_Mod_lineNow_11 : decode b_Mod_lineNow 11 = .ok (.ifCond .eq 5, 3) := by decide +kernel
theorem d_Mod_lineNow_14 : decode b_Mod_lineNow 14 = .ok (.iconst 4, 1) := by decide +kernel
theorem d_Mod_lineNow_15 : decode b_Mod_lineNow 15 = .ok (.ireturn, 1) := by decide +kernel
theorem d_Mod_lineNow_16 : decode b_Mod_lineNow 16 = .ok (.aload_n 0, 1) := by decide +kernel
theorem d_Mod_lineNow_17 : decode b_Mod_lineNow 17 = .ok (.iconst 4, 1) := by decide +kernel
theorem d_Mod_lineNow_18 : decode b_Mod_lineNow 18 = .ok (.bipush 105, 2) := by decide +kernel
theorem d_Mod_lineNow_20 : decode b_Mod_lineNow 20 = .ok (.bipush 114, 2) := by decide +kernel
theorem d_Mod_lineNow_22 : decode b_Mod_lineNow 22 = .ok (.bipush 111, 2) := by decide +kernel
theorem d_Mod_lineNow_24 : decode b_Mod_lineNow 24 = .ok (.invokevirtual 118, 3) := by decide +kernel
theorem d_Mod_lineNow_27 : decode b_Mod_lineNow 27 = .ok (.ifCond .eq 16, 3) := by decide +kernel
theorem d_Mod_lineNow_30 : decode b_Mod_lineNow 30 = .ok (.aload_n 0, 1) := by decide +kernel
theorem d_Mod_lineNow_31 : decode b_Mod_lineNow 31 = .ok (.bipush 110, 2) := by decide +kernel
theorem d_Mod_lineNow_33 : decode b_Mod_lineNow 33 = .ok (.iconst 0, 1) := by decide +kernel
theorem d_Mod_lineNow_34 : decode b_Mod_lineNow 34 = .ok (.iconst 0, 1) := by decide +kernel
theorem d_Mod_lineNow_35 : decode b_Mod_lineNow 35 = .ok (.invokevirtual 122, 3) := by decide +kernel
theorem d_Mod_lineNow_38 : decode b_Mod_lineNow 38 = .ok (.ifCond .eq 5, 3) := by decide +kernel
theorem d_Mod_lineNow_41 : decode b_Mod_lineNow 41 = .ok (.iconst 5, 1) := by decide +kernel
theorem d_Mod_lineNow_42 : decode b_Mod_lineNow 42 = .ok (.ireturn, 1) := by decide +kernel
theorem d_Mod_lineNow_43 : decode b_Mod_lineNow 43 = .ok (.aload_n 0, 1) := by decide +kernel
theorem d_Mod_lineNow_44 : decode b_Mod_lineNow 44 = .ok (.iconst 4, 1) := by decide +kernel
theorem d_Mod_lineNow_45 : decode b_Mod_lineNow 45 = .ok (.bipush 111, 2) := by decide +kernel
theorem d_Mod_lineNow_47 : decode b_Mod_lineNow 47 = .ok (.bipush 100, 2) := by decide +kernel
theorem d_Mod_lineNow_49 : decode b_Mod_lineNow 49 = .ok (.bipush 100, 2) := by decide +kernel
theorem d_Mod_lineNow_51 : decode b_Mod_lineNow 51 = .ok (.invokevirtual 118, 3) := by decide +kernel
theorem d_Mod_lineNow_54 : decode b_Mod_lineNow 54 = .ok (.ifCond .eq 17, 3) := by decide +kernel
theorem d_Mod_lineNow_57 : decode b_Mod_lineNow 57 = .ok (.aload_n 0, 1) := by decide +kernel
theorem d_Mod_lineNow_58 : decode b_Mod_lineNow 58 = .ok (.bipush 115, 2) := by decide +kernel
theorem d_Mod_lineNow_60 : decode b_Mod_lineNow 60 = .ok (.iconst 0, 1) := by decide +kernel
theorem d_Mod_lineNow_61 : decode b_Mod_lineNow 61 = .ok (.iconst 0, 1) := by decide +kernel
theorem d_Mod_lineNow_62 : decode b_Mod_lineNow 62 = .ok (.invokevirtual 122, 3) := by decide +kernel
theorem d_Mod_lineNow_65 : decode b_Mod_lineNow 65 = .ok (.ifCond .eq 6, 3) := by decide +kernel
theorem d_Mod_lineNow_68 : decode b_Mod_lineNow 68 = .ok (.bipush 6, 2) := by decide +kernel
theorem d_Mod_lineNow_70 : decode b_Mod_lineNow 70 = .ok (.ireturn, 1) := by decide +kernel
theorem d_Mod_lineNow_71 : decode b_Mod_lineNow 71 = .ok (.aload_n 0, 1) := by decide +kernel
theorem d_Mod_lineNow_72 : decode b_Mod_lineNow 72 = .ok (.iconst 5, 1) := by decide +kernel
theorem d_Mod_lineNow_73 : decode b_Mod_lineNow 73 = .ok (.bipush 99, 2) := by decide +kernel
theorem d_Mod_lineNow_75 : decode b_Mod_lineNow 75 = .ok (.bipush 108, 2) := by decide +kernel
theorem d_Mod_lineNow_77 : decode b_Mod_lineNow 77 = .ok (.bipush 97, 2) := by decide +kernel
theorem d_Mod_lineNow_79 : decode b_Mod_lineNow 79 = .ok (.invokevirtual 118, 3) := by decide +kernel
theorem d_Mod_lineNow_82 : decode b_Mod_lineNow 82 = .ok (.ifCond .eq 18, 3) := by decide +kernel
theorem d_Mod_lineNow_85 : decode b_Mod_lineNow 85 = .ok (.aload_n 0, 1) := by decide +kernel
theorem d_Mod_lineNow_86 : decode b_Mod_lineNow 86 = .ok (.bipush 105, 2) := by decide +kernel
theorem d_Mod_lineNow_88 : decode b_Mod_lineNow 88 = .ok (.bipush 109, 2) := by decide +kernel
theorem d_Mod_lineNow_90 : decode b_Mod_lineNow 90 = .ok (.iconst 0, 1) := by decide +kernel
theorem d_Mod_lineNow_91 : decode b_Mod_lineNow 91 = .ok (.invokevirtual 122, 3) := by decide +kernel
theorem d_Mod_lineNow_94 : decode b_Mod_lineNow 94 = .ok (.ifCond .eq 6, 3) := by decide +kernel
theorem d_Mod_lineNow_97 : decode b_Mod_lineNow 97 = .ok (.bipush 7, 2) := by decide +kernel
theorem d_Mod_lineNow_99 : decode b_Mod_lineNow 99 = .ok (.ireturn, 1) := by decide +kernel
theorem d_Mod_lineNow_100 : decode b_Mod_lineNow 100 = .ok (.aload_n 0, 1) := by decide +kernel
theorem d_Mod_lineNow_101 : decode b_Mod_lineNow 101 = .ok (.iconst 5, 1) := by decide +kernel
theorem d_Mod_lineNow_102 : decode b_Mod_lineNow 102 = .ok (.bipush 112, 2) := by decide +kernel
theorem d_Mod_lineNow_104 : decode b_Mod_lineNow 104 = .ok (.bipush 117, 2) := by decide +kernel
theorem d_Mod_lineNow_106 : decode b_Mod_lineNow 106 = .ok (.bipush 114, 2) := by decide +kernel
theorem d_Mod_lineNow_108 : decode b_Mod_lineNow 108 = .ok (.invokevirtual 118, 3) := by decide +kernel
theorem d_Mod_lineNow_111 : decode b_Mod_lineNow 111 = .ok (.ifCond .eq 20, 3) := by decide +kernel
theorem d_Mod_lineNow_114 : decode b_Mod_lineNow 114 = .ok (.aload_n 0, 1) := by decide +kernel
theorem d_Mod_lineNow_115 : decode b_Mod_lineNow 115 = .ok (.bipush 115, 2) := by decide +kernel
theorem d_Mod_lineNow_117 : decode b_Mod_lineNow 117 = .ok (.bipush 101, 2) := by decide +kernel
theorem d_Mod_lineNow_119 : decode b_Mod_lineNow 119 = .ok (.iconst 0, 1) := by decide +kernel
theorem d_Mod_lineNow_120 : decode b_Mod_lineNow 120 = .ok (.invokevirtual 122, 3) := by decide +kernel
theorem d_Mod_lineNow_123 : decode b_Mod_lineNow 123 = .ok (.ifCond .eq 8, 3) := by decide +kernel
theorem d_Mod_lineNow_126 : decode b_Mod_lineNow 126 = .ok (.bipush 8, 2) := by decide +kernel
theorem d_Mod_lineNow_128 : decode b_Mod_lineNow 128 = .ok (.goto 26, 3) := by decide +kernel
theorem d_Mod_lineNow_131 : decode b_Mod_lineNow 131 = .ok (.aload_n 0, 1) := by decide +kernel
theorem d_Mod_lineNow_132 : decode b_Mod_lineNow 132 = .ok (.iconst 3, 1) := by decide +kernel
theorem d_Mod_lineNow_133 : decode b_Mod_lineNow 133 = .ok (.bipush 111, 2) := by decide +kernel
theorem d_Mod_lineNow_135 : decode b_Mod_lineNow 135 = .ok (.bipush 119, 2) := by decide +kernel
theorem d_Mod_lineNow_137 : decode b_Mod_lineNow 137 = .ok (.bipush 101, 2) := by decide +kernel
theorem d_Mod_lineNow_139 : decode b_Mod_lineNow 139 = .ok (.invokevirtual 118, 3) := by decide +kernel
theorem d_Mod_lineNow_142 : decode b_Mod_lineNow 142 = .ok (.ifCond .eq 8, 3) := by decide +kernel
theorem d_Mod_lineNow_145 : decode b_Mod_lineNow 145 = .ok (.bipush 9, 2) := by decide +kernel
theorem d_Mod_lineNow_147 : decode b_Mod_lineNow 147 = .ok (.goto 7, 3) := by decide +kernel
theorem d_Mod_lineNow_150 : decode b_Mod_lineNow 150 = .ok (.aload_n 0, 1) := by decide +kernel
theorem d_Mod_lineNow_151 : decode b_Mod_lineNow 151 = .ok (.invokevirtual 126, 3) := by decide +kernel
theorem d_Mod_lineNow_154 : decode b_Mod_lineNow 154 = .ok (.ireturn, 1) := by decide +kernel
abbrev q_Mod_lineNow (h : Hp)  : Option Value → Hp → Prop := pInt (fun r h' => h = h' ∧ (r.toInt = -4 ∨ 0 ≤ r.toInt ∧ r.toInt ≤ 9))
set_option maxRecDepth 100000 in
theorem c_Mod_lineNow (h : Hp) (hI : Inv h) : Ct y_Mod_lineNow b_Mod_lineNow 1 (some .int) 3 65 [.ref 116] h (q_Mod_lineNow h ) := by
  refine ct_ow R_Mod [some (.ref 116)] rfl (by decide) rfl (Nat.le_of_ble_eq_true rfl) ?_
  have f0 : fr [] h h := fr_rf
  refine V_aload_n 0 d_Mod_lineNow_0 rfl rfl ?_
  refine V_iconst 3 d_Mod_lineNow_1 (by decide) ?_
  refine V_bipush 119 d_Mod_lineNow_2 (by decide) ?_
  refine V_bipush 101 d_Mod_lineNow_4 (by decide) ?_
  refine V_bipush 116 d_Mod_lineNow_6 (by decide) ?_
  refine N_callVI [.int 3, .int 119, .int 101, .int 116] [] cv_Mod_118 sk_116 rfl d_Mod_lineNow_8 rfl (Nat.le_of_ble_eq_true rfl) (by decide) (by decide) (c_Mod_is h hI 3 3 tc_3 119 119 tc_119 101 101 tc_101 116 116 tc_116) (fun z1 h2 z1Z z1E p3 => ?_)
  obtain ⟨eh2, p3⟩ := p3
  subst eh2
  refine V_if_eq 16 z1E d_Mod_lineNow_11 (by decide) (fun c4 => ?_) (fun c4 => ?_)
  ·
    refine V_aload_n 0 d_Mod_lineNow_16 rfl rfl ?_
    refine V_iconst 4 d_Mod_lineNow_17 (by decide) ?_
    refine V_bipush 105 d_Mod_lineNow_18 (by decide) ?_
    refine V_bipush 114 d_Mod_lineNow_20 (by decide) ?_
    refine V_bipush 111 d_Mod_lineNow_22 (by decide) ?_
    refine N_callVI [.int 4, .int 105, .int 114, .int 111] [] cv_Mod_118 sk_116 rfl d_Mod_lineNow_24 rfl (Nat.le_of_ble_eq_true rfl) (by decide) (by decide) (c_Mod_is h hI 4 4 tc_4 105 105 tc_105 114 114 tc_114 111 111 tc_111) (fun z5 h6 z5Z z5E p7 => ?_)
    obtain ⟨eh6, p7⟩ := p7
    subst eh6
    refine V_if_eq 43 z5E d_Mod_lineNow_27 (by decide) (fun c8 => ?_) (fun c8 => ?_)
    ·
      refine V_aload_n 0 d_Mod_lineNow_43 rfl rfl ?_
      refine V_iconst 4 d_Mod_lineNow_44 (by decide) ?_
      refine V_bipush 111 d_Mod_lineNow_45 (by decide) ?_
      refine V_bipush 100 d_Mod_lineNow_47 (by decide) ?_
      refine V_bipush 100 d_Mod_lineNow_49 (by decide) ?_
      refine N_callVI [.int 4, .int 111, .int 100, .int 100] [] cv_Mod_118 sk_116 rfl d_Mod_lineNow_51 rfl (Nat.le_of_ble_eq_true rfl) (by decide) (by decide) (c_Mod_is h hI 4 4 tc_4 111 111 tc_111 100 100 tc_100 100 100 tc_100) (fun z9 h10 z9Z z9E p11 => ?_)
      obtain ⟨eh10, p11⟩ := p11
      subst eh10
      refine V_if_eq 71 z9E d_Mod_lineNow_54 (by decide) (fun c12 => ?_) (fun c12 => ?_)
      ·
        refine V_aload_n 0 d_Mod_lineNow_71 rfl rfl ?_
        refine V_iconst 5 d_Mod_lineNow_72 (by decide) ?_
        refine V_bipush 99 d_Mod_lineNow_73 (by decide) ?_
        refine V_bipush 108 d_Mod_lineNow_75 (by decide) ?_
        refine V_bipush 97 d_Mod_lineNow_77 (by decide) ?_
        refine N_callVI [.int 5, .int 99, .int 108, .int 97] [] cv_Mod_118 sk_116 rfl d_Mod_lineNow_79 rfl (Nat.le_of_ble_eq_true rfl) (by decide) (by decide) (c_Mod_is h hI 5 5 tc_5 99 99 tc_99 108 108 tc_108 97 97 tc_97) (fun z13 h14 z13Z z13E p15 => ?_)
        obtain ⟨eh14, p15⟩ := p15
        subst eh14
        refine V_if_eq 100 z13E d_Mod_lineNow_82 (by decide) (fun c16 => ?_) (fun c16 => ?_)
        ·
          refine V_aload_n 0 d_Mod_lineNow_100 rfl rfl ?_
          refine V_iconst 5 d_Mod_lineNow_101 (by decide) ?_
          refine V_bipush 112 d_Mod_lineNow_102 (by decide) ?_
          refine V_bipush 117 d_Mod_lineNow_104 (by decide) ?_
          refine V_bipush 114 d_Mod_lineNow_106 (by decide) ?_
          refine N_callVI [.int 5, .int 112, .int 117, .int 114] [] cv_Mod_118 sk_116 rfl d_Mod_lineNow_108 rfl (Nat.le_of_ble_eq_true rfl) (by decide) (by decide) (c_Mod_is h hI 5 5 tc_5 112 112 tc_112 117 117 tc_117 114 114 tc_114) (fun z17 h18 z17Z z17E p19 => ?_)
          obtain ⟨eh18, p19⟩ := p19
          subst eh18
          refine V_if_eq 131 z17E d_Mod_lineNow_111 (by decide) (fun c20 => ?_) (fun c20 => ?_)
          ·
            refine V_aload_n 0 d_Mod_lineNow_131 rfl rfl ?_
            refine V_iconst 3 d_Mod_lineNow_132 (by decide) ?_
            refine V_bipush 111 d_Mod_lineNow_133 (by decide) ?_
            refine V_bipush 119 d_Mod_lineNow_135 (by decide) ?_
            refine V_bipush 101 d_Mod_lineNow_137 (by decide) ?_
            refine N_callVI [.int 3, .int 111, .int 119, .int 101] [] cv_Mod_118 sk_116 rfl d_Mod_lineNow_139 rfl (Nat.le_of_ble_eq_true rfl) (by decide) (by decide) (c_Mod_is h hI 3 3 tc_3 111 111 tc_111 119 119 tc_119 101 101 tc_101) (fun z21 h22 z21Z z21E p23 => ?_)
            obtain ⟨eh22, p23⟩ := p23
            subst eh22
            refine V_if_eq 150 z21E d_Mod_lineNow_142 (by decide) (fun c24 => ?_) (fun c24 => ?_)
            ·
              refine V_aload_n 0 d_Mod_lineNow_150 rfl rfl ?_
              refine N_callVI [] [] cv_Mod_126 sk_116 rfl d_Mod_lineNow_151 rfl (Nat.le_of_ble_eq_true rfl) (by decide) (by decide) (c_Mod_ruleLine h hI) (fun z25 h26 z25Z z25E p27 => ?_)
              obtain ⟨eh26, p27⟩ := p27
              subst eh26
              exact V_iret rfl d_Mod_lineNow_154 ⟨z25, rfl, ⟨rfl, (by (try rw [z25E]); omega)⟩⟩
            ·
              refine V_bipush 9 d_Mod_lineNow_145 (by decide) ?_
              refine V_goto 154 d_Mod_lineNow_147 (by decide) ?_
              exact V_iret rfl d_Mod_lineNow_154 ⟨9, rfl, ⟨rfl, (by (try rw [show Int32.toInt 9 = 9 from rfl]); omega)⟩⟩
          ·
            refine V_aload_n 0 d_Mod_lineNow_114 rfl rfl ?_
            refine V_bipush 115 d_Mod_lineNow_115 (by decide) ?_
            refine V_bipush 101 d_Mod_lineNow_117 (by decide) ?_
            refine V_iconst 0 d_Mod_lineNow_119 (by decide) ?_
            refine N_callVI [.int 115, .int 101, .int 0] [] cv_Mod_122 sk_116 rfl d_Mod_lineNow_120 rfl (Nat.le_of_ble_eq_true rfl) (by decide) (by decide) (c_Mod_ends h hI 115 115 tc_115 101 101 tc_101 0 0 tc_0) (fun z28 h29 z28Z z28E p30 => ?_)
            obtain ⟨eh29, p30⟩ := p30
            subst eh29
            refine V_if_eq 131 z28E d_Mod_lineNow_123 (by decide) (fun c31 => ?_) (fun c31 => ?_)
            ·
              refine V_aload_n 0 d_Mod_lineNow_131 rfl rfl ?_
              refine V_iconst 3 d_Mod_lineNow_132 (by decide) ?_
              refine V_bipush 111 d_Mod_lineNow_133 (by decide) ?_
              refine V_bipush 119 d_Mod_lineNow_135 (by decide) ?_
              refine V_bipush 101 d_Mod_lineNow_137 (by decide) ?_
              refine N_callVI [.int 3, .int 111, .int 119, .int 101] [] cv_Mod_118 sk_116 rfl d_Mod_lineNow_139 rfl (Nat.le_of_ble_eq_true rfl) (by decide) (by decide) (c_Mod_is h hI 3 3 tc_3 111 111 tc_111 119 119 tc_119 101 101 tc_101) (fun z32 h33 z32Z z32E p34 => ?_)
              obtain ⟨eh33, p34⟩ := p34
              subst eh33
              refine V_if_eq 150 z32E d_Mod_lineNow_142 (by decide) (fun c35 => ?_) (fun c35 => ?_)
              ·
                refine V_aload_n 0 d_Mod_lineNow_150 rfl rfl ?_
                refine N_callVI [] [] cv_Mod_126 sk_116 rfl d_Mod_lineNow_151 rfl (Nat.le_of_ble_eq_true rfl) (by decide) (by decide) (c_Mod_ruleLine h hI) (fun z36 h37 z36Z z36E p38 => ?_)
                obtain ⟨eh37, p38⟩ := p38
                subst eh37
                exact V_iret rfl d_Mod_lineNow_154 ⟨z36, rfl, ⟨rfl, (by (try rw [z36E]); omega)⟩⟩
              ·
                refine V_bipush 9 d_Mod_lineNow_145 (by decide) ?_
                refine V_goto 154 d_Mod_lineNow_147 (by decide) ?_
                exact V_iret rfl d_Mod_lineNow_154 ⟨9, rfl, ⟨rfl, (by (try rw [show Int32.toInt 9 = 9 from rfl]); omega)⟩⟩
            ·
              refine V_bipush 8 d_Mod_lineNow_126 (by decide) ?_
              refine V_goto 154 d_Mod_lineNow_128 (by decide) ?_
              exact V_iret rfl d_Mod_lineNow_154 ⟨8, rfl, ⟨rfl, (by (try rw [show Int32.toInt 8 = 8 from rfl]); omega)⟩⟩
        ·
          refine V_aload_n 0 d_Mod_lineNow_85 rfl rfl ?_
          refine V_bipush 105 d_Mod_lineNow_86 (by decide) ?_
          refine V_bipush 109 d_Mod_lineNow_88 (by decide) ?_
          refine V_iconst 0 d_Mod_lineNow_90 (by decide) ?_
          refine N_callVI [.int 105, .int 109, .int 0] [] cv_Mod_122 sk_116 rfl d_Mod_lineNow_91 rfl (Nat.le_of_ble_eq_true rfl) (by decide) (by decide) (c_Mod_ends h hI 105 105 tc_105 109 109 tc_109 0 0 tc_0) (fun z39 h40 z39Z z39E p41 => ?_)
          obtain ⟨eh40, p41⟩ := p41
          subst eh40
          refine V_if_eq 100 z39E d_Mod_lineNow_94 (by decide) (fun c42 => ?_) (fun c42 => ?_)
          ·
            refine V_aload_n 0 d_Mod_lineNow_100 rfl rfl ?_
            refine V_iconst 5 d_Mod_lineNow_101 (by decide) ?_
            refine V_bipush 112 d_Mod_lineNow_102 (by decide) ?_
            refine V_bipush 117 d_Mod_lineNow_104 (by decide) ?_
            refine V_bipush 114 d_Mod_lineNow_106 (by decide) ?_
            refine N_callVI [.int 5, .int 112, .int 117, .int 114] [] cv_Mod_118 sk_116 rfl d_Mod_lineNow_108 rfl (Nat.le_of_ble_eq_true rfl) (by decide) (by decide) (c_Mod_is h hI 5 5 tc_5 112 112 tc_112 117 117 tc_117 114 114 tc_114) (fun z43 h44 z43Z z43E p45 => ?_)
            obtain ⟨eh44, p45⟩ := p45
            subst eh44
            refine V_if_eq 131 z43E d_Mod_lineNow_111 (by decide) (fun c46 => ?_) (fun c46 => ?_)
            ·
              refine V_aload_n 0 d_Mod_lineNow_131 rfl rfl ?_
              refine V_iconst 3 d_Mod_lineNow_132 (by decide) ?_
              refine V_bipush 111 d_Mod_lineNow_133 (by decide) ?_
              refine V_bipush 119 d_Mod_lineNow_135 (by decide) ?_
              refine V_bipush 101 d_Mod_lineNow_137 (by decide) ?_
              refine N_callVI [.int 3, .int 111, .int 119, .int 101] [] cv_Mod_118 sk_116 rfl d_Mod_lineNow_139 rfl (Nat.le_of_ble_eq_true rfl) (by decide) (by decide) (c_Mod_is h hI 3 3 tc_3 111 111 tc_111 119 119 tc_119 101 101 tc_101) (fun z47 h48 z47Z z47E p49 => ?_)
              obtain ⟨eh48, p49⟩ := p49
              subst eh48
              refine V_if_eq 150 z47E d_Mod_lineNow_142 (by decide) (fun c50 => ?_) (fun c50 => ?_)
              ·
                refine V_aload_n 0 d_Mod_lineNow_150 rfl rfl ?_
                refine N_callVI [] [] cv_Mod_126 sk_116 rfl d_Mod_lineNow_151 rfl (Nat.le_of_ble_eq_true rfl) (by decide) (by decide) (c_Mod_ruleLine h hI) (fun z51 h52 z51Z z51E p53 => ?_)
                obtain ⟨eh52, p53⟩ := p53
                subst eh52
                exact V_iret rfl d_Mod_lineNow_154 ⟨z51, rfl, ⟨rfl, (by (try rw [z51E]); omega)⟩⟩
              ·
                refine V_bipush 9 d_Mod_lineNow_145 (by decide) ?_
                refine V_goto 154 d_Mod_lineNow_147 (by decide) ?_
                exact V_iret rfl d_Mod_lineNow_154 ⟨9, rfl, ⟨rfl, (by (try rw [show Int32.toInt 9 = 9 from rfl]); omega)⟩⟩
            ·
              refine V_aload_n 0 d_Mod_lineNow_114 rfl rfl ?_
              refine V_bipush 115 d_Mod_lineNow_115 (by decide) ?_
              refine V_bipush 101 d_Mod_lineNow_117 (by decide) ?_
              refine V_iconst 0 d_Mod_lineNow_119 (by decide) ?_
              refine N_callVI [.int 115, .int 101, .int 0] [] cv_Mod_122 sk_116 rfl d_Mod_lineNow_120 rfl (Nat.le_of_ble_eq_true rfl) (by decide) (by decide) (c_Mod_ends h hI 115 115 tc_115 101 101 tc_101 0 0 tc_0) (fun z54 h55 z54Z z54E p56 => ?_)
              obtain ⟨eh55, p56⟩ := p56
              subst eh55
              refine V_if_eq 131 z54E d_Mod_lineNow_123 (by decide) (fun c57 => ?_) (fun c57 => ?_)
              ·
                refine V_aload_n 0 d_Mod_lineNow_131 rfl rfl ?_
                refine V_iconst 3 d_Mod_lineNow_132 (by decide) ?_
                refine V_bipush 111 d_Mod_lineNow_133 (by decide) ?_
                refine V_bipush 119 d_Mod_lineNow_135 (by decide) ?_
                refine V_bipush 101 d_Mod_lineNow_137 (by decide) ?_
                refine N_callVI [.int 3, .int 111, .int 119, .int 101] [] cv_Mod_118 sk_116 rfl d_Mod_lineNow_139 rfl (Nat.le_of_ble_eq_true rfl) (by decide) (by decide) (c_Mod_is h hI 3 3 tc_3 111 111 tc_111 119 119 tc_119 101 101 tc_101) (fun z58 h59 z58Z z58E p60 => ?_)
                obtain ⟨eh59, p60⟩ := p60
                subst eh59
                refine V_if_eq 150 z58E d_Mod_lineNow_142 (by decide) (fun c61 => ?_) (fun c61 => ?_)
                ·
                  refine V_aload_n 0 d_Mod_lineNow_150 rfl rfl ?_
                  refine N_callVI [] [] cv_Mod_126 sk_116 rfl d_Mod_lineNow_151 rfl (Nat.le_of_ble_eq_true rfl) (by decide) (by decide) (c_Mod_ruleLine h hI) (fun z62 h63 z62Z z62E p64 => ?_)
                  obtain ⟨eh63, p64⟩ := p64
                  subst eh63
                  exact V_iret rfl d_Mod_lineNow_154 ⟨z62, rfl, ⟨rfl, (by (try rw [z62E]); omega)⟩⟩
                ·
                  refine V_bipush 9 d_Mod_lineNow_145 (by decide) ?_
                  refine V_goto 154 d_Mod_lineNow_147 (by decide) ?_
                  exact V_iret rfl d_Mod_lineNow_154 ⟨9, rfl, ⟨rfl, (by (try rw [show Int32.toInt 9 = 9 from rfl]); omega)⟩⟩
              ·
                refine V_bipush 8 d_Mod_lineNow_126 (by decide) ?_
                refine V_goto 154 d_Mod_lineNow_128 (by decide) ?_
                exact V_iret rfl d_Mod_lineNow_154 ⟨8, rfl, ⟨rfl, (by (try rw [show Int32.toInt 8 = 8 from rfl]); omega)⟩⟩
          ·
            refine V_bipush 7 d_Mod_lineNow_97 (by decide) ?_
            exact V_iret rfl d_Mod_lineNow_99 ⟨7, rfl, ⟨rfl, (by (try rw [show Int32.toInt 7 = 7 from rfl]); omega)⟩⟩
      ·
        refine V_aload_n 0 d_Mod_lineNow_57 rfl rfl ?_
        refine V_bipush 115 d_Mod_lineNow_58 (by decide) ?_
        refine V_iconst 0 d_Mod_lineNow_60 (by decide) ?_
        refine V_iconst 0 d_Mod_lineNow_61 (by decide) ?_
        refine N_callVI [.int 115, .int 0, .int 0] [] cv_Mod_122 sk_116 rfl d_Mod_lineNow_62 rfl (Nat.le_of_ble_eq_true rfl) (by decide) (by decide) (c_Mod_ends h hI 115 115 tc_115 0 0 tc_0 0 0 tc_0) (fun z65 h66 z65Z z65E p67 => ?_)
        obtain ⟨eh66, p67⟩ := p67
        subst eh66
        refine V_if_eq 71 z65E d_Mod_lineNow_65 (by decide) (fun c68 => ?_) (fun c68 => ?_)
        ·
          refine V_aload_n 0 d_Mod_lineNow_71 rfl rfl ?_
          refine V_iconst 5 d_Mod_lineNow_72 (by decide) ?_
          refine V_bipush 99 d_Mod_lineNow_73 (by decide) ?_
          refine V_bipush 108 d_Mod_lineNow_75 (by decide) ?_
          refine V_bipush 97 d_Mod_lineNow_77 (by decide) ?_
          refine N_callVI [.int 5, .int 99, .int 108, .int 97] [] cv_Mod_118 sk_116 rfl d_Mod_lineNow_79 rfl (Nat.le_of_ble_eq_true rfl) (by decide) (by decide) (c_Mod_is h hI 5 5 tc_5 99 99 tc_99 108 108 tc_108 97 97 tc_97) (fun z69 h70 z69Z z69E p71 => ?_)
          obtain ⟨eh70, p71⟩ := p71
          subst eh70
          refine V_if_eq 100 z69E d_Mod_lineNow_82 (by decide) (fun c72 => ?_) (fun c72 => ?_)
          ·
            refine V_aload_n 0 d_Mod_lineNow_100 rfl rfl ?_
            refine V_iconst 5 d_Mod_lineNow_101 (by decide) ?_
            refine V_bipush 112 d_Mod_lineNow_102 (by decide) ?_
            refine V_bipush 117 d_Mod_lineNow_104 (by decide) ?_
            refine V_bipush 114 d_Mod_lineNow_106 (by decide) ?_
            refine N_callVI [.int 5, .int 112, .int 117, .int 114] [] cv_Mod_118 sk_116 rfl d_Mod_lineNow_108 rfl (Nat.le_of_ble_eq_true rfl) (by decide) (by decide) (c_Mod_is h hI 5 5 tc_5 112 112 tc_112 117 117 tc_117 114 114 tc_114) (fun z73 h74 z73Z z73E p75 => ?_)
            obtain ⟨eh74, p75⟩ := p75
            subst eh74
            refine V_if_eq 131 z73E d_Mod_lineNow_111 (by decide) (fun c76 => ?_) (fun c76 => ?_)
            ·
              refine V_aload_n 0 d_Mod_lineNow_131 rfl rfl ?_
              refine V_iconst 3 d_Mod_lineNow_132 (by decide) ?_
              refine V_bipush 111 d_Mod_lineNow_133 (by decide) ?_
              refine V_bipush 119 d_Mod_lineNow_135 (by decide) ?_
              refine V_bipush 101 d_Mod_lineNow_137 (by decide) ?_
              refine N_callVI [.int 3, .int 111, .int 119, .int 101] [] cv_Mod_118 sk_116 rfl d_Mod_lineNow_139 rfl (Nat.le_of_ble_eq_true rfl) (by decide) (by decide) (c_Mod_is h hI 3 3 tc_3 111 111 tc_111 119 119 tc_119 101 101 tc_101) (fun z77 h78 z77Z z77E p79 => ?_)
              obtain ⟨eh78, p79⟩ := p79
              subst eh78
              refine V_if_eq 150 z77E d_Mod_lineNow_142 (by decide) (fun c80 => ?_) (fun c80 => ?_)
              ·
                refine V_aload_n 0 d_Mod_lineNow_150 rfl rfl ?_
                refine N_callVI [] [] cv_Mod_126 sk_116 rfl d_Mod_lineNow_151 rfl (Nat.le_of_ble_eq_true rfl) (by decide) (by decide) (c_Mod_ruleLine h hI) (fun z81 h82 z81Z z81E p83 => ?_)
                obtain ⟨eh82, p83⟩ := p83
                subst eh82
                exact V_iret rfl d_Mod_lineNow_154 ⟨z81, rfl, ⟨rfl, (by (try rw [z81E]); omega)⟩⟩
              ·
                refine V_bipush 9 d_Mod_lineNow_145 (by decide) ?_
                refine V_goto 154 d_Mod_lineNow_147 (by decide) ?_
                exact V_iret rfl d_Mod_lineNow_154 ⟨9, rfl, ⟨rfl, (by (try rw [show Int32.toInt 9 = 9 from rfl]); omega)⟩⟩
            ·
              refine V_aload_n 0 d_Mod_lineNow_114 rfl rfl ?_
              refine V_bipush 115 d_Mod_lineNow_115 (by decide) ?_
              refine V_bipush 101 d_Mod_lineNow_117 (by decide) ?_
              refine V_iconst 0 d_Mod_lineNow_119 (by decide) ?_
              refine N_callVI [.int 115, .int 101, .int 0] [] cv_Mod_122 sk_116 rfl d_Mod_lineNow_120 rfl (Nat.le_of_ble_eq_true rfl) (by decide) (by decide) (c_Mod_ends h hI 115 115 tc_115 101 101 tc_101 0 0 tc_0) (fun z84 h85 z84Z z84E p86 => ?_)
              obtain ⟨eh85, p86⟩ := p86
              subst eh85
              refine V_if_eq 131 z84E d_Mod_lineNow_123 (by decide) (fun c87 => ?_) (fun c87 => ?_)
              ·
                refine V_aload_n 0 d_Mod_lineNow_131 rfl rfl ?_
                refine V_iconst 3 d_Mod_lineNow_132 (by decide) ?_
                refine V_bipush 111 d_Mod_lineNow_133 (by decide) ?_
                refine V_bipush 119 d_Mod_lineNow_135 (by decide) ?_
                refine V_bipush 101 d_Mod_lineNow_137 (by decide) ?_
                refine N_callVI [.int 3, .int 111, .int 119, .int 101] [] cv_Mod_118 sk_116 rfl d_Mod_lineNow_139 rfl (Nat.le_of_ble_eq_true rfl) (by decide) (by decide) (c_Mod_is h hI 3 3 tc_3 111 111 tc_111 119 119 tc_119 101 101 tc_101) (fun z88 h89 z88Z z88E p90 => ?_)
                obtain ⟨eh89, p90⟩ := p90
                subst eh89
                refine V_if_eq 150 z88E d_Mod_lineNow_142 (by decide) (fun c91 => ?_) (fun c91 => ?_)
                ·
                  refine V_aload_n 0 d_Mod_lineNow_150 rfl rfl ?_
                  refine N_callVI [] [] cv_Mod_126 sk_116 rfl d_Mod_lineNow_151 rfl (Nat.le_of_ble_eq_true rfl) (by decide) (by decide) (c_Mod_ruleLine h hI) (fun z92 h93 z92Z z92E p94 => ?_)
                  obtain ⟨eh93, p94⟩ := p94
                  subst eh93
                  exact V_iret rfl d_Mod_lineNow_154 ⟨z92, rfl, ⟨rfl, (by (try rw [z92E]); omega)⟩⟩
                ·
                  refine V_bipush 9 d_Mod_lineNow_145 (by decide) ?_
                  refine V_goto 154 d_Mod_lineNow_147 (by decide) ?_
                  exact V_iret rfl d_Mod_lineNow_154 ⟨9, rfl, ⟨rfl, (by (try rw [show Int32.toInt 9 = 9 from rfl]); omega)⟩⟩
              ·
                refine V_bipush 8 d_Mod_lineNow_126 (by decide) ?_
                refine V_goto 154 d_Mod_lineNow_128 (by decide) ?_
                exact V_iret rfl d_Mod_lineNow_154 ⟨8, rfl, ⟨rfl, (by (try rw [show Int32.toInt 8 = 8 from rfl]); omega)⟩⟩
          ·
            refine V_aload_n 0 d_Mod_lineNow_85 rfl rfl ?_
            refine V_bipush 105 d_Mod_lineNow_86 (by decide) ?_
            refine V_bipush 109 d_Mod_lineNow_88 (by decide) ?_
            refine V_iconst 0 d_Mod_lineNow_90 (by decide) ?_
            refine N_callVI [.int 105, .int 109, .int 0] [] cv_Mod_122 sk_116 rfl d_Mod_lineNow_91 rfl (Nat.le_of_ble_eq_true rfl) (by decide) (by decide) (c_Mod_ends h hI 105 105 tc_105 109 109 tc_109 0 0 tc_0) (fun z95 h96 z95Z z95E p97 => ?_)
            obtain ⟨eh96, p97⟩ := p97
            subst eh96
            refine V_if_eq 100 z95E d_Mod_lineNow_94 (by decide) (fun c98 => ?_) (fun c98 => ?_)
            ·
              refine V_aload_n 0 d_Mod_lineNow_100 rfl rfl ?_
              refine V_iconst 5 d_Mod_lineNow_101 (by decide) ?_
              refine V_bipush 112 d_Mod_lineNow_102 (by decide) ?_
              refine V_bipush 117 d_Mod_lineNow_104 (by decide) ?_
              refine V_bipush 114 d_Mod_lineNow_106 (by decide) ?_
              refine N_callVI [.int 5, .int 112, .int 117, .int 114] [] cv_Mod_118 sk_116 rfl d_Mod_lineNow_108 rfl (Nat.le_of_ble_eq_true rfl) (by decide) (by decide) (c_Mod_is h hI 5 5 tc_5 112 112 tc_112 117 117 tc_117 114 114 tc_114) (fun z99 h100 z99Z z99E p101 => ?_)
              obtain ⟨eh100, p101⟩ := p101
              subst eh100
              refine V_if_eq 131 z99E d_Mod_lineNow_111 (by decide) (fun c102 => ?_) (fun c102 => ?_)
              ·
                refine V_aload_n 0 d_Mod_lineNow_131 rfl rfl ?_
                refine V_iconst 3 d_Mod_lineNow_132 (by decide) ?_
                refine V_bipush 111 d_Mod_lineNow_133 (by decide) ?_
                refine V_bipush 119 d_Mod_lineNow_135 (by decide) ?_
                refine V_bipush 101 d_Mod_lineNow_137 (by decide) ?_
                refine N_callVI [.int 3, .int 111, .int 119, .int 101] [] cv_Mod_118 sk_116 rfl d_Mod_lineNow_139 rfl (Nat.le_of_ble_eq_true rfl) (by decide) (by decide) (c_Mod_is h hI 3 3 tc_3 111 111 tc_111 119 119 tc_119 101 101 tc_101) (fun z103 h104 z103Z z103E p105 => ?_)
                obtain ⟨eh104, p105⟩ := p105
                subst eh104
                refine V_if_eq 150 z103E d_Mod_lineNow_142 (by decide) (fun c106 => ?_) (fun c106 => ?_)
                ·
                  refine V_aload_n 0 d_Mod_lineNow_150 rfl rfl ?_
                  refine N_callVI [] [] cv_Mod_126 sk_116 rfl d_Mod_lineNow_151 rfl (Nat.le_of_ble_eq_true rfl) (by decide) (by decide) (c_Mod_ruleLine h hI) (fun z107 h108 z107Z z107E p109 => ?_)
                  obtain ⟨eh108, p109⟩ := p109
                  subst eh108
                  exact V_iret rfl d_Mod_lineNow_154 ⟨z107, rfl, ⟨rfl, (by (try rw [z107E]); omega)⟩⟩
                ·
                  refine V_bipush 9 d_Mod_lineNow_145 (by decide) ?_
                  refine V_goto 154 d_Mod_lineNow_147 (by decide) ?_
                  exact V_iret rfl d_Mod_lineNow_154 ⟨9, rfl, ⟨rfl, (by (try rw [show Int32.toInt 9 = 9 from rfl]); omega)⟩⟩
              ·
                refine V_aload_n 0 d_Mod_lineNow_114 rfl rfl ?_
                refine V_bipush 115 d_Mod_lineNow_115 (by decide) ?_
                refine V_bipush 101 d_Mod_lineNow_117 (by decide) ?_
                refine V_iconst 0 d_Mod_lineNow_119 (by decide) ?_
                refine N_callVI [.int 115, .int 101, .int 0] [] cv_Mod_122 sk_116 rfl d_Mod_lineNow_120 rfl (Nat.le_of_ble_eq_true rfl) (by decide) (by decide) (c_Mod_ends h hI 115 115 tc_115 101 101 tc_101 0 0 tc_0) (fun z110 h111 z110Z z110E p112 => ?_)
                obtain ⟨eh111, p112⟩ := p112
                subst eh111
                refine V_if_eq 131 z110E d_Mod_lineNow_123 (by decide) (fun c113 => ?_) (fun c113 => ?_)
                ·
                  refine V_aload_n 0 d_Mod_lineNow_131 rfl rfl ?_
                  refine V_iconst 3 d_Mod_lineNow_132 (by decide) ?_
                  refine V_bipush 111 d_Mod_lineNow_133 (by decide) ?_
                  refine V_bipush 119 d_Mod_lineNow_135 (by decide) ?_
                  refine V_bipush 101 d_Mod_lineNow_137 (by decide) ?_
                  refine N_callVI [.int 3, .int 111, .int 119, .int 101] [] cv_Mod_118 sk_116 rfl d_Mod_lineNow_139 rfl (Nat.le_of_ble_eq_true rfl) (by decide) (by decide) (c_Mod_is h hI 3 3 tc_3 111 111 tc_111 119 119 tc_119 101 101 tc_101) (fun z114 h115 z114Z z114E p116 => ?_)
                  obtain ⟨eh115, p116⟩ := p116
                  subst eh115
                  refine V_if_eq 150 z114E d_Mod_lineNow_142 (by decide) (fun c117 => ?_) (fun c117 => ?_)
                  ·
                    refine V_aload_n 0 d_Mod_lineNow_150 rfl rfl ?_
                    refine N_callVI [] [] cv_Mod_126 sk_116 rfl d_Mod_lineNow_151 rfl (Nat.le_of_ble_eq_true rfl) (by decide) (by decide) (c_Mod_ruleLine h hI) (fun z118 h119 z118Z z118E p120 => ?_)
                    obtain ⟨eh119, p120⟩ := p120
                    subst eh119
                    exact V_iret rfl d_Mod_lineNow_154 ⟨z118, rfl, ⟨rfl, (by (try rw [z118E]); omega)⟩⟩
                  ·
                    refine V_bipush 9 d_Mod_lineNow_145 (by decide) ?_
                    refine V_goto 154 d_Mod_lineNow_147 (by decide) ?_
                    exact V_iret rfl d_Mod_lineNow_154 ⟨9, rfl, ⟨rfl, (by (try rw [show Int32.toInt 9 = 9 from rfl]); omega)⟩⟩
                ·
                  refine V_bipush 8 d_Mod_lineNow_126 (by decide) ?_
                  refine V_goto 154 d_Mod_lineNow_128 (by decide) ?_
                  exact V_iret rfl d_Mod_lineNow_154 ⟨8, rfl, ⟨rfl, (by (try rw [show Int32.toInt 8 = 8 from rfl]); omega)⟩⟩
            ·
              refine V_bipush 7 d_Mod_lineNow_97 (by decide) ?_
              exact V_iret rfl d_Mod_lineNow_99 ⟨7, rfl, ⟨rfl, (by (try rw [show Int32.toInt 7 = 7 from rfl]); omega)⟩⟩
        ·
          refine V_bipush 6 d_Mod_lineNow_68 (by decide) ?_
          exact V_iret rfl d_Mod_lineNow_70 ⟨6, rfl, ⟨rfl, (by (try rw [show Int32.toInt 6 = 6 from rfl]); omega)⟩⟩
    ·
      refine V_aload_n 0 d_Mod_lineNow_30 rfl rfl ?_
      refine V_bipush 110 d_Mod_lineNow_31 (by decide) ?_
      refine V_iconst 0 d_Mod_lineNow_33 (by decide) ?_
      refine V_iconst 0 d_Mod_lineNow_34 (by decide) ?_
      refine N_callVI [.int 110, .int 0, .int 0] [] cv_Mod_122 sk_116 rfl d_Mod_lineNow_35 rfl (Nat.le_of_ble_eq_true rfl) (by decide) (by decide) (c_Mod_ends h hI 110 110 tc_110 0 0 tc_0 0 0 tc_0) (fun z121 h122 z121Z z121E p123 => ?_)
      obtain ⟨eh122, p123⟩ := p123
      subst eh122
      refine V_if_eq 43 z121E d_Mod_lineNow_38 (by decide) (fun c124 => ?_) (fun c124 => ?_)
      ·
        refine V_aload_n 0 d_Mod_lineNow_43 rfl rfl ?_
        refine V_iconst 4 d_Mod_lineNow_44 (by decide) ?_
        refine V_bipush 111 d_Mod_lineNow_45 (by decide) ?_
        refine V_bipush 100 d_Mod_lineNow_47 (by decide) ?_
        refine V_bipush 100 d_Mod_lineNow_49 (by decide) ?_
        refine N_callVI [.int 4, .int 111, .int 100, .int 100] [] cv_Mod_118 sk_116 rfl d_Mod_lineNow_51 rfl (Nat.le_of_ble_eq_true rfl) (by decide) (by decide) (c_Mod_is h hI 4 4 tc_4 111 111 tc_111 100 100 tc_100 100 100 tc_100) (fun z125 h126 z125Z z125E p127 => ?_)
        obtain ⟨eh126, p127⟩ := p127
        subst eh126
        refine V_if_eq 71 z125E d_Mod_lineNow_54 (by decide) (fun c128 => ?_) (fun c128 => ?_)
        ·
          refine V_aload_n 0 d_Mod_lineNow_71 rfl rfl ?_
          refine V_iconst 5 d_Mod_lineNow_72 (by decide) ?_
          refine V_bipush 99 d_Mod_lineNow_73 (by decide) ?_
          refine V_bipush 108 d_Mod_lineNow_75 (by decide) ?_
          refine V_bipush 97 d_Mod_lineNow_77 (by decide) ?_
          refine N_callVI [.int 5, .int 99, .int 108, .int 97] [] cv_Mod_118 sk_116 rfl d_Mod_lineNow_79 rfl (Nat.le_of_ble_eq_true rfl) (by decide) (by decide) (c_Mod_is h hI 5 5 tc_5 99 99 tc_99 108 108 tc_108 97 97 tc_97) (fun z129 h130 z129Z z129E p131 => ?_)
          obtain ⟨eh130, p131⟩ := p131
          subst eh130
          refine V_if_eq 100 z129E d_Mod_lineNow_82 (by decide) (fun c132 => ?_) (fun c132 => ?_)
          ·
            refine V_aload_n 0 d_Mod_lineNow_100 rfl rfl ?_
            refine V_iconst 5 d_Mod_lineNow_101 (by decide) ?_
            refine V_bipush 112 d_Mod_lineNow_102 (by decide) ?_
            refine V_bipush 117 d_Mod_lineNow_104 (by decide) ?_
            refine V_bipush 114 d_Mod_lineNow_106 (by decide) ?_
            refine N_callVI [.int 5, .int 112, .int 117, .int 114] [] cv_Mod_118 sk_116 rfl d_Mod_lineNow_108 rfl (Nat.le_of_ble_eq_true rfl) (by decide) (by decide) (c_Mod_is h hI 5 5 tc_5 112 112 tc_112 117 117 tc_117 114 114 tc_114) (fun z133 h134 z133Z z133E p135 => ?_)
            obtain ⟨eh134, p135⟩ := p135
            subst eh134
            refine V_if_eq 131 z133E d_Mod_lineNow_111 (by decide) (fun c136 => ?_) (fun c136 => ?_)
            ·
              refine V_aload_n 0 d_Mod_lineNow_131 rfl rfl ?_
              refine V_iconst 3 d_Mod_lineNow_132 (by decide) ?_
              refine V_bipush 111 d_Mod_lineNow_133 (by decide) ?_
              refine V_bipush 119 d_Mod_lineNow_135 (by decide) ?_
              refine V_bipush 101 d_Mod_lineNow_137 (by decide) ?_
              refine N_callVI [.int 3, .int 111, .int 119, .int 101] [] cv_Mod_118 sk_116 rfl d_Mod_lineNow_139 rfl (Nat.le_of_ble_eq_true rfl) (by decide) (by decide) (c_Mod_is h hI 3 3 tc_3 111 111 tc_111 119 119 tc_119 101 101 tc_101) (fun z137 h138 z137Z z137E p139 => ?_)
              obtain ⟨eh138, p139⟩ := p139
              subst eh138
              refine V_if_eq 150 z137E d_Mod_lineNow_142 (by decide) (fun c140 => ?_) (fun c140 => ?_)
              ·
                refine V_aload_n 0 d_Mod_lineNow_150 rfl rfl ?_
                refine N_callVI [] [] cv_Mod_126 sk_116 rfl d_Mod_lineNow_151 rfl (Nat.le_of_ble_eq_true rfl) (by decide) (by decide) (c_Mod_ruleLine h hI) (fun z141 h142 z141Z z141E p143 => ?_)
                obtain ⟨eh142, p143⟩ := p143
                subst eh142
                exact V_iret rfl d_Mod_lineNow_154 ⟨z141, rfl, ⟨rfl, (by (try rw [z141E]); omega)⟩⟩
              ·
                refine V_bipush 9 d_Mod_lineNow_145 (by decide) ?_
                refine V_goto 154 d_Mod_lineNow_147 (by decide) ?_
                exact V_iret rfl d_Mod_lineNow_154 ⟨9, rfl, ⟨rfl, (by (try rw [show Int32.toInt 9 = 9 from rfl]); omega)⟩⟩
            ·
              refine V_aload_n 0 d_Mod_lineNow_114 rfl rfl ?_
              refine V_bipush 115 d_Mod_lineNow_115 (by decide) ?_
              refine V_bipush 101 d_Mod_lineNow_117 (by decide) ?_
              refine V_iconst 0 d_Mod_lineNow_119 (by decide) ?_
              refine N_callVI [.int 115, .int 101, .int 0] [] cv_Mod_122 sk_116 rfl d_Mod_lineNow_120 rfl (Nat.le_of_ble_eq_true rfl) (by decide) (by decide) (c_Mod_ends h hI 115 115 tc_115 101 101 tc_101 0 0 tc_0) (fun z144 h145 z144Z z144E p146 => ?_)
              obtain ⟨eh145, p146⟩ := p146
              subst eh145
              refine V_if_eq 131 z144E d_Mod_lineNow_123 (by decide) (fun c147 => ?_) (fun c147 => ?_)
              ·
                refine V_aload_n 0 d_Mod_lineNow_131 rfl rfl ?_
                refine V_iconst 3 d_Mod_lineNow_132 (by decide) ?_
                refine V_bipush 111 d_Mod_lineNow_133 (by decide) ?_
                refine V_bipush 119 d_Mod_lineNow_135 (by decide) ?_
                refine V_bipush 101 d_Mod_lineNow_137 (by decide) ?_
                refine N_callVI [.int 3, .int 111, .int 119, .int 101] [] cv_Mod_118 sk_116 rfl d_Mod_lineNow_139 rfl (Nat.le_of_ble_eq_true rfl) (by decide) (by decide) (c_Mod_is h hI 3 3 tc_3 111 111 tc_111 119 119 tc_119 101 101 tc_101) (fun z148 h149 z148Z z148E p150 => ?_)
                obtain ⟨eh149, p150⟩ := p150
                subst eh149
                refine V_if_eq 150 z148E d_Mod_lineNow_142 (by decide) (fun c151 => ?_) (fun c151 => ?_)
                ·
                  refine V_aload_n 0 d_Mod_lineNow_150 rfl rfl ?_
                  refine N_callVI [] [] cv_Mod_126 sk_116 rfl d_Mod_lineNow_151 rfl (Nat.le_of_ble_eq_true rfl) (by decide) (by decide) (c_Mod_ruleLine h hI) (fun z152 h153 z152Z z152E p154 => ?_)
                  obtain ⟨eh153, p154⟩ := p154
                  subst eh153
                  exact V_iret rfl d_Mod_lineNow_154 ⟨z152, rfl, ⟨rfl, (by (try rw [z152E]); omega)⟩⟩
                ·
                  refine V_bipush 9 d_Mod_lineNow_145 (by decide) ?_
                  refine V_goto 154 d_Mod_lineNow_147 (by decide) ?_
                  exact V_iret rfl d_Mod_lineNow_154 ⟨9, rfl, ⟨rfl, (by (try rw [show Int32.toInt 9 = 9 from rfl]); omega)⟩⟩
              ·
                refine V_bipush 8 d_Mod_lineNow_126 (by decide) ?_
                refine V_goto 154 d_Mod_lineNow_128 (by decide) ?_
                exact V_iret rfl d_Mod_lineNow_154 ⟨8, rfl, ⟨rfl, (by (try rw [show Int32.toInt 8 = 8 from rfl]); omega)⟩⟩
          ·
            refine V_aload_n 0 d_Mod_lineNow_85 rfl rfl ?_
            refine V_bipush 105 d_Mod_lineNow_86 (by decide) ?_
            refine V_bipush 109 d_Mod_lineNow_88 (by decide) ?_
            refine V_iconst 0 d_Mod_lineNow_90 (by decide) ?_
            refine N_callVI [.int 105, .int 109, .int 0] [] cv_Mod_122 sk_116 rfl d_Mod_lineNow_91 rfl (Nat.le_of_ble_eq_true rfl) (by decide) (by decide) (c_Mod_ends h hI 105 105 tc_105 109 109 tc_109 0 0 tc_0) (fun z155 h156 z155Z z155E p157 => ?_)
            obtain ⟨eh156, p157⟩ := p157
            subst eh156
            refine V_if_eq 100 z155E d_Mod_lineNow_94 (by decide) (fun c158 => ?_) (fun c158 => ?_)
            ·
              refine V_aload_n 0 d_Mod_lineNow_100 rfl rfl ?_
              refine V_iconst 5 d_Mod_lineNow_101 (by decide) ?_
              refine V_bipush 112 d_Mod_lineNow_102 (by decide) ?_
              refine V_bipush 117 d_Mod_lineNow_104 (by decide) ?_
              refine V_bipush 114 d_Mod_lineNow_106 (by decide) ?_
              refine N_callVI [.int 5, .int 112, .int 117, .int 114] [] cv_Mod_118 sk_116 rfl d_Mod_lineNow_108 rfl (Nat.le_of_ble_eq_true rfl) (by decide) (by decide) (c_Mod_is h hI 5 5 tc_5 112 112 tc_112 117 117 tc_117 114 114 tc_114) (fun z159 h160 z159Z z159E p161 => ?_)
              obtain ⟨eh160, p161⟩ := p161
              subst eh160
              refine V_if_eq 131 z159E d_Mod_lineNow_111 (by decide) (fun c162 => ?_) (fun c162 => ?_)
              ·
                refine V_aload_n 0 d_Mod_lineNow_131 rfl rfl ?_
                refine V_iconst 3 d_Mod_lineNow_132 (by decide) ?_
                refine V_bipush 111 d_Mod_lineNow_133 (by decide) ?_
                refine V_bipush 119 d_Mod_lineNow_135 (by decide) ?_
                refine V_bipush 101 d_Mod_lineNow_137 (by decide) ?_
                refine N_callVI [.int 3, .int 111, .int 119, .int 101] [] cv_Mod_118 sk_116 rfl d_Mod_lineNow_139 rfl (Nat.le_of_ble_eq_true rfl) (by decide) (by decide) (c_Mod_is h hI 3 3 tc_3 111 111 tc_111 119 119 tc_119 101 101 tc_101) (fun z163 h164 z163Z z163E p165 => ?_)
                obtain ⟨eh164, p165⟩ := p165
                subst eh164
                refine V_if_eq 150 z163E d_Mod_lineNow_142 (by decide) (fun c166 => ?_) (fun c166 => ?_)
                ·
                  refine V_aload_n 0 d_Mod_lineNow_150 rfl rfl ?_
                  refine N_callVI [] [] cv_Mod_126 sk_116 rfl d_Mod_lineNow_151 rfl (Nat.le_of_ble_eq_true rfl) (by decide) (by decide) (c_Mod_ruleLine h hI) (fun z167 h168 z167Z z167E p169 => ?_)
                  obtain ⟨eh168, p169⟩ := p169
                  subst eh168
                  exact V_iret rfl d_Mod_lineNow_154 ⟨z167, rfl, ⟨rfl, (by (try rw [z167E]); omega)⟩⟩
                ·
                  refine V_bipush 9 d_Mod_lineNow_145 (by decide) ?_
                  refine V_goto 154 d_Mod_lineNow_147 (by decide) ?_
                  exact V_iret rfl d_Mod_lineNow_154 ⟨9, rfl, ⟨rfl, (by (try rw [show Int32.toInt 9 = 9 from rfl]); omega)⟩⟩
              ·
                refine V_aload_n 0 d_Mod_lineNow_114 rfl rfl ?_
                refine V_bipush 115 d_Mod_lineNow_115 (by decide) ?_
                refine V_bipush 101 d_Mod_lineNow_117 (by decide) ?_
                refine V_iconst 0 d_Mod_lineNow_119 (by decide) ?_
                refine N_callVI [.int 115, .int 101, .int 0] [] cv_Mod_122 sk_116 rfl d_Mod_lineNow_120 rfl (Nat.le_of_ble_eq_true rfl) (by decide) (by decide) (c_Mod_ends h hI 115 115 tc_115 101 101 tc_101 0 0 tc_0) (fun z170 h171 z170Z z170E p172 => ?_)
                obtain ⟨eh171, p172⟩ := p172
                subst eh171
                refine V_if_eq 131 z170E d_Mod_lineNow_123 (by decide) (fun c173 => ?_) (fun c173 => ?_)
                ·
                  refine V_aload_n 0 d_Mod_lineNow_131 rfl rfl ?_
                  refine V_iconst 3 d_Mod_lineNow_132 (by decide) ?_
                  refine V_bipush 111 d_Mod_lineNow_133 (by decide) ?_
                  refine V_bipush 119 d_Mod_lineNow_135 (by decide) ?_
                  refine V_bipush 101 d_Mod_lineNow_137 (by decide) ?_
                  refine N_callVI [.int 3, .int 111, .int 119, .int 101] [] cv_Mod_118 sk_116 rfl d_Mod_lineNow_139 rfl (Nat.le_of_ble_eq_true rfl) (by decide) (by decide) (c_Mod_is h hI 3 3 tc_3 111 111 tc_111 119 119 tc_119 101 101 tc_101) (fun z174 h175 z174Z z174E p176 => ?_)
                  obtain ⟨eh175, p176⟩ := p176
                  subst eh175
                  refine V_if_eq 150 z174E d_Mod_lineNow_142 (by decide) (fun c177 => ?_) (fun c177 => ?_)
                  ·
                    refine V_aload_n 0 d_Mod_lineNow_150 rfl rfl ?_
                    refine N_callVI [] [] cv_Mod_126 sk_116 rfl d_Mod_lineNow_151 rfl (Nat.le_of_ble_eq_true rfl) (by decide) (by decide) (c_Mod_ruleLine h hI) (fun z178 h179 z178Z z178E p180 => ?_)
                    obtain ⟨eh179, p180⟩ := p180
                    subst eh179
                    exact V_iret rfl d_Mod_lineNow_154 ⟨z178, rfl, ⟨rfl, (by (try rw [z178E]); omega)⟩⟩
                  ·
                    refine V_bipush 9 d_Mod_lineNow_145 (by decide) ?_
                    refine V_goto 154 d_Mod_lineNow_147 (by decide) ?_
                    exact V_iret rfl d_Mod_lineNow_154 ⟨9, rfl, ⟨rfl, (by (try rw [show Int32.toInt 9 = 9 from rfl]); omega)⟩⟩
                ·
                  refine V_bipush 8 d_Mod_lineNow_126 (by decide) ?_
                  refine V_goto 154 d_Mod_lineNow_128 (by decide) ?_
                  exact V_iret rfl d_Mod_lineNow_154 ⟨8, rfl, ⟨rfl, (by (try rw [show Int32.toInt 8 = 8 from rfl]); omega)⟩⟩
            ·
              refine V_bipush 7 d_Mod_lineNow_97 (by decide) ?_
              exact V_iret rfl d_Mod_lineNow_99 ⟨7, rfl, ⟨rfl, (by (try rw [show Int32.toInt 7 = 7 from rfl]); omega)⟩⟩
        ·
          refine V_aload_n 0 d_Mod_lineNow_57 rfl rfl ?_
          refine V_bipush 115 d_Mod_lineNow_58 (by decide) ?_
          refine V_iconst 0 d_Mod_lineNow_60 (by decide) ?_
          refine V_iconst 0 d_Mod_lineNow_61 (by decide) ?_
          refine N_callVI [.int 115, .int 0, .int 0] [] cv_Mod_122 sk_116 rfl d_Mod_lineNow_62 rfl (Nat.le_of_ble_eq_true rfl) (by decide) (by decide) (c_Mod_ends h hI 115 115 tc_115 0 0 tc_0 0 0 tc_0) (fun z181 h182 z181Z z181E p183 => ?_)
          obtain ⟨eh182, p183⟩ := p183
          subst eh182
          refine V_if_eq 71 z181E d_Mod_lineNow_65 (by decide) (fun c184 => ?_) (fun c184 => ?_)
          ·
            refine V_aload_n 0 d_Mod_lineNow_71 rfl rfl ?_
            refine V_iconst 5 d_Mod_lineNow_72 (by decide) ?_
            refine V_bipush 99 d_Mod_lineNow_73 (by decide) ?_
            refine V_bipush 108 d_Mod_lineNow_75 (by decide) ?_
            refine V_bipush 97 d_Mod_lineNow_77 (by decide) ?_
            refine N_callVI [.int 5, .int 99, .int 108, .int 97] [] cv_Mod_118 sk_116 rfl d_Mod_lineNow_79 rfl (Nat.le_of_ble_eq_true rfl) (by decide) (by decide) (c_Mod_is h hI 5 5 tc_5 99 99 tc_99 108 108 tc_108 97 97 tc_97) (fun z185 h186 z185Z z185E p187 => ?_)
            obtain ⟨eh186, p187⟩ := p187
            subst eh186
            refine V_if_eq 100 z185E d_Mod_lineNow_82 (by decide) (fun c188 => ?_) (fun c188 => ?_)
            ·
              refine V_aload_n 0 d_Mod_lineNow_100 rfl rfl ?_
              refine V_iconst 5 d_Mod_lineNow_101 (by decide) ?_
              refine V_bipush 112 d_Mod_lineNow_102 (by decide) ?_
              refine V_bipush 117 d_Mod_lineNow_104 (by decide) ?_
              refine V_bipush 114 d_Mod_lineNow_106 (by decide) ?_
              refine N_callVI [.int 5, .int 112, .int 117, .int 114] [] cv_Mod_118 sk_116 rfl d_Mod_lineNow_108 rfl (Nat.le_of_ble_eq_true rfl) (by decide) (by decide) (c_Mod_is h hI 5 5 tc_5 112 112 tc_112 117 117 tc_117 114 114 tc_114) (fun z189 h190 z189Z z189E p191 => ?_)
              obtain ⟨eh190, p191⟩ := p191
              subst eh190
              refine V_if_eq 131 z189E d_Mod_lineNow_111 (by decide) (fun c192 => ?_) (fun c192 => ?_)
              ·
                refine V_aload_n 0 d_Mod_lineNow_131 rfl rfl ?_
                refine V_iconst 3 d_Mod_lineNow_132 (by decide) ?_
                refine V_bipush 111 d_Mod_lineNow_133 (by decide) ?_
                refine V_bipush 119 d_Mod_lineNow_135 (by decide) ?_
                refine V_bipush 101 d_Mod_lineNow_137 (by decide) ?_
                refine N_callVI [.int 3, .int 111, .int 119, .int 101] [] cv_Mod_118 sk_116 rfl d_Mod_lineNow_139 rfl (Nat.le_of_ble_eq_true rfl) (by decide) (by decide) (c_Mod_is h hI 3 3 tc_3 111 111 tc_111 119 119 tc_119 101 101 tc_101) (fun z193 h194 z193Z z193E p195 => ?_)
                obtain ⟨eh194, p195⟩ := p195
                subst eh194
                refine V_if_eq 150 z193E d_Mod_lineNow_142 (by decide) (fun c196 => ?_) (fun c196 => ?_)
                ·
                  refine V_aload_n 0 d_Mod_lineNow_150 rfl rfl ?_
                  refine N_callVI [] [] cv_Mod_126 sk_116 rfl d_Mod_lineNow_151 rfl (Nat.le_of_ble_eq_true rfl) (by decide) (by decide) (c_Mod_ruleLine h hI) (fun z197 h198 z197Z z197E p199 => ?_)
                  obtain ⟨eh198, p199⟩ := p199
                  subst eh198
                  exact V_iret rfl d_Mod_lineNow_154 ⟨z197, rfl, ⟨rfl, (by (try rw [z197E]); omega)⟩⟩
                ·
                  refine V_bipush 9 d_Mod_lineNow_145 (by decide) ?_
                  refine V_goto 154 d_Mod_lineNow_147 (by decide) ?_
                  exact V_iret rfl d_Mod_lineNow_154 ⟨9, rfl, ⟨rfl, (by (try rw [show Int32.toInt 9 = 9 from rfl]); omega)⟩⟩
              ·
                refine V_aload_n 0 d_Mod_lineNow_114 rfl rfl ?_
                refine V_bipush 115 d_Mod_lineNow_115 (by decide) ?_
                refine V_bipush 101 d_Mod_lineNow_117 (by decide) ?_
                refine V_iconst 0 d_Mod_lineNow_119 (by decide) ?_
                refine N_callVI [.int 115, .int 101, .int 0] [] cv_Mod_122 sk_116 rfl d_Mod_lineNow_120 rfl (Nat.le_of_ble_eq_true rfl) (by decide) (by decide) (c_Mod_ends h hI 115 115 tc_115 101 101 tc_101 0 0 tc_0) (fun z200 h201 z200Z z200E p202 => ?_)
                obtain ⟨eh201, p202⟩ := p202
                subst eh201
                refine V_if_eq 131 z200E d_Mod_lineNow_123 (by decide) (fun c203 => ?_) (fun c203 => ?_)
                ·
                  refine V_aload_n 0 d_Mod_lineNow_131 rfl rfl ?_
                  refine V_iconst 3 d_Mod_lineNow_132 (by decide) ?_
                  refine V_bipush 111 d_Mod_lineNow_133 (by decide) ?_
                  refine V_bipush 119 d_Mod_lineNow_135 (by decide) ?_
                  refine V_bipush 101 d_Mod_lineNow_137 (by decide) ?_
                  refine N_callVI [.int 3, .int 111, .int 119, .int 101] [] cv_Mod_118 sk_116 rfl d_Mod_lineNow_139 rfl (Nat.le_of_ble_eq_true rfl) (by decide) (by decide) (c_Mod_is h hI 3 3 tc_3 111 111 tc_111 119 119 tc_119 101 101 tc_101) (fun z204 h205 z204Z z204E p206 => ?_)
                  obtain ⟨eh205, p206⟩ := p206
                  subst eh205
                  refine V_if_eq 150 z204E d_Mod_lineNow_142 (by decide) (fun c207 => ?_) (fun c207 => ?_)
                  ·
                    refine V_aload_n 0 d_Mod_lineNow_150 rfl rfl ?_
                    refine N_callVI [] [] cv_Mod_126 sk_116 rfl d_Mod_lineNow_151 rfl (Nat.le_of_ble_eq_true rfl) (by decide) (by decide) (c_Mod_ruleLine h hI) (fun z208 h209 z208Z z208E p210 => ?_)
                    obtain ⟨eh209, p210⟩ := p210
                    subst eh209
                    exact V_iret rfl d_Mod_lineNow_154 ⟨z208, rfl, ⟨rfl, (by (try rw [z208E]); omega)⟩⟩
                  ·
                    refine V_bipush 9 d_Mod_lineNow_145 (by decide) ?_
                    refine V_goto 154 d_Mod_lineNow_147 (by decide) ?_
                    exact V_iret rfl d_Mod_lineNow_154 ⟨9, rfl, ⟨rfl, (by (try rw [show Int32.toInt 9 = 9 from rfl]); omega)⟩⟩
                ·
                  refine V_bipush 8 d_Mod_lineNow_126 (by decide) ?_
                  refine V_goto 154 d_Mod_lineNow_128 (by decide) ?_
                  exact V_iret rfl d_Mod_lineNow_154 ⟨8, rfl, ⟨rfl, (by (try rw [show Int32.toInt 8 = 8 from rfl]); omega)⟩⟩
            ·
              refine V_aload_n 0 d_Mod_lineNow_85 rfl rfl ?_
              refine V_bipush 105 d_Mod_lineNow_86 (by decide) ?_
              refine V_bipush 109 d_Mod_lineNow_88 (by decide) ?_
              refine V_iconst 0 d_Mod_lineNow_90 (by decide) ?_
              refine N_callVI [.int 105, .int 109, .int 0] [] cv_Mod_122 sk_116 rfl d_Mod_lineNow_91 rfl (Nat.le_of_ble_eq_true rfl) (by decide) (by decide) (c_Mod_ends h hI 105 105 tc_105 109 109 tc_109 0 0 tc_0) (fun z211 h212 z211Z z211E p213 => ?_)
              obtain ⟨eh212, p213⟩ := p213
              subst eh212
              refine V_if_eq 100 z211E d_Mod_lineNow_94 (by decide) (fun c214 => ?_) (fun c214 => ?_)
              ·
                refine V_aload_n 0 d_Mod_lineNow_100 rfl rfl ?_
                refine V_iconst 5 d_Mod_lineNow_101 (by decide) ?_
                refine V_bipush 112 d_Mod_lineNow_102 (by decide) ?_
                refine V_bipush 117 d_Mod_lineNow_104 (by decide) ?_
                refine V_bipush 114 d_Mod_lineNow_106 (by decide) ?_
                refine N_callVI [.int 5, .int 112, .int 117, .int 114] [] cv_Mod_118 sk_116 rfl d_Mod_lineNow_108 rfl (Nat.le_of_ble_eq_true rfl) (by decide) (by decide) (c_Mod_is h hI 5 5 tc_5 112 112 tc_112 117 117 tc_117 114 114 tc_114) (fun z215 h216 z215Z z215E p217 => ?_)
                obtain ⟨eh216, p217⟩ := p217
                subst eh216
                refine V_if_eq 131 z215E d_Mod_lineNow_111 (by decide) (fun c218 => ?_) (fun c218 => ?_)
                ·
                  refine V_aload_n 0 d_Mod_lineNow_131 rfl rfl ?_
                  refine V_iconst 3 d_Mod_lineNow_132 (by decide) ?_
                  refine V_bipush 111 d_Mod_lineNow_133 (by decide) ?_
                  refine V_bipush 119 d_Mod_lineNow_135 (by decide) ?_
                  refine V_bipush 101 d_Mod_lineNow_137 (by decide) ?_
                  refine N_callVI [.int 3, .int 111, .int 119, .int 101] [] cv_Mod_118 sk_116 rfl d_Mod_lineNow_139 rfl (Nat.le_of_ble_eq_true rfl) (by decide) (by decide) (c_Mod_is h hI 3 3 tc_3 111 111 tc_111 119 119 tc_119 101 101 tc_101) (fun z219 h220 z219Z z219E p221 => ?_)
                  obtain ⟨eh220, p221⟩ := p221
                  subst eh220
                  refine V_if_eq 150 z219E d_Mod_lineNow_142 (by decide) (fun c222 => ?_) (fun c222 => ?_)
                  ·
                    refine V_aload_n 0 d_Mod_lineNow_150 rfl rfl ?_
                    refine N_callVI [] [] cv_Mod_126 sk_116 rfl d_Mod_lineNow_151 rfl (Nat.le_of_ble_eq_true rfl) (by decide) (by decide) (c_Mod_ruleLine h hI) (fun z223 h224 z223Z z223E p225 => ?_)
                    obtain ⟨eh224, p225⟩ := p225
                    subst eh224
                    exact V_iret rfl d_Mod_lineNow_154 ⟨z223, rfl, ⟨rfl, (by (try rw [z223E]); omega)⟩⟩
                  ·
                    refine V_bipush 9 d_Mod_lineNow_145 (by decide) ?_
                    refine V_goto 154 d_Mod_lineNow_147 (by decide) ?_
                    exact V_iret rfl d_Mod_lineNow_154 ⟨9, rfl, ⟨rfl, (by (try rw [show Int32.toInt 9 = 9 from rfl]); omega)⟩⟩
                ·
                  refine V_aload_n 0 d_Mod_lineNow_114 rfl rfl ?_
                  refine V_bipush 115 d_Mod_lineNow_115 (by decide) ?_
                  refine V_bipush 101 d_Mod_lineNow_117 (by decide) ?_
                  refine V_iconst 0 d_Mod_lineNow_119 (by decide) ?_
                  refine N_callVI [.int 115, .int 101, .int 0] [] cv_Mod_122 sk_116 rfl d_Mod_lineNow_120 rfl (Nat.le_of_ble_eq_true rfl) (by decide) (by decide) (c_Mod_ends h hI 115 115 tc_115 101 101 tc_101 0 0 tc_0) (fun z226 h227 z226Z z226E p228 => ?_)
                  obtain ⟨eh227, p228⟩ := p228
                  subst eh227
                  refine V_if_eq 131 z226E d_Mod_lineNow_123 (by decide) (fun c229 => ?_) (fun c229 => ?_)
                  ·
                    refine V_aload_n 0 d_Mod_lineNow_131 rfl rfl ?_
                    refine V_iconst 3 d_Mod_lineNow_132 (by decide) ?_
                    refine V_bipush 111 d_Mod_lineNow_133 (by decide) ?_
                    refine V_bipush 119 d_Mod_lineNow_135 (by decide) ?_
                    refine V_bipush 101 d_Mod_lineNow_137 (by decide) ?_
                    refine N_callVI [.int 3, .int 111, .int 119, .int 101] [] cv_Mod_118 sk_116 rfl d_Mod_lineNow_139 rfl (Nat.le_of_ble_eq_true rfl) (by decide) (by decide) (c_Mod_is h hI 3 3 tc_3 111 111 tc_111 119 119 tc_119 101 101 tc_101) (fun z230 h231 z230Z z230E p232 => ?_)
                    obtain ⟨eh231, p232⟩ := p232
                    subst eh231
                    refine V_if_eq 150 z230E d_Mod_lineNow_142 (by decide) (fun c233 => ?_) (fun c233 => ?_)
                    ·
                      refine V_aload_n 0 d_Mod_lineNow_150 rfl rfl ?_
                      refine N_callVI [] [] cv_Mod_126 sk_116 rfl d_Mod_lineNow_151 rfl (Nat.le_of_ble_eq_true rfl) (by decide) (by decide) (c_Mod_ruleLine h hI) (fun z234 h235 z234Z z234E p236 => ?_)
                      obtain ⟨eh235, p236⟩ := p236
                      subst eh235
                      exact V_iret rfl d_Mod_lineNow_154 ⟨z234, rfl, ⟨rfl, (by (try rw [z234E]); omega)⟩⟩
                    ·
                      refine V_bipush 9 d_Mod_lineNow_145 (by decide) ?_
                      refine V_goto 154 d_Mod_lineNow_147 (by decide) ?_
                      exact V_iret rfl d_Mod_lineNow_154 ⟨9, rfl, ⟨rfl, (by (try rw [show Int32.toInt 9 = 9 from rfl]); omega)⟩⟩
                  ·
                    refine V_bipush 8 d_Mod_lineNow_126 (by decide) ?_
                    refine V_goto 154 d_Mod_lineNow_128 (by decide) ?_
                    exact V_iret rfl d_Mod_lineNow_154 ⟨8, rfl, ⟨rfl, (by (try rw [show Int32.toInt 8 = 8 from rfl]); omega)⟩⟩
              ·
                refine V_bipush 7 d_Mod_lineNow_97 (by decide) ?_
                exact V_iret rfl d_Mod_lineNow_99 ⟨7, rfl, ⟨rfl, (by (try rw [show Int32.toInt 7 = 7 from rfl]); omega)⟩⟩
          ·
            refine V_bipush 6 d_Mod_lineNow_68 (by decide) ?_
            exact V_iret rfl d_Mod_lineNow_70 ⟨6, rfl, ⟨rfl, (by (try rw [show Int32.toInt 6 = 6 from rfl]); omega)⟩⟩
      ·
        refine V_iconst 5 d_Mod_lineNow_41 (by decide) ?_
        exact V_iret rfl d_Mod_lineNow_42 ⟨5, rfl, ⟨rfl, (by (try rw [show Int32.toInt 5 = 5 from rfl]); omega)⟩⟩
  ·
    refine V_iconst 4 d_Mod_lineNow_14 (by decide) ?_
    exact V_iret rfl d_Mod_lineNow_15 ⟨4, rfl, ⟨rfl, (by (try rw [show Int32.toInt 4 = 4 from rfl]); omega)⟩⟩
theorem d_Mod_natureNow_0 : decode b_Mod_natureNow 0 = .ok (.aload_n 0, 1) := by decide +kernel
theorem d_Mod_natureNow_1 : decode b_Mod_natureNow 1 = .ok (.iconst 5, 1) := by decide +kernel
theorem d_Mod_natureNow_2 : decode b_Mod_natureNow 2 = .ok (.bipush 119, 2) := by decide +kernel
theorem d_Mod_natureNow_4 : decode b_Mod_natureNow 4 = .ok (.bipush 97, 2) := by decide +kernel
theorem d_Mod_natureNow_6 : decode b_Mod_natureNow 6 = .ok (.bipush 116, 2) := by decide +kernel
theorem d_Mod_natureNow_8 : decode b_Mod_natureNow 8 = .ok (.invokevirtual 118, 3) := by decide +kernel
theorem d_Mod_natureNow_11 : decode b_Mod_natureNow 11 = .ok (.ifCond .eq 17, 3) := by decide +kernel
theorem d_Mod_natureNow_14 : decode b_Mod_natureNow 14 = .ok (.aload_n 0, 1) := by decide +kernel
theorem d_Mod_natureNow_15 : decode b_Mod_natureNow 15 = .ok (.bipush 101, 2) := by decide +kernel
theorem d_Mod_natureNow_17 : decode b_Mod_natureNow 17 = .ok (.bipush 114, 2) := by decide +kernel
theorem d_Mod_natureNow_19 : decode b_Mod_natureNow 19 = .ok (.iconst 0, 1) := by decide +kernel
theorem d_Mod_natureNow_20 : decode b_Mod_natureNow 20 = .ok (.invokevirtual 122, 3) := by decide +kernel
theorem d_Mod_natureNow_23 : decode b_Mod_natureNow 23 = .ok (.ifCond .eq 5, 3) := by decide +kernel
theorem d_Mod_natureNow_26 : decode b_Mod_natureNow 26 = .ok (.iconst 0, 1) := by decide +kernel
theorem d_Mod_natureNow_27 : decode b_Mod_natureNow 27 = .ok (.ireturn, 1) := by decide +kernel
theorem d_Mod_natureNow_28 : decode b_Mod_natureNow 28 = .ok (.aload_n 0, 1) := by decide +kernel
theorem d_Mod_natureNow_29 : decode b_Mod_natureNow 29 = .ok (.iconst 4, 1) := by decide +kernel
theorem d_Mod_natureNow_30 : decode b_Mod_natureNow 30 = .ok (.bipush 105, 2) := by decide +kernel
theorem d_Mod_natureNow_32 : decode b_Mod_natureNow 32 = .ok (.bipush 114, 2) := by decide +kernel
theorem d_Mod_natureNow_34 : decode b_Mod_natureNow 34 = .ok (.bipush 111, 2) := by decide +kernel
theorem d_Mod_natureNow_36 : decode b_Mod_natureNow 36 = .ok (.invokevirtual 118, 3) := by decide +kernel
theorem d_Mod_natureNow_39 : decode b_Mod_natureNow 39 = .ok (.ifCond .eq 16, 3) := by decide +kernel
theorem d_Mod_natureNow_42 : decode b_Mod_natureNow 42 = .ok (.aload_n 0, 1) := by decide +kernel
theorem d_Mod_natureNow_43 : decode b_Mod_natureNow 43 = .ok (.bipush 110, 2) := by decide +kernel
theorem d_Mod_natureNow_45 : decode b_Mod_natureNow 45 = .ok (.iconst 0, 1) := by decide +kernel
theorem d_Mod_natureNow_46 : decode b_Mod_natureNow 46 = .ok (.iconst 0, 1) := by decide +kernel
theorem d_Mod_natureNow_47 : decode b_Mod_natureNow 47 = .ok (.invokevirtual 122, 3) := by decide +kernel
theorem d_Mod_natureNow_50 : decode b_Mod_natureNow 50 = .ok (.ifCond .eq 5, 3) := by decide +kernel
theorem d_Mod_natureNow_53 : decode b_Mod_natureNow 53 = .ok (.iconst 1, 1) := by decide +kernel
theorem d_Mod_natureNow_54 : decode b_Mod_natureNow 54 = .ok (.ireturn, 1) := by decide +kernel
theorem d_Mod_natureNow_55 : decode b_Mod_natureNow 55 = .ok (.aload_n 0, 1) := by decide +kernel
theorem d_Mod_natureNow_56 : decode b_Mod_natureNow 56 = .ok (.iconst 5, 1) := by decide +kernel
theorem d_Mod_natureNow_57 : decode b_Mod_natureNow 57 = .ok (.bipush 115, 2) := by decide +kernel
theorem d_Mod_natureNow_59 : decode b_Mod_natureNow 59 = .ok (.bipush 116, 2) := by decide +kernel
theorem d_Mod_natureNow_61 : decode b_Mod_natureNow 61 = .ok (.bipush 101, 2) := by decide +kernel
theorem d_Mod_natureNow_63 : decode b_Mod_natureNow 63 = .ok (.invokevirtual 118, 3) := by decide +kernel
theorem d_Mod_natureNow_66 : decode b_Mod_natureNow 66 = .ok (.ifCond .eq 17, 3) := by decide +kernel
theorem d_Mod_natureNow_69 : decode b_Mod_natureNow 69 = .ok (.aload_n 0, 1) := by decide +kernel
theorem d_Mod_natureNow_70 : decode b_Mod_natureNow 70 = .ok (.bipush 112, 2) := by decide +kernel
theorem d_Mod_natureNow_72 : decode b_Mod_natureNow 72 = .ok (.bipush 115, 2) := by decide +kernel
theorem d_Mod_natureNow_74 : decode b_Mod_natureNow 74 = .ok (.iconst 0, 1) := by decide +kernel
theorem d_Mod_natureNow_75 : decode b_Mod_natureNow 75 = .ok (.invokevirtual 122, 3) := by decide +kernel
theorem d_Mod_natureNow_78 : decode b_Mod_natureNow 78 = .ok (.ifCond .eq 5, 3) := by decide +kernel
theorem d_Mod_natureNow_81 : decode b_Mod_natureNow 81 = .ok (.iconst 2, 1) := by decide +kernel
theorem d_Mod_natureNow_82 : decode b_Mod_natureNow 82 = .ok (.ireturn, 1) := by decide +kernel
theorem d_Mod_natureNow_83 : decode b_Mod_natureNow 83 = .ok (.aload_n 0, 1) := by decide +kernel
theorem d_Mod_natureNow_84 : decode b_Mod_natureNow 84 = .ok (.bipush 6, 2) := by decide +kernel
theorem d_Mod_natureNow_86 : decode b_Mod_natureNow 86 = .ok (.bipush 119, 2) := by decide +kernel
theorem d_Mod_natureNow_88 : decode b_Mod_natureNow 88 = .ok (.bipush 105, 2) := by decide +kernel
theorem d_Mod_natureNow_90 : decode b_Mod_natureNow 90 = .ok (.bipush 115, 2) := by decide +kernel
theorem d_Mod_natureNow_92 : decode b_Mod_natureNow 92 = .ok (.invokevirtual 118, 3) := by decide +kernel
theorem d_Mod_natureNow_95 : decode b_Mod_natureNow 95 = .ok (.ifCond .eq 20, 3) := by decide +kernel
theorem d_Mod_natureNow_98 : decode b_Mod_natureNow 98 = .ok (.aload_n 0, 1) := by decide +kernel
theorem d_Mod_natureNow_99 : decode b_Mod_natureNow 99 = .ok (.bipush 104, 2) := by decide +kernel
theorem d_Mod_natureNow_101 : decode b_Mod_natureNow 101 = .ok (.bipush 101, 2) := by decide +kernel
theorem d_Mod_natureNow_103 : decode b_Mod_natureNow 103 = .ok (.bipush 115, 2) := by decide +kernel
theorem d_Mod_natureNow_105 : decode b_Mod_natureNow 105 = .ok (.invokevirtual 122, 3) := by decide +kernel
theorem d_Mod_natureNow_108 : decode b_Mod_natureNow 108 = .ok (.ifCond .eq 7, 3) := by decide +kernel
theorem d_Mod_natureNow_111 : decode b_Mod_natureNow 111 = .ok (.iconst 3, 1) := by decide +kernel
theorem d_Mod_natureNow_112 : decode b_Mod_natureNow 112 = .ok (.goto 34, 3) := by decide +kernel
theorem d_Mod_natureNow_115 : decode b_Mod_natureNow 115 = .ok (.aload_n 0, 1) := by decide +kernel
theorem d_Mod_natureNow_116 : decode b_Mod_natureNow 116 = .ok (.iconst 4, 1) := by decide +kernel
theorem d_Mod_natureNow_117 : decode b_Mod_natureNow 117 = .ok (.bipush 98, 2) := by decide +kernel
theorem d_Mod_natureNow_119 : decode b_Mod_natureNow 119 = .ok (.bipush 111, 2) := by decide +kernel
theorem d_Mod_natureNow_121 : decode b_Mod_natureNow 121 = .ok (.bipush 116, 2) := by decide +kernel
theorem d_Mod_natureNow_123 : decode b_Mod_natureNow 123 = .ok (.invokevirtual 118, 3) := by decide +kernel
theorem d_Mod_natureNow_126 : decode b_Mod_natureNow 126 = .ok (.ifCond .eq 18, 3) := by decide +kernel
theorem d_Mod_natureNow_129 : decode b_Mod_natureNow 129 = .ok (.aload_n 0, 1) := by decide +kernel
theorem d_Mod_natureNow_130 : decode b_Mod_natureNow 130 = .ok (.bipush 104, 2) := by decide +kernel
theorem d_Mod_natureNow_132 : decode b_Mod_natureNow 132 = .ok (.iconst 0, 1) := by decide +kernel
theorem d_Mod_natureNow_133 : decode b_Mod_natureNow 133 = .ok (.iconst 0, 1) := by decide +kernel
theorem d_Mod_natureNow_134 : decode b_Mod_natureNow 134 = .ok (.invokevirtual 122, 3) := by decide +kernel
theorem d_Mod_natureNow_137 : decode b_Mod_natureNow 137 = .ok (.ifCond .eq 7, 3) := by decide +kernel
theorem d_Mod_natureNow_140 : decode b_Mod_natureNow 140 = .ok (.iconst 4, 1) := by decide +kernel
theorem d_Mod_natureNow_141 : decode b_Mod_natureNow 141 = .ok (.goto 5, 3) := by decide +kernel
theorem d_Mod_natureNow_144 : decode b_Mod_natureNow 144 = .ok (.bipush (-4), 2) := by decide +kernel
theorem d_Mod_natureNow_146 : decode b_Mod_natureNow 146 = .ok (.ireturn, 1) := by decide +kernel
abbrev q_Mod_natureNow (h : Hp)  : Option Value → Hp → Prop := pInt (fun r h' => h = h' ∧ (r.toInt = -4 ∨ 0 ≤ r.toInt ∧ r.toInt ≤ 4))
set_option maxRecDepth 100000 in
theorem c_Mod_natureNow (h : Hp) (hI : Inv h) : Ct y_Mod_natureNow b_Mod_natureNow 1 (some .int) 2 45 [.ref 116] h (q_Mod_natureNow h ) := by
  refine ct_ow R_Mod [some (.ref 116)] rfl (by decide) rfl (Nat.le_of_ble_eq_true rfl) ?_
  have f0 : fr [] h h := fr_rf
  refine V_aload_n 0 d_Mod_natureNow_0 rfl rfl ?_
  refine V_iconst 5 d_Mod_natureNow_1 (by decide) ?_
  refine V_bipush 119 d_Mod_natureNow_2 (by decide) ?_
  refine V_bipush 97 d_Mod_natureNow_4 (by decide) ?_
  refine V_bipush 116 d_Mod_natureNow_6 (by decide) ?_
  refine N_callVI [.int 5, .int 119, .int 97, .int 116] [] cv_Mod_118 sk_116 rfl d_Mod_natureNow_8 rfl (Nat.le_of_ble_eq_true rfl) (by decide) (by decide) (c_Mod_is h hI 5 5 tc_5 119 119 tc_119 97 97 tc_97 116 116 tc_116) (fun z1 h2 z1Z z1E p3 => ?_)
  obtain ⟨eh2, p3⟩ := p3
  subst eh2
  refine V_if_eq 28 z1E d_Mod_natureNow_11 (by decide) (fun c4 => ?_) (fun c4 => ?_)
  ·
    refine V_aload_n 0 d_Mod_natureNow_28 rfl rfl ?_
    refine V_iconst 4 d_Mod_natureNow_29 (by decide) ?_
    refine V_bipush 105 d_Mod_natureNow_30 (by decide) ?_
    refine V_bipush 114 d_Mod_natureNow_32 (by decide) ?_
    refine V_bipush 111 d_Mod_natureNow_34 (by decide) ?_
    refine N_callVI [.int 4, .int 105, .int 114, .int 111] [] cv_Mod_118 sk_116 rfl d_Mod_natureNow_36 rfl (Nat.le_of_ble_eq_true rfl) (by decide) (by decide) (c_Mod_is h hI 4 4 tc_4 105 105 tc_105 114 114 tc_114 111 111 tc_111) (fun z5 h6 z5Z z5E p7 => ?_)
    obtain ⟨eh6, p7⟩ := p7
    subst eh6
    refine V_if_eq 55 z5E d_Mod_natureNow_39 (by decide) (fun c8 => ?_) (fun c8 => ?_)
    ·
      refine V_aload_n 0 d_Mod_natureNow_55 rfl rfl ?_
      refine V_iconst 5 d_Mod_natureNow_56 (by decide) ?_
      refine V_bipush 115 d_Mod_natureNow_57 (by decide) ?_
      refine V_bipush 116 d_Mod_natureNow_59 (by decide) ?_
      refine V_bipush 101 d_Mod_natureNow_61 (by decide) ?_
      refine N_callVI [.int 5, .int 115, .int 116, .int 101] [] cv_Mod_118 sk_116 rfl d_Mod_natureNow_63 rfl (Nat.le_of_ble_eq_true rfl) (by decide) (by decide) (c_Mod_is h hI 5 5 tc_5 115 115 tc_115 116 116 tc_116 101 101 tc_101) (fun z9 h10 z9Z z9E p11 => ?_)
      obtain ⟨eh10, p11⟩ := p11
      subst eh10
      refine V_if_eq 83 z9E d_Mod_natureNow_66 (by decide) (fun c12 => ?_) (fun c12 => ?_)
      ·
        refine V_aload_n 0 d_Mod_natureNow_83 rfl rfl ?_
        refine V_bipush 6 d_Mod_natureNow_84 (by decide) ?_
        refine V_bipush 119 d_Mod_natureNow_86 (by decide) ?_
        refine V_bipush 105 d_Mod_natureNow_88 (by decide) ?_
        refine V_bipush 115 d_Mod_natureNow_90 (by decide) ?_
        refine N_callVI [.int 6, .int 119, .int 105, .int 115] [] cv_Mod_118 sk_116 rfl d_Mod_natureNow_92 rfl (Nat.le_of_ble_eq_true rfl) (by decide) (by decide) (c_Mod_is h hI 6 6 tc_6 119 119 tc_119 105 105 tc_105 115 115 tc_115) (fun z13 h14 z13Z z13E p15 => ?_)
        obtain ⟨eh14, p15⟩ := p15
        subst eh14
        refine V_if_eq 115 z13E d_Mod_natureNow_95 (by decide) (fun c16 => ?_) (fun c16 => ?_)
        ·
          refine V_aload_n 0 d_Mod_natureNow_115 rfl rfl ?_
          refine V_iconst 4 d_Mod_natureNow_116 (by decide) ?_
          refine V_bipush 98 d_Mod_natureNow_117 (by decide) ?_
          refine V_bipush 111 d_Mod_natureNow_119 (by decide) ?_
          refine V_bipush 116 d_Mod_natureNow_121 (by decide) ?_
          refine N_callVI [.int 4, .int 98, .int 111, .int 116] [] cv_Mod_118 sk_116 rfl d_Mod_natureNow_123 rfl (Nat.le_of_ble_eq_true rfl) (by decide) (by decide) (c_Mod_is h hI 4 4 tc_4 98 98 tc_98 111 111 tc_111 116 116 tc_116) (fun z17 h18 z17Z z17E p19 => ?_)
          obtain ⟨eh18, p19⟩ := p19
          subst eh18
          refine V_if_eq 144 z17E d_Mod_natureNow_126 (by decide) (fun c20 => ?_) (fun c20 => ?_)
          ·
            refine V_bipush (-4) d_Mod_natureNow_144 (by decide) ?_
            exact V_iret rfl d_Mod_natureNow_146 ⟨(-4), rfl, ⟨rfl, (by (try rw [show Int32.toInt (-4) = (-4) from rfl]); omega)⟩⟩
          ·
            refine V_aload_n 0 d_Mod_natureNow_129 rfl rfl ?_
            refine V_bipush 104 d_Mod_natureNow_130 (by decide) ?_
            refine V_iconst 0 d_Mod_natureNow_132 (by decide) ?_
            refine V_iconst 0 d_Mod_natureNow_133 (by decide) ?_
            refine N_callVI [.int 104, .int 0, .int 0] [] cv_Mod_122 sk_116 rfl d_Mod_natureNow_134 rfl (Nat.le_of_ble_eq_true rfl) (by decide) (by decide) (c_Mod_ends h hI 104 104 tc_104 0 0 tc_0 0 0 tc_0) (fun z21 h22 z21Z z21E p23 => ?_)
            obtain ⟨eh22, p23⟩ := p23
            subst eh22
            refine V_if_eq 144 z21E d_Mod_natureNow_137 (by decide) (fun c24 => ?_) (fun c24 => ?_)
            ·
              refine V_bipush (-4) d_Mod_natureNow_144 (by decide) ?_
              exact V_iret rfl d_Mod_natureNow_146 ⟨(-4), rfl, ⟨rfl, (by (try rw [show Int32.toInt (-4) = (-4) from rfl]); omega)⟩⟩
            ·
              refine V_iconst 4 d_Mod_natureNow_140 (by decide) ?_
              refine V_goto 146 d_Mod_natureNow_141 (by decide) ?_
              exact V_iret rfl d_Mod_natureNow_146 ⟨4, rfl, ⟨rfl, (by (try rw [show Int32.toInt 4 = 4 from rfl]); omega)⟩⟩
        ·
          refine V_aload_n 0 d_Mod_natureNow_98 rfl rfl ?_
          refine V_bipush 104 d_Mod_natureNow_99 (by decide) ?_
          refine V_bipush 101 d_Mod_natureNow_101 (by decide) ?_
          refine V_bipush 115 d_Mod_natureNow_103 (by decide) ?_
          refine N_callVI [.int 104, .int 101, .int 115] [] cv_Mod_122 sk_116 rfl d_Mod_natureNow_105 rfl (Nat.le_of_ble_eq_true rfl) (by decide) (by decide) (c_Mod_ends h hI 104 104 tc_104 101 101 tc_101 115 115 tc_115) (fun z25 h26 z25Z z25E p27 => ?_)
          obtain ⟨eh26, p27⟩ := p27
          subst eh26
          refine V_if_eq 115 z25E d_Mod_natureNow_108 (by decide) (fun c28 => ?_) (fun c28 => ?_)
          ·
            refine V_aload_n 0 d_Mod_natureNow_115 rfl rfl ?_
            refine V_iconst 4 d_Mod_natureNow_116 (by decide) ?_
            refine V_bipush 98 d_Mod_natureNow_117 (by decide) ?_
            refine V_bipush 111 d_Mod_natureNow_119 (by decide) ?_
            refine V_bipush 116 d_Mod_natureNow_121 (by decide) ?_
            refine N_callVI [.int 4, .int 98, .int 111, .int 116] [] cv_Mod_118 sk_116 rfl d_Mod_natureNow_123 rfl (Nat.le_of_ble_eq_true rfl) (by decide) (by decide) (c_Mod_is h hI 4 4 tc_4 98 98 tc_98 111 111 tc_111 116 116 tc_116) (fun z29 h30 z29Z z29E p31 => ?_)
            obtain ⟨eh30, p31⟩ := p31
            subst eh30
            refine V_if_eq 144 z29E d_Mod_natureNow_126 (by decide) (fun c32 => ?_) (fun c32 => ?_)
            ·
              refine V_bipush (-4) d_Mod_natureNow_144 (by decide) ?_
              exact V_iret rfl d_Mod_natureNow_146 ⟨(-4), rfl, ⟨rfl, (by (try rw [show Int32.toInt (-4) = (-4) from rfl]); omega)⟩⟩
            ·
              refine V_aload_n 0 d_Mod_natureNow_129 rfl rfl ?_
              refine V_bipush 104 d_Mod_natureNow_130 (by decide) ?_
              refine V_iconst 0 d_Mod_natureNow_132 (by decide) ?_
              refine V_iconst 0 d_Mod_natureNow_133 (by decide) ?_
              refine N_callVI [.int 104, .int 0, .int 0] [] cv_Mod_122 sk_116 rfl d_Mod_natureNow_134 rfl (Nat.le_of_ble_eq_true rfl) (by decide) (by decide) (c_Mod_ends h hI 104 104 tc_104 0 0 tc_0 0 0 tc_0) (fun z33 h34 z33Z z33E p35 => ?_)
              obtain ⟨eh34, p35⟩ := p35
              subst eh34
              refine V_if_eq 144 z33E d_Mod_natureNow_137 (by decide) (fun c36 => ?_) (fun c36 => ?_)
              ·
                refine V_bipush (-4) d_Mod_natureNow_144 (by decide) ?_
                exact V_iret rfl d_Mod_natureNow_146 ⟨(-4), rfl, ⟨rfl, (by (try rw [show Int32.toInt (-4) = (-4) from rfl]); omega)⟩⟩
              ·
                refine V_iconst 4 d_Mod_natureNow_140 (by decide) ?_
                refine V_goto 146 d_Mod_natureNow_141 (by decide) ?_
                exact V_iret rfl d_Mod_natureNow_146 ⟨4, rfl, ⟨rfl, (by (try rw [show Int32.toInt 4 = 4 from rfl]); omega)⟩⟩
          ·
            refine V_iconst 3 d_Mod_natureNow_111 (by decide) ?_
            refine V_goto 146 d_Mod_natureNow_112 (by decide) ?_
            exact V_iret rfl d_Mod_natureNow_146 ⟨3, rfl, ⟨rfl, (by (try rw [show Int32.toInt 3 = 3 from rfl]); omega)⟩⟩
      ·
        refine V_aload_n 0 d_Mod_natureNow_69 rfl rfl ?_
        refine V_bipush 112 d_Mod_natureNow_70 (by decide) ?_
        refine V_bipush 115 d_Mod_natureNow_72 (by decide) ?_
        refine V_iconst 0 d_Mod_natureNow_74 (by decide) ?_
        refine N_callVI [.int 112, .int 115, .int 0] [] cv_Mod_122 sk_116 rfl d_Mod_natureNow_75 rfl (Nat.le_of_ble_eq_true rfl) (by decide) (by decide) (c_Mod_ends h hI 112 112 tc_112 115 115 tc_115 0 0 tc_0) (fun z37 h38 z37Z z37E p39 => ?_)
        obtain ⟨eh38, p39⟩ := p39
        subst eh38
        refine V_if_eq 83 z37E d_Mod_natureNow_78 (by decide) (fun c40 => ?_) (fun c40 => ?_)
        ·
          refine V_aload_n 0 d_Mod_natureNow_83 rfl rfl ?_
          refine V_bipush 6 d_Mod_natureNow_84 (by decide) ?_
          refine V_bipush 119 d_Mod_natureNow_86 (by decide) ?_
          refine V_bipush 105 d_Mod_natureNow_88 (by decide) ?_
          refine V_bipush 115 d_Mod_natureNow_90 (by decide) ?_
          refine N_callVI [.int 6, .int 119, .int 105, .int 115] [] cv_Mod_118 sk_116 rfl d_Mod_natureNow_92 rfl (Nat.le_of_ble_eq_true rfl) (by decide) (by decide) (c_Mod_is h hI 6 6 tc_6 119 119 tc_119 105 105 tc_105 115 115 tc_115) (fun z41 h42 z41Z z41E p43 => ?_)
          obtain ⟨eh42, p43⟩ := p43
          subst eh42
          refine V_if_eq 115 z41E d_Mod_natureNow_95 (by decide) (fun c44 => ?_) (fun c44 => ?_)
          ·
            refine V_aload_n 0 d_Mod_natureNow_115 rfl rfl ?_
            refine V_iconst 4 d_Mod_natureNow_116 (by decide) ?_
            refine V_bipush 98 d_Mod_natureNow_117 (by decide) ?_
            refine V_bipush 111 d_Mod_natureNow_119 (by decide) ?_
            refine V_bipush 116 d_Mod_natureNow_121 (by decide) ?_
            refine N_callVI [.int 4, .int 98, .int 111, .int 116] [] cv_Mod_118 sk_116 rfl d_Mod_natureNow_123 rfl (Nat.le_of_ble_eq_true rfl) (by decide) (by decide) (c_Mod_is h hI 4 4 tc_4 98 98 tc_98 111 111 tc_111 116 116 tc_116) (fun z45 h46 z45Z z45E p47 => ?_)
            obtain ⟨eh46, p47⟩ := p47
            subst eh46
            refine V_if_eq 144 z45E d_Mod_natureNow_126 (by decide) (fun c48 => ?_) (fun c48 => ?_)
            ·
              refine V_bipush (-4) d_Mod_natureNow_144 (by decide) ?_
              exact V_iret rfl d_Mod_natureNow_146 ⟨(-4), rfl, ⟨rfl, (by (try rw [show Int32.toInt (-4) = (-4) from rfl]); omega)⟩⟩
            ·
              refine V_aload_n 0 d_Mod_natureNow_129 rfl rfl ?_
              refine V_bipush 104 d_Mod_natureNow_130 (by decide) ?_
              refine V_iconst 0 d_Mod_natureNow_132 (by decide) ?_
              refine V_iconst 0 d_Mod_natureNow_133 (by decide) ?_
              refine N_callVI [.int 104, .int 0, .int 0] [] cv_Mod_122 sk_116 rfl d_Mod_natureNow_134 rfl (Nat.le_of_ble_eq_true rfl) (by decide) (by decide) (c_Mod_ends h hI 104 104 tc_104 0 0 tc_0 0 0 tc_0) (fun z49 h50 z49Z z49E p51 => ?_)
              obtain ⟨eh50, p51⟩ := p51
              subst eh50
              refine V_if_eq 144 z49E d_Mod_natureNow_137 (by decide) (fun c52 => ?_) (fun c52 => ?_)
              ·
                refine V_bipush (-4) d_Mod_natureNow_144 (by decide) ?_
                exact V_iret rfl d_Mod_natureNow_146 ⟨(-4), rfl, ⟨rfl, (by (try rw [show Int32.toInt (-4) = (-4) from rfl]); omega)⟩⟩
              ·
                refine V_iconst 4 d_Mod_natureNow_140 (by decide) ?_
                refine V_goto 146 d_Mod_natureNow_141 (by decide) ?_
                exact V_iret rfl d_Mod_natureNow_146 ⟨4, rfl, ⟨rfl, (by (try rw [show Int32.toInt 4 = 4 from rfl]); omega)⟩⟩
          ·
            refine V_aload_n 0 d_Mod_natureNow_98 rfl rfl ?_
            refine V_bipush 104 d_Mod_natureNow_99 (by decide) ?_
            refine V_bipush 101 d_Mod_natureNow_101 (by decide) ?_
            refine V_bipush 115 d_Mod_natureNow_103 (by decide) ?_
            refine N_callVI [.int 104, .int 101, .int 115] [] cv_Mod_122 sk_116 rfl d_Mod_natureNow_105 rfl (Nat.le_of_ble_eq_true rfl) (by decide) (by decide) (c_Mod_ends h hI 104 104 tc_104 101 101 tc_101 115 115 tc_115) (fun z53 h54 z53Z z53E p55 => ?_)
            obtain ⟨eh54, p55⟩ := p55
            subst eh54
            refine V_if_eq 115 z53E d_Mod_natureNow_108 (by decide) (fun c56 => ?_) (fun c56 => ?_)
            ·
              refine V_aload_n 0 d_Mod_natureNow_115 rfl rfl ?_
              refine V_iconst 4 d_Mod_natureNow_116 (by decide) ?_
              refine V_bipush 98 d_Mod_natureNow_117 (by decide) ?_
              refine V_bipush 111 d_Mod_natureNow_119 (by decide) ?_
              refine V_bipush 116 d_Mod_natureNow_121 (by decide) ?_
              refine N_callVI [.int 4, .int 98, .int 111, .int 116] [] cv_Mod_118 sk_116 rfl d_Mod_natureNow_123 rfl (Nat.le_of_ble_eq_true rfl) (by decide) (by decide) (c_Mod_is h hI 4 4 tc_4 98 98 tc_98 111 111 tc_111 116 116 tc_116) (fun z57 h58 z57Z z57E p59 => ?_)
              obtain ⟨eh58, p59⟩ := p59
              subst eh58
              refine V_if_eq 144 z57E d_Mod_natureNow_126 (by decide) (fun c60 => ?_) (fun c60 => ?_)
              ·
                refine V_bipush (-4) d_Mod_natureNow_144 (by decide) ?_
                exact V_iret rfl d_Mod_natureNow_146 ⟨(-4), rfl, ⟨rfl, (by (try rw [show Int32.toInt (-4) = (-4) from rfl]); omega)⟩⟩
              ·
                refine V_aload_n 0 d_Mod_natureNow_129 rfl rfl ?_
                refine V_bipush 104 d_Mod_natureNow_130 (by decide) ?_
                refine V_iconst 0 d_Mod_natureNow_132 (by decide) ?_
                refine V_iconst 0 d_Mod_natureNow_133 (by decide) ?_
                refine N_callVI [.int 104, .int 0, .int 0] [] cv_Mod_122 sk_116 rfl d_Mod_natureNow_134 rfl (Nat.le_of_ble_eq_true rfl) (by decide) (by decide) (c_Mod_ends h hI 104 104 tc_104 0 0 tc_0 0 0 tc_0) (fun z61 h62 z61Z z61E p63 => ?_)
                obtain ⟨eh62, p63⟩ := p63
                subst eh62
                refine V_if_eq 144 z61E d_Mod_natureNow_137 (by decide) (fun c64 => ?_) (fun c64 => ?_)
                ·
                  refine V_bipush (-4) d_Mod_natureNow_144 (by decide) ?_
                  exact V_iret rfl d_Mod_natureNow_146 ⟨(-4), rfl, ⟨rfl, (by (try rw [show Int32.toInt (-4) = (-4) from rfl]); omega)⟩⟩
                ·
                  refine V_iconst 4 d_Mod_natureNow_140 (by decide) ?_
                  refine V_goto 146 d_Mod_natureNow_141 (by decide) ?_
                  exact V_iret rfl d_Mod_natureNow_146 ⟨4, rfl, ⟨rfl, (by (try rw [show Int32.toInt 4 = 4 from rfl]); omega)⟩⟩
            ·
              refine V_iconst 3 d_Mod_natureNow_111 (by decide) ?_
              refine V_goto 146 d_Mod_natureNow_112 (by decide) ?_
              exact V_iret rfl d_Mod_natureNow_146 ⟨3, rfl, ⟨rfl, (by (try rw [show Int32.toInt 3 = 3 from rfl]); omega)⟩⟩
        ·
          refine V_iconst 2 d_Mod_natureNow_81 (by decide) ?_
          exact V_iret rfl d_Mod_natureNow_82 ⟨2, rfl, ⟨rfl, (by (try rw [show Int32.toInt 2 = 2 from rfl]); omega)⟩⟩
    ·
      refine V_aload_n 0 d_Mod_natureNow_42 rfl rfl ?_
      refine V_bipush 110 d_Mod_natureNow_43 (by decide) ?_
      refine V_iconst 0 d_Mod_natureNow_45 (by decide) ?_
      refine V_iconst 0 d_Mod_natureNow_46 (by decide) ?_
      refine N_callVI [.int 110, .int 0, .int 0] [] cv_Mod_122 sk_116 rfl d_Mod_natureNow_47 rfl (Nat.le_of_ble_eq_true rfl) (by decide) (by decide) (c_Mod_ends h hI 110 110 tc_110 0 0 tc_0 0 0 tc_0) (fun z65 h66 z65Z z65E p67 => ?_)
      obtain ⟨eh66, p67⟩ := p67
      subst eh66
      refine V_if_eq 55 z65E d_Mod_natureNow_50 (by decide) (fun c68 => ?_) (fun c68 => ?_)
      ·
        refine V_aload_n 0 d_Mod_natureNow_55 rfl rfl ?_
        refine V_iconst 5 d_Mod_natureNow_56 (by decide) ?_
        refine V_bipush 115 d_Mod_natureNow_57 (by decide) ?_
        refine V_bipush 116 d_Mod_natureNow_59 (by decide) ?_
        refine V_bipush 101 d_Mod_natureNow_61 (by decide) ?_
        refine N_callVI [.int 5, .int 115, .int 116, .int 101] [] cv_Mod_118 sk_116 rfl d_Mod_natureNow_63 rfl (Nat.le_of_ble_eq_true rfl) (by decide) (by decide) (c_Mod_is h hI 5 5 tc_5 115 115 tc_115 116 116 tc_116 101 101 tc_101) (fun z69 h70 z69Z z69E p71 => ?_)
        obtain ⟨eh70, p71⟩ := p71
        subst eh70
        refine V_if_eq 83 z69E d_Mod_natureNow_66 (by decide) (fun c72 => ?_) (fun c72 => ?_)
        ·
          refine V_aload_n 0 d_Mod_natureNow_83 rfl rfl ?_
          refine V_bipush 6 d_Mod_natureNow_84 (by decide) ?_
          refine V_bipush 119 d_Mod_natureNow_86 (by decide) ?_
          refine V_bipush 105 d_Mod_natureNow_88 (by decide) ?_
          refine V_bipush 115 d_Mod_natureNow_90 (by decide) ?_
          refine N_callVI [.int 6, .int 119, .int 105, .int 115] [] cv_Mod_118 sk_116 rfl d_Mod_natureNow_92 rfl (Nat.le_of_ble_eq_true rfl) (by decide) (by decide) (c_Mod_is h hI 6 6 tc_6 119 119 tc_119 105 105 tc_105 115 115 tc_115) (fun z73 h74 z73Z z73E p75 => ?_)
          obtain ⟨eh74, p75⟩ := p75
          subst eh74
          refine V_if_eq 115 z73E d_Mod_natureNow_95 (by decide) (fun c76 => ?_) (fun c76 => ?_)
          ·
            refine V_aload_n 0 d_Mod_natureNow_115 rfl rfl ?_
            refine V_iconst 4 d_Mod_natureNow_116 (by decide) ?_
            refine V_bipush 98 d_Mod_natureNow_117 (by decide) ?_
            refine V_bipush 111 d_Mod_natureNow_119 (by decide) ?_
            refine V_bipush 116 d_Mod_natureNow_121 (by decide) ?_
            refine N_callVI [.int 4, .int 98, .int 111, .int 116] [] cv_Mod_118 sk_116 rfl d_Mod_natureNow_123 rfl (Nat.le_of_ble_eq_true rfl) (by decide) (by decide) (c_Mod_is h hI 4 4 tc_4 98 98 tc_98 111 111 tc_111 116 116 tc_116) (fun z77 h78 z77Z z77E p79 => ?_)
            obtain ⟨eh78, p79⟩ := p79
            subst eh78
            refine V_if_eq 144 z77E d_Mod_natureNow_126 (by decide) (fun c80 => ?_) (fun c80 => ?_)
            ·
              refine V_bipush (-4) d_Mod_natureNow_144 (by decide) ?_
              exact V_iret rfl d_Mod_natureNow_146 ⟨(-4), rfl, ⟨rfl, (by (try rw [show Int32.toInt (-4) = (-4) from rfl]); omega)⟩⟩
            ·
              refine V_aload_n 0 d_Mod_natureNow_129 rfl rfl ?_
              refine V_bipush 104 d_Mod_natureNow_130 (by decide) ?_
              refine V_iconst 0 d_Mod_natureNow_132 (by decide) ?_
              refine V_iconst 0 d_Mod_natureNow_133 (by decide) ?_
              refine N_callVI [.int 104, .int 0, .int 0] [] cv_Mod_122 sk_116 rfl d_Mod_natureNow_134 rfl (Nat.le_of_ble_eq_true rfl) (by decide) (by decide) (c_Mod_ends h hI 104 104 tc_104 0 0 tc_0 0 0 tc_0) (fun z81 h82 z81Z z81E p83 => ?_)
              obtain ⟨eh82, p83⟩ := p83
              subst eh82
              refine V_if_eq 144 z81E d_Mod_natureNow_137 (by decide) (fun c84 => ?_) (fun c84 => ?_)
              ·
                refine V_bipush (-4) d_Mod_natureNow_144 (by decide) ?_
                exact V_iret rfl d_Mod_natureNow_146 ⟨(-4), rfl, ⟨rfl, (by (try rw [show Int32.toInt (-4) = (-4) from rfl]); omega)⟩⟩
              ·
                refine V_iconst 4 d_Mod_natureNow_140 (by decide) ?_
                refine V_goto 146 d_Mod_natureNow_141 (by decide) ?_
                exact V_iret rfl d_Mod_natureNow_146 ⟨4, rfl, ⟨rfl, (by (try rw [show Int32.toInt 4 = 4 from rfl]); omega)⟩⟩
          ·
            refine V_aload_n 0 d_Mod_natureNow_98 rfl rfl ?_
            refine V_bipush 104 d_Mod_natureNow_99 (by decide) ?_
            refine V_bipush 101 d_Mod_natureNow_101 (by decide) ?_
            refine V_bipush 115 d_Mod_natureNow_103 (by decide) ?_
            refine N_callVI [.int 104, .int 101, .int 115] [] cv_Mod_122 sk_116 rfl d_Mod_natureNow_105 rfl (Nat.le_of_ble_eq_true rfl) (by decide) (by decide) (c_Mod_ends h hI 104 104 tc_104 101 101 tc_101 115 115 tc_115) (fun z85 h86 z85Z z85E p87 => ?_)
            obtain ⟨eh86, p87⟩ := p87
            subst eh86
            refine V_if_eq 115 z85E d_Mod_natureNow_108 (by decide) (fun c88 => ?_) (fun c88 => ?_)
            ·
              refine V_aload_n 0 d_Mod_natureNow_115 rfl rfl ?_
              refine V_iconst 4 d_Mod_natureNow_116 (by decide) ?_
              refine V_bipush 98 d_Mod_natureNow_117 (by decide) ?_
              refine V_bipush 111 d_Mod_natureNow_119 (by decide) ?_
              refine V_bipush 116 d_Mod_natureNow_121 (by decide) ?_
              refine N_callVI [.int 4, .int 98, .int 111, .int 116] [] cv_Mod_118 sk_116 rfl d_Mod_natureNow_123 rfl (Nat.le_of_ble_eq_true rfl) (by decide) (by decide) (c_Mod_is h hI 4 4 tc_4 98 98 tc_98 111 111 tc_111 116 116 tc_116) (fun z89 h90 z89Z z89E p91 => ?_)
              obtain ⟨eh90, p91⟩ := p91
              subst eh90
              refine V_if_eq 144 z89E d_Mod_natureNow_126 (by decide) (fun c92 => ?_) (fun c92 => ?_)
              ·
                refine V_bipush (-4) d_Mod_natureNow_144 (by decide) ?_
                exact V_iret rfl d_Mod_natureNow_146 ⟨(-4), rfl, ⟨rfl, (by (try rw [show Int32.toInt (-4) = (-4) from rfl]); omega)⟩⟩
              ·
                refine V_aload_n 0 d_Mod_natureNow_129 rfl rfl ?_
                refine V_bipush 104 d_Mod_natureNow_130 (by decide) ?_
                refine V_iconst 0 d_Mod_natureNow_132 (by decide) ?_
                refine V_iconst 0 d_Mod_natureNow_133 (by decide) ?_
                refine N_callVI [.int 104, .int 0, .int 0] [] cv_Mod_122 sk_116 rfl d_Mod_natureNow_134 rfl (Nat.le_of_ble_eq_true rfl) (by decide) (by decide) (c_Mod_ends h hI 104 104 tc_104 0 0 tc_0 0 0 tc_0) (fun z93 h94 z93Z z93E p95 => ?_)
                obtain ⟨eh94, p95⟩ := p95
                subst eh94
                refine V_if_eq 144 z93E d_Mod_natureNow_137 (by decide) (fun c96 => ?_) (fun c96 => ?_)
                ·
                  refine V_bipush (-4) d_Mod_natureNow_144 (by decide) ?_
                  exact V_iret rfl d_Mod_natureNow_146 ⟨(-4), rfl, ⟨rfl, (by (try rw [show Int32.toInt (-4) = (-4) from rfl]); omega)⟩⟩
                ·
                  refine V_iconst 4 d_Mod_natureNow_140 (by decide) ?_
                  refine V_goto 146 d_Mod_natureNow_141 (by decide) ?_
                  exact V_iret rfl d_Mod_natureNow_146 ⟨4, rfl, ⟨rfl, (by (try rw [show Int32.toInt 4 = 4 from rfl]); omega)⟩⟩
            ·
              refine V_iconst 3 d_Mod_natureNow_111 (by decide) ?_
              refine V_goto 146 d_Mod_natureNow_112 (by decide) ?_
              exact V_iret rfl d_Mod_natureNow_146 ⟨3, rfl, ⟨rfl, (by (try rw [show Int32.toInt 3 = 3 from rfl]); omega)⟩⟩
        ·
          refine V_aload_n 0 d_Mod_natureNow_69 rfl rfl ?_
          refine V_bipush 112 d_Mod_natureNow_70 (by decide) ?_
          refine V_bipush 115 d_Mod_natureNow_72 (by decide) ?_
          refine V_iconst 0 d_Mod_natureNow_74 (by decide) ?_
          refine N_callVI [.int 112, .int 115, .int 0] [] cv_Mod_122 sk_116 rfl d_Mod_natureNow_75 rfl (Nat.le_of_ble_eq_true rfl) (by decide) (by decide) (c_Mod_ends h hI 112 112 tc_112 115 115 tc_115 0 0 tc_0) (fun z97 h98 z97Z z97E p99 => ?_)
          obtain ⟨eh98, p99⟩ := p99
          subst eh98
          refine V_if_eq 83 z97E d_Mod_natureNow_78 (by decide) (fun c100 => ?_) (fun c100 => ?_)
          ·
            refine V_aload_n 0 d_Mod_natureNow_83 rfl rfl ?_
            refine V_bipush 6 d_Mod_natureNow_84 (by decide) ?_
            refine V_bipush 119 d_Mod_natureNow_86 (by decide) ?_
            refine V_bipush 105 d_Mod_natureNow_88 (by decide) ?_
            refine V_bipush 115 d_Mod_natureNow_90 (by decide) ?_
            refine N_callVI [.int 6, .int 119, .int 105, .int 115] [] cv_Mod_118 sk_116 rfl d_Mod_natureNow_92 rfl (Nat.le_of_ble_eq_true rfl) (by decide) (by decide) (c_Mod_is h hI 6 6 tc_6 119 119 tc_119 105 105 tc_105 115 115 tc_115) (fun z101 h102 z101Z z101E p103 => ?_)
            obtain ⟨eh102, p103⟩ := p103
            subst eh102
            refine V_if_eq 115 z101E d_Mod_natureNow_95 (by decide) (fun c104 => ?_) (fun c104 => ?_)
            ·
              refine V_aload_n 0 d_Mod_natureNow_115 rfl rfl ?_
              refine V_iconst 4 d_Mod_natureNow_116 (by decide) ?_
              refine V_bipush 98 d_Mod_natureNow_117 (by decide) ?_
              refine V_bipush 111 d_Mod_natureNow_119 (by decide) ?_
              refine V_bipush 116 d_Mod_natureNow_121 (by decide) ?_
              refine N_callVI [.int 4, .int 98, .int 111, .int 116] [] cv_Mod_118 sk_116 rfl d_Mod_natureNow_123 rfl (Nat.le_of_ble_eq_true rfl) (by decide) (by decide) (c_Mod_is h hI 4 4 tc_4 98 98 tc_98 111 111 tc_111 116 116 tc_116) (fun z105 h106 z105Z z105E p107 => ?_)
              obtain ⟨eh106, p107⟩ := p107
              subst eh106
              refine V_if_eq 144 z105E d_Mod_natureNow_126 (by decide) (fun c108 => ?_) (fun c108 => ?_)
              ·
                refine V_bipush (-4) d_Mod_natureNow_144 (by decide) ?_
                exact V_iret rfl d_Mod_natureNow_146 ⟨(-4), rfl, ⟨rfl, (by (try rw [show Int32.toInt (-4) = (-4) from rfl]); omega)⟩⟩
              ·
                refine V_aload_n 0 d_Mod_natureNow_129 rfl rfl ?_
                refine V_bipush 104 d_Mod_natureNow_130 (by decide) ?_
                refine V_iconst 0 d_Mod_natureNow_132 (by decide) ?_
                refine V_iconst 0 d_Mod_natureNow_133 (by decide) ?_
                refine N_callVI [.int 104, .int 0, .int 0] [] cv_Mod_122 sk_116 rfl d_Mod_natureNow_134 rfl (Nat.le_of_ble_eq_true rfl) (by decide) (by decide) (c_Mod_ends h hI 104 104 tc_104 0 0 tc_0 0 0 tc_0) (fun z109 h110 z109Z z109E p111 => ?_)
                obtain ⟨eh110, p111⟩ := p111
                subst eh110
                refine V_if_eq 144 z109E d_Mod_natureNow_137 (by decide) (fun c112 => ?_) (fun c112 => ?_)
                ·
                  refine V_bipush (-4) d_Mod_natureNow_144 (by decide) ?_
                  exact V_iret rfl d_Mod_natureNow_146 ⟨(-4), rfl, ⟨rfl, (by (try rw [show Int32.toInt (-4) = (-4) from rfl]); omega)⟩⟩
                ·
                  refine V_iconst 4 d_Mod_natureNow_140 (by decide) ?_
                  refine V_goto 146 d_Mod_natureNow_141 (by decide) ?_
                  exact V_iret rfl d_Mod_natureNow_146 ⟨4, rfl, ⟨rfl, (by (try rw [show Int32.toInt 4 = 4 from rfl]); omega)⟩⟩
            ·
              refine V_aload_n 0 d_Mod_natureNow_98 rfl rfl ?_
              refine V_bipush 104 d_Mod_natureNow_99 (by decide) ?_
              refine V_bipush 101 d_Mod_natureNow_101 (by decide) ?_
              refine V_bipush 115 d_Mod_natureNow_103 (by decide) ?_
              refine N_callVI [.int 104, .int 101, .int 115] [] cv_Mod_122 sk_116 rfl d_Mod_natureNow_105 rfl (Nat.le_of_ble_eq_true rfl) (by decide) (by decide) (c_Mod_ends h hI 104 104 tc_104 101 101 tc_101 115 115 tc_115) (fun z113 h114 z113Z z113E p115 => ?_)
              obtain ⟨eh114, p115⟩ := p115
              subst eh114
              refine V_if_eq 115 z113E d_Mod_natureNow_108 (by decide) (fun c116 => ?_) (fun c116 => ?_)
              ·
                refine V_aload_n 0 d_Mod_natureNow_115 rfl rfl ?_
                refine V_iconst 4 d_Mod_natureNow_116 (by decide) ?_
                refine V_bipush 98 d_Mod_natureNow_117 (by decide) ?_
                refine V_bipush 111 d_Mod_natureNow_119 (by decide) ?_
                refine V_bipush 116 d_Mod_natureNow_121 (by decide) ?_
                refine N_callVI [.int 4, .int 98, .int 111, .int 116] [] cv_Mod_118 sk_116 rfl d_Mod_natureNow_123 rfl (Nat.le_of_ble_eq_true rfl) (by decide) (by decide) (c_Mod_is h hI 4 4 tc_4 98 98 tc_98 111 111 tc_111 116 116 tc_116) (fun z117 h118 z117Z z117E p119 => ?_)
                obtain ⟨eh118, p119⟩ := p119
                subst eh118
                refine V_if_eq 144 z117E d_Mod_natureNow_126 (by decide) (fun c120 => ?_) (fun c120 => ?_)
                ·
                  refine V_bipush (-4) d_Mod_natureNow_144 (by decide) ?_
                  exact V_iret rfl d_Mod_natureNow_146 ⟨(-4), rfl, ⟨rfl, (by (try rw [show Int32.toInt (-4) = (-4) from rfl]); omega)⟩⟩
                ·
                  refine V_aload_n 0 d_Mod_natureNow_129 rfl rfl ?_
                  refine V_bipush 104 d_Mod_natureNow_130 (by decide) ?_
                  refine V_iconst 0 d_Mod_natureNow_132 (by decide) ?_
                  refine V_iconst 0 d_Mod_natureNow_133 (by decide) ?_
                  refine N_callVI [.int 104, .int 0, .int 0] [] cv_Mod_122 sk_116 rfl d_Mod_natureNow_134 rfl (Nat.le_of_ble_eq_true rfl) (by decide) (by decide) (c_Mod_ends h hI 104 104 tc_104 0 0 tc_0 0 0 tc_0) (fun z121 h122 z121Z z121E p123 => ?_)
                  obtain ⟨eh122, p123⟩ := p123
                  subst eh122
                  refine V_if_eq 144 z121E d_Mod_natureNow_137 (by decide) (fun c124 => ?_) (fun c124 => ?_)
                  ·
                    refine V_bipush (-4) d_Mod_natureNow_144 (by decide) ?_
                    exact V_iret rfl d_Mod_natureNow_146 ⟨(-4), rfl, ⟨rfl, (by (try rw [show Int32.toInt (-4) = (-4) from rfl]); omega)⟩⟩
                  ·
                    refine V_iconst 4 d_Mod_natureNow_140 (by decide) ?_
                    refine V_goto 146 d_Mod_natureNow_141 (by decide) ?_
                    exact V_iret rfl d_Mod_natureNow_146 ⟨4, rfl, ⟨rfl, (by (try rw [show Int32.toInt 4 = 4 from rfl]); omega)⟩⟩
              ·
                refine V_iconst 3 d_Mod_natureNow_111 (by decide) ?_
                refine V_goto 146 d_Mod_natureNow_112 (by decide) ?_
                exact V_iret rfl d_Mod_natureNow_146 ⟨3, rfl, ⟨rfl, (by (try rw [show Int32.toInt 3 = 3 from rfl]); omega)⟩⟩
          ·
            refine V_iconst 2 d_Mod_natureNow_81 (by decide) ?_
            exact V_iret rfl d_Mod_natureNow_82 ⟨2, rfl, ⟨rfl, (by (try rw [show Int32.toInt 2 = 2 from rfl]); omega)⟩⟩
      ·
        refine V_iconst 1 d_Mod_natureNow_53 (by decide) ?_
        exact V_iret rfl d_Mod_natureNow_54 ⟨1, rfl, ⟨rfl, (by (try rw [show Int32.toInt 1 = 1 from rfl]); omega)⟩⟩
  ·
    refine V_aload_n 0 d_Mod_natureNow_14 rfl rfl ?_
    refine V_bipush 101 d_Mod_natureNow_15 (by decide) ?_
    refine V_bipush 114 d_Mod_natureNow_17 (by decide) ?_
    refine V_iconst 0 d_Mod_natureNow_19 (by decide) ?_
    refine N_callVI [.int 101, .int 114, .int 0] [] cv_Mod_122 sk_116 rfl d_Mod_natureNow_20 rfl (Nat.le_of_ble_eq_true rfl) (by decide) (by decide) (c_Mod_ends h hI 101 101 tc_101 114 114 tc_114 0 0 tc_0) (fun z125 h126 z125Z z125E p127 => ?_)
    obtain ⟨eh126, p127⟩ := p127
    subst eh126
    refine V_if_eq 28 z125E d_Mod_natureNow_23 (by decide) (fun c128 => ?_) (fun c128 => ?_)
    ·
      refine V_aload_n 0 d_Mod_natureNow_28 rfl rfl ?_
      refine V_iconst 4 d_Mod_natureNow_29 (by decide) ?_
      refine V_bipush 105 d_Mod_natureNow_30 (by decide) ?_
      refine V_bipush 114 d_Mod_natureNow_32 (by decide) ?_
      refine V_bipush 111 d_Mod_natureNow_34 (by decide) ?_
      refine N_callVI [.int 4, .int 105, .int 114, .int 111] [] cv_Mod_118 sk_116 rfl d_Mod_natureNow_36 rfl (Nat.le_of_ble_eq_true rfl) (by decide) (by decide) (c_Mod_is h hI 4 4 tc_4 105 105 tc_105 114 114 tc_114 111 111 tc_111) (fun z129 h130 z129Z z129E p131 => ?_)
      obtain ⟨eh130, p131⟩ := p131
      subst eh130
      refine V_if_eq 55 z129E d_Mod_natureNow_39 (by decide) (fun c132 => ?_) (fun c132 => ?_)
      ·
        refine V_aload_n 0 d_Mod_natureNow_55 rfl rfl ?_
        refine V_iconst 5 d_Mod_natureNow_56 (by decide) ?_
        refine V_bipush 115 d_Mod_natureNow_57 (by decide) ?_
        refine V_bipush 116 d_Mod_natureNow_59 (by decide) ?_
        refine V_bipush 101 d_Mod_natureNow_61 (by decide) ?_
        refine N_callVI [.int 5, .int 115, .int 116, .int 101] [] cv_Mod_118 sk_116 rfl d_Mod_natureNow_63 rfl (Nat.le_of_ble_eq_true rfl) (by decide) (by decide) (c_Mod_is h hI 5 5 tc_5 115 115 tc_115 116 116 tc_116 101 101 tc_101) (fun z133 h134 z133Z z133E p135 => ?_)
        obtain ⟨eh134, p135⟩ := p135
        subst eh134
        refine V_if_eq 83 z133E d_Mod_natureNow_66 (by decide) (fun c136 => ?_) (fun c136 => ?_)
        ·
          refine V_aload_n 0 d_Mod_natureNow_83 rfl rfl ?_
          refine V_bipush 6 d_Mod_natureNow_84 (by decide) ?_
          refine V_bipush 119 d_Mod_natureNow_86 (by decide) ?_
          refine V_bipush 105 d_Mod_natureNow_88 (by decide) ?_
          refine V_bipush 115 d_Mod_natureNow_90 (by decide) ?_
          refine N_callVI [.int 6, .int 119, .int 105, .int 115] [] cv_Mod_118 sk_116 rfl d_Mod_natureNow_92 rfl (Nat.le_of_ble_eq_true rfl) (by decide) (by decide) (c_Mod_is h hI 6 6 tc_6 119 119 tc_119 105 105 tc_105 115 115 tc_115) (fun z137 h138 z137Z z137E p139 => ?_)
          obtain ⟨eh138, p139⟩ := p139
          subst eh138
          refine V_if_eq 115 z137E d_Mod_natureNow_95 (by decide) (fun c140 => ?_) (fun c140 => ?_)
          ·
            refine V_aload_n 0 d_Mod_natureNow_115 rfl rfl ?_
            refine V_iconst 4 d_Mod_natureNow_116 (by decide) ?_
            refine V_bipush 98 d_Mod_natureNow_117 (by decide) ?_
            refine V_bipush 111 d_Mod_natureNow_119 (by decide) ?_
            refine V_bipush 116 d_Mod_natureNow_121 (by decide) ?_
            refine N_callVI [.int 4, .int 98, .int 111, .int 116] [] cv_Mod_118 sk_116 rfl d_Mod_natureNow_123 rfl (Nat.le_of_ble_eq_true rfl) (by decide) (by decide) (c_Mod_is h hI 4 4 tc_4 98 98 tc_98 111 111 tc_111 116 116 tc_116) (fun z141 h142 z141Z z141E p143 => ?_)
            obtain ⟨eh142, p143⟩ := p143
            subst eh142
            refine V_if_eq 144 z141E d_Mod_natureNow_126 (by decide) (fun c144 => ?_) (fun c144 => ?_)
            ·
              refine V_bipush (-4) d_Mod_natureNow_144 (by decide) ?_
              exact V_iret rfl d_Mod_natureNow_146 ⟨(-4), rfl, ⟨rfl, (by (try rw [show Int32.toInt (-4) = (-4) from rfl]); omega)⟩⟩
            ·
              refine V_aload_n 0 d_Mod_natureNow_129 rfl rfl ?_
              refine V_bipush 104 d_Mod_natureNow_130 (by decide) ?_
              refine V_iconst 0 d_Mod_natureNow_132 (by decide) ?_
              refine V_iconst 0 d_Mod_natureNow_133 (by decide) ?_
              refine N_callVI [.int 104, .int 0, .int 0] [] cv_Mod_122 sk_116 rfl d_Mod_natureNow_134 rfl (Nat.le_of_ble_eq_true rfl) (by decide) (by decide) (c_Mod_ends h hI 104 104 tc_104 0 0 tc_0 0 0 tc_0) (fun z145 h146 z145Z z145E p147 => ?_)
              obtain ⟨eh146, p147⟩ := p147
              subst eh146
              refine V_if_eq 144 z145E d_Mod_natureNow_137 (by decide) (fun c148 => ?_) (fun c148 => ?_)
              ·
                refine V_bipush (-4) d_Mod_natureNow_144 (by decide) ?_
                exact V_iret rfl d_Mod_natureNow_146 ⟨(-4), rfl, ⟨rfl, (by (try rw [show Int32.toInt (-4) = (-4) from rfl]); omega)⟩⟩
              ·
                refine V_iconst 4 d_Mod_natureNow_140 (by decide) ?_
                refine V_goto 146 d_Mod_natureNow_141 (by decide) ?_
                exact V_iret rfl d_Mod_natureNow_146 ⟨4, rfl, ⟨rfl, (by (try rw [show Int32.toInt 4 = 4 from rfl]); omega)⟩⟩
          ·
            refine V_aload_n 0 d_Mod_natureNow_98 rfl rfl ?_
            refine V_bipush 104 d_Mod_natureNow_99 (by decide) ?_
            refine V_bipush 101 d_Mod_natureNow_101 (by decide) ?_
            refine V_bipush 115 d_Mod_natureNow_103 (by decide) ?_
            refine N_callVI [.int 104, .int 101, .int 115] [] cv_Mod_122 sk_116 rfl d_Mod_natureNow_105 rfl (Nat.le_of_ble_eq_true rfl) (by decide) (by decide) (c_Mod_ends h hI 104 104 tc_104 101 101 tc_101 115 115 tc_115) (fun z149 h150 z149Z z149E p151 => ?_)
            obtain ⟨eh150, p151⟩ := p151
            subst eh150
            refine V_if_eq 115 z149E d_Mod_natureNow_108 (by decide) (fun c152 => ?_) (fun c152 => ?_)
            ·
              refine V_aload_n 0 d_Mod_natureNow_115 rfl rfl ?_
              refine V_iconst 4 d_Mod_natureNow_116 (by decide) ?_
              refine V_bipush 98 d_Mod_natureNow_117 (by decide) ?_
              refine V_bipush 111 d_Mod_natureNow_119 (by decide) ?_
              refine V_bipush 116 d_Mod_natureNow_121 (by decide) ?_
              refine N_callVI [.int 4, .int 98, .int 111, .int 116] [] cv_Mod_118 sk_116 rfl d_Mod_natureNow_123 rfl (Nat.le_of_ble_eq_true rfl) (by decide) (by decide) (c_Mod_is h hI 4 4 tc_4 98 98 tc_98 111 111 tc_111 116 116 tc_116) (fun z153 h154 z153Z z153E p155 => ?_)
              obtain ⟨eh154, p155⟩ := p155
              subst eh154
              refine V_if_eq 144 z153E d_Mod_natureNow_126 (by decide) (fun c156 => ?_) (fun c156 => ?_)
              ·
                refine V_bipush (-4) d_Mod_natureNow_144 (by decide) ?_
                exact V_iret rfl d_Mod_natureNow_146 ⟨(-4), rfl, ⟨rfl, (by (try rw [show Int32.toInt (-4) = (-4) from rfl]); omega)⟩⟩
              ·
                refine V_aload_n 0 d_Mod_natureNow_129 rfl rfl ?_
                refine V_bipush 104 d_Mod_natureNow_130 (by decide) ?_
                refine V_iconst 0 d_Mod_natureNow_132 (by decide) ?_
                refine V_iconst 0 d_Mod_natureNow_133 (by decide) ?_
                refine N_callVI [.int 104, .int 0, .int 0] [] cv_Mod_122 sk_116 rfl d_Mod_natureNow_134 rfl (Nat.le_of_ble_eq_true rfl) (by decide) (by decide) (c_Mod_ends h hI 104 104 tc_104 0 0 tc_0 0 0 tc_0) (fun z157 h158 z157Z z157E p159 => ?_)
                obtain ⟨eh158, p159⟩ := p159
                subst eh158
                refine V_if_eq 144 z157E d_Mod_natureNow_137 (by decide) (fun c160 => ?_) (fun c160 => ?_)
                ·
                  refine V_bipush (-4) d_Mod_natureNow_144 (by decide) ?_
                  exact V_iret rfl d_Mod_natureNow_146 ⟨(-4), rfl, ⟨rfl, (by (try rw [show Int32.toInt (-4) = (-4) from rfl]); omega)⟩⟩
                ·
                  refine V_iconst 4 d_Mod_natureNow_140 (by decide) ?_
                  refine V_goto 146 d_Mod_natureNow_141 (by decide) ?_
                  exact V_iret rfl d_Mod_natureNow_146 ⟨4, rfl, ⟨rfl, (by (try rw [show Int32.toInt 4 = 4 from rfl]); omega)⟩⟩
            ·
              refine V_iconst 3 d_Mod_natureNow_111 (by decide) ?_
              refine V_goto 146 d_Mod_natureNow_112 (by decide) ?_
              exact V_iret rfl d_Mod_natureNow_146 ⟨3, rfl, ⟨rfl, (by (try rw [show Int32.toInt 3 = 3 from rfl]); omega)⟩⟩
        ·
          refine V_aload_n 0 d_Mod_natureNow_69 rfl rfl ?_
          refine V_bipush 112 d_Mod_natureNow_70 (by decide) ?_
          refine V_bipush 115 d_Mod_natureNow_72 (by decide) ?_
          refine V_iconst 0 d_Mod_natureNow_74 (by decide) ?_
          refine N_callVI [.int 112, .int 115, .int 0] [] cv_Mod_122 sk_116 rfl d_Mod_natureNow_75 rfl (Nat.le_of_ble_eq_true rfl) (by decide) (by decide) (c_Mod_ends h hI 112 112 tc_112 115 115 tc_115 0 0 tc_0) (fun z161 h162 z161Z z161E p163 => ?_)
          obtain ⟨eh162, p163⟩ := p163
          subst eh162
          refine V_if_eq 83 z161E d_Mod_natureNow_78 (by decide) (fun c164 => ?_) (fun c164 => ?_)
          ·
            refine V_aload_n 0 d_Mod_natureNow_83 rfl rfl ?_
            refine V_bipush 6 d_Mod_natureNow_84 (by decide) ?_
            refine V_bipush 119 d_Mod_natureNow_86 (by decide) ?_
            refine V_bipush 105 d_Mod_natureNow_88 (by decide) ?_
            refine V_bipush 115 d_Mod_natureNow_90 (by decide) ?_
            refine N_callVI [.int 6, .int 119, .int 105, .int 115] [] cv_Mod_118 sk_116 rfl d_Mod_natureNow_92 rfl (Nat.le_of_ble_eq_true rfl) (by decide) (by decide) (c_Mod_is h hI 6 6 tc_6 119 119 tc_119 105 105 tc_105 115 115 tc_115) (fun z165 h166 z165Z z165E p167 => ?_)
            obtain ⟨eh166, p167⟩ := p167
            subst eh166
            refine V_if_eq 115 z165E d_Mod_natureNow_95 (by decide) (fun c168 => ?_) (fun c168 => ?_)
            ·
              refine V_aload_n 0 d_Mod_natureNow_115 rfl rfl ?_
              refine V_iconst 4 d_Mod_natureNow_116 (by decide) ?_
              refine V_bipush 98 d_Mod_natureNow_117 (by decide) ?_
              refine V_bipush 111 d_Mod_natureNow_119 (by decide) ?_
              refine V_bipush 116 d_Mod_natureNow_121 (by decide) ?_
              refine N_callVI [.int 4, .int 98, .int 111, .int 116] [] cv_Mod_118 sk_116 rfl d_Mod_natureNow_123 rfl (Nat.le_of_ble_eq_true rfl) (by decide) (by decide) (c_Mod_is h hI 4 4 tc_4 98 98 tc_98 111 111 tc_111 116 116 tc_116) (fun z169 h170 z169Z z169E p171 => ?_)
              obtain ⟨eh170, p171⟩ := p171
              subst eh170
              refine V_if_eq 144 z169E d_Mod_natureNow_126 (by decide) (fun c172 => ?_) (fun c172 => ?_)
              ·
                refine V_bipush (-4) d_Mod_natureNow_144 (by decide) ?_
                exact V_iret rfl d_Mod_natureNow_146 ⟨(-4), rfl, ⟨rfl, (by (try rw [show Int32.toInt (-4) = (-4) from rfl]); omega)⟩⟩
              ·
                refine V_aload_n 0 d_Mod_natureNow_129 rfl rfl ?_
                refine V_bipush 104 d_Mod_natureNow_130 (by decide) ?_
                refine V_iconst 0 d_Mod_natureNow_132 (by decide) ?_
                refine V_iconst 0 d_Mod_natureNow_133 (by decide) ?_
                refine N_callVI [.int 104, .int 0, .int 0] [] cv_Mod_122 sk_116 rfl d_Mod_natureNow_134 rfl (Nat.le_of_ble_eq_true rfl) (by decide) (by decide) (c_Mod_ends h hI 104 104 tc_104 0 0 tc_0 0 0 tc_0) (fun z173 h174 z173Z z173E p175 => ?_)
                obtain ⟨eh174, p175⟩ := p175
                subst eh174
                refine V_if_eq 144 z173E d_Mod_natureNow_137 (by decide) (fun c176 => ?_) (fun c176 => ?_)
                ·
                  refine V_bipush (-4) d_Mod_natureNow_144 (by decide) ?_
                  exact V_iret rfl d_Mod_natureNow_146 ⟨(-4), rfl, ⟨rfl, (by (try rw [show Int32.toInt (-4) = (-4) from rfl]); omega)⟩⟩
                ·
                  refine V_iconst 4 d_Mod_natureNow_140 (by decide) ?_
                  refine V_goto 146 d_Mod_natureNow_141 (by decide) ?_
                  exact V_iret rfl d_Mod_natureNow_146 ⟨4, rfl, ⟨rfl, (by (try rw [show Int32.toInt 4 = 4 from rfl]); omega)⟩⟩
            ·
              refine V_aload_n 0 d_Mod_natureNow_98 rfl rfl ?_
              refine V_bipush 104 d_Mod_natureNow_99 (by decide) ?_
              refine V_bipush 101 d_Mod_natureNow_101 (by decide) ?_
              refine V_bipush 115 d_Mod_natureNow_103 (by decide) ?_
              refine N_callVI [.int 104, .int 101, .int 115] [] cv_Mod_122 sk_116 rfl d_Mod_natureNow_105 rfl (Nat.le_of_ble_eq_true rfl) (by decide) (by decide) (c_Mod_ends h hI 104 104 tc_104 101 101 tc_101 115 115 tc_115) (fun z177 h178 z177Z z177E p179 => ?_)
              obtain ⟨eh178, p179⟩ := p179
              subst eh178
              refine V_if_eq 115 z177E d_Mod_natureNow_108 (by decide) (fun c180 => ?_) (fun c180 => ?_)
              ·
                refine V_aload_n 0 d_Mod_natureNow_115 rfl rfl ?_
                refine V_iconst 4 d_Mod_natureNow_116 (by decide) ?_
                refine V_bipush 98 d_Mod_natureNow_117 (by decide) ?_
                refine V_bipush 111 d_Mod_natureNow_119 (by decide) ?_
                refine V_bipush 116 d_Mod_natureNow_121 (by decide) ?_
                refine N_callVI [.int 4, .int 98, .int 111, .int 116] [] cv_Mod_118 sk_116 rfl d_Mod_natureNow_123 rfl (Nat.le_of_ble_eq_true rfl) (by decide) (by decide) (c_Mod_is h hI 4 4 tc_4 98 98 tc_98 111 111 tc_111 116 116 tc_116) (fun z181 h182 z181Z z181E p183 => ?_)
                obtain ⟨eh182, p183⟩ := p183
                subst eh182
                refine V_if_eq 144 z181E d_Mod_natureNow_126 (by decide) (fun c184 => ?_) (fun c184 => ?_)
                ·
                  refine V_bipush (-4) d_Mod_natureNow_144 (by decide) ?_
                  exact V_iret rfl d_Mod_natureNow_146 ⟨(-4), rfl, ⟨rfl, (by (try rw [show Int32.toInt (-4) = (-4) from rfl]); omega)⟩⟩
                ·
                  refine V_aload_n 0 d_Mod_natureNow_129 rfl rfl ?_
                  refine V_bipush 104 d_Mod_natureNow_130 (by decide) ?_
                  refine V_iconst 0 d_Mod_natureNow_132 (by decide) ?_
                  refine V_iconst 0 d_Mod_natureNow_133 (by decide) ?_
                  refine N_callVI [.int 104, .int 0, .int 0] [] cv_Mod_122 sk_116 rfl d_Mod_natureNow_134 rfl (Nat.le_of_ble_eq_true rfl) (by decide) (by decide) (c_Mod_ends h hI 104 104 tc_104 0 0 tc_0 0 0 tc_0) (fun z185 h186 z185Z z185E p187 => ?_)
                  obtain ⟨eh186, p187⟩ := p187
                  subst eh186
                  refine V_if_eq 144 z185E d_Mod_natureNow_137 (by decide) (fun c188 => ?_) (fun c188 => ?_)
                  ·
                    refine V_bipush (-4) d_Mod_natureNow_144 (by decide) ?_
                    exact V_iret rfl d_Mod_natureNow_146 ⟨(-4), rfl, ⟨rfl, (by (try rw [show Int32.toInt (-4) = (-4) from rfl]); omega)⟩⟩
                  ·
                    refine V_iconst 4 d_Mod_natureNow_140 (by decide) ?_
                    refine V_goto 146 d_Mod_natureNow_141 (by decide) ?_
                    exact V_iret rfl d_Mod_natureNow_146 ⟨4, rfl, ⟨rfl, (by (try rw [show Int32.toInt 4 = 4 from rfl]); omega)⟩⟩
              ·
                refine V_iconst 3 d_Mod_natureNow_111 (by decide) ?_
                refine V_goto 146 d_Mod_natureNow_112 (by decide) ?_
                exact V_iret rfl d_Mod_natureNow_146 ⟨3, rfl, ⟨rfl, (by (try rw [show Int32.toInt 3 = 3 from rfl]); omega)⟩⟩
          ·
            refine V_iconst 2 d_Mod_natureNow_81 (by decide) ?_
            exact V_iret rfl d_Mod_natureNow_82 ⟨2, rfl, ⟨rfl, (by (try rw [show Int32.toInt 2 = 2 from rfl]); omega)⟩⟩
      ·
        refine V_aload_n 0 d_Mod_natureNow_42 rfl rfl ?_
        refine V_bipush 110 d_Mod_natureNow_43 (by decide) ?_
        refine V_iconst 0 d_Mod_natureNow_45 (by decide) ?_
        refine V_iconst 0 d_Mod_natureNow_46 (by decide) ?_
        refine N_callVI [.int 110, .int 0, .int 0] [] cv_Mod_122 sk_116 rfl d_Mod_natureNow_47 rfl (Nat.le_of_ble_eq_true rfl) (by decide) (by decide) (c_Mod_ends h hI 110 110 tc_110 0 0 tc_0 0 0 tc_0) (fun z189 h190 z189Z z189E p191 => ?_)
        obtain ⟨eh190, p191⟩ := p191
        subst eh190
        refine V_if_eq 55 z189E d_Mod_natureNow_50 (by decide) (fun c192 => ?_) (fun c192 => ?_)
        ·
          refine V_aload_n 0 d_Mod_natureNow_55 rfl rfl ?_
          refine V_iconst 5 d_Mod_natureNow_56 (by decide) ?_
          refine V_bipush 115 d_Mod_natureNow_57 (by decide) ?_
          refine V_bipush 116 d_Mod_natureNow_59 (by decide) ?_
          refine V_bipush 101 d_Mod_natureNow_61 (by decide) ?_
          refine N_callVI [.int 5, .int 115, .int 116, .int 101] [] cv_Mod_118 sk_116 rfl d_Mod_natureNow_63 rfl (Nat.le_of_ble_eq_true rfl) (by decide) (by decide) (c_Mod_is h hI 5 5 tc_5 115 115 tc_115 116 116 tc_116 101 101 tc_101) (fun z193 h194 z193Z z193E p195 => ?_)
          obtain ⟨eh194, p195⟩ := p195
          subst eh194
          refine V_if_eq 83 z193E d_Mod_natureNow_66 (by decide) (fun c196 => ?_) (fun c196 => ?_)
          ·
            refine V_aload_n 0 d_Mod_natureNow_83 rfl rfl ?_
            refine V_bipush 6 d_Mod_natureNow_84 (by decide) ?_
            refine V_bipush 119 d_Mod_natureNow_86 (by decide) ?_
            refine V_bipush 105 d_Mod_natureNow_88 (by decide) ?_
            refine V_bipush 115 d_Mod_natureNow_90 (by decide) ?_
            refine N_callVI [.int 6, .int 119, .int 105, .int 115] [] cv_Mod_118 sk_116 rfl d_Mod_natureNow_92 rfl (Nat.le_of_ble_eq_true rfl) (by decide) (by decide) (c_Mod_is h hI 6 6 tc_6 119 119 tc_119 105 105 tc_105 115 115 tc_115) (fun z197 h198 z197Z z197E p199 => ?_)
            obtain ⟨eh198, p199⟩ := p199
            subst eh198
            refine V_if_eq 115 z197E d_Mod_natureNow_95 (by decide) (fun c200 => ?_) (fun c200 => ?_)
            ·
              refine V_aload_n 0 d_Mod_natureNow_115 rfl rfl ?_
              refine V_iconst 4 d_Mod_natureNow_116 (by decide) ?_
              refine V_bipush 98 d_Mod_natureNow_117 (by decide) ?_
              refine V_bipush 111 d_Mod_natureNow_119 (by decide) ?_
              refine V_bipush 116 d_Mod_natureNow_121 (by decide) ?_
              refine N_callVI [.int 4, .int 98, .int 111, .int 116] [] cv_Mod_118 sk_116 rfl d_Mod_natureNow_123 rfl (Nat.le_of_ble_eq_true rfl) (by decide) (by decide) (c_Mod_is h hI 4 4 tc_4 98 98 tc_98 111 111 tc_111 116 116 tc_116) (fun z201 h202 z201Z z201E p203 => ?_)
              obtain ⟨eh202, p203⟩ := p203
              subst eh202
              refine V_if_eq 144 z201E d_Mod_natureNow_126 (by decide) (fun c204 => ?_) (fun c204 => ?_)
              ·
                refine V_bipush (-4) d_Mod_natureNow_144 (by decide) ?_
                exact V_iret rfl d_Mod_natureNow_146 ⟨(-4), rfl, ⟨rfl, (by (try rw [show Int32.toInt (-4) = (-4) from rfl]); omega)⟩⟩
              ·
                refine V_aload_n 0 d_Mod_natureNow_129 rfl rfl ?_
                refine V_bipush 104 d_Mod_natureNow_130 (by decide) ?_
                refine V_iconst 0 d_Mod_natureNow_132 (by decide) ?_
                refine V_iconst 0 d_Mod_natureNow_133 (by decide) ?_
                refine N_callVI [.int 104, .int 0, .int 0] [] cv_Mod_122 sk_116 rfl d_Mod_natureNow_134 rfl (Nat.le_of_ble_eq_true rfl) (by decide) (by decide) (c_Mod_ends h hI 104 104 tc_104 0 0 tc_0 0 0 tc_0) (fun z205 h206 z205Z z205E p207 => ?_)
                obtain ⟨eh206, p207⟩ := p207
                subst eh206
                refine V_if_eq 144 z205E d_Mod_natureNow_137 (by decide) (fun c208 => ?_) (fun c208 => ?_)
                ·
                  refine V_bipush (-4) d_Mod_natureNow_144 (by decide) ?_
                  exact V_iret rfl d_Mod_natureNow_146 ⟨(-4), rfl, ⟨rfl, (by (try rw [show Int32.toInt (-4) = (-4) from rfl]); omega)⟩⟩
                ·
                  refine V_iconst 4 d_Mod_natureNow_140 (by decide) ?_
                  refine V_goto 146 d_Mod_natureNow_141 (by decide) ?_
                  exact V_iret rfl d_Mod_natureNow_146 ⟨4, rfl, ⟨rfl, (by (try rw [show Int32.toInt 4 = 4 from rfl]); omega)⟩⟩
            ·
              refine V_aload_n 0 d_Mod_natureNow_98 rfl rfl ?_
              refine V_bipush 104 d_Mod_natureNow_99 (by decide) ?_
              refine V_bipush 101 d_Mod_natureNow_101 (by decide) ?_
              refine V_bipush 115 d_Mod_natureNow_103 (by decide) ?_
              refine N_callVI [.int 104, .int 101, .int 115] [] cv_Mod_122 sk_116 rfl d_Mod_natureNow_105 rfl (Nat.le_of_ble_eq_true rfl) (by decide) (by decide) (c_Mod_ends h hI 104 104 tc_104 101 101 tc_101 115 115 tc_115) (fun z209 h210 z209Z z209E p211 => ?_)
              obtain ⟨eh210, p211⟩ := p211
              subst eh210
              refine V_if_eq 115 z209E d_Mod_natureNow_108 (by decide) (fun c212 => ?_) (fun c212 => ?_)
              ·
                refine V_aload_n 0 d_Mod_natureNow_115 rfl rfl ?_
                refine V_iconst 4 d_Mod_natureNow_116 (by decide) ?_
                refine V_bipush 98 d_Mod_natureNow_117 (by decide) ?_
                refine V_bipush 111 d_Mod_natureNow_119 (by decide) ?_
                refine V_bipush 116 d_Mod_natureNow_121 (by decide) ?_
                refine N_callVI [.int 4, .int 98, .int 111, .int 116] [] cv_Mod_118 sk_116 rfl d_Mod_natureNow_123 rfl (Nat.le_of_ble_eq_true rfl) (by decide) (by decide) (c_Mod_is h hI 4 4 tc_4 98 98 tc_98 111 111 tc_111 116 116 tc_116) (fun z213 h214 z213Z z213E p215 => ?_)
                obtain ⟨eh214, p215⟩ := p215
                subst eh214
                refine V_if_eq 144 z213E d_Mod_natureNow_126 (by decide) (fun c216 => ?_) (fun c216 => ?_)
                ·
                  refine V_bipush (-4) d_Mod_natureNow_144 (by decide) ?_
                  exact V_iret rfl d_Mod_natureNow_146 ⟨(-4), rfl, ⟨rfl, (by (try rw [show Int32.toInt (-4) = (-4) from rfl]); omega)⟩⟩
                ·
                  refine V_aload_n 0 d_Mod_natureNow_129 rfl rfl ?_
                  refine V_bipush 104 d_Mod_natureNow_130 (by decide) ?_
                  refine V_iconst 0 d_Mod_natureNow_132 (by decide) ?_
                  refine V_iconst 0 d_Mod_natureNow_133 (by decide) ?_
                  refine N_callVI [.int 104, .int 0, .int 0] [] cv_Mod_122 sk_116 rfl d_Mod_natureNow_134 rfl (Nat.le_of_ble_eq_true rfl) (by decide) (by decide) (c_Mod_ends h hI 104 104 tc_104 0 0 tc_0 0 0 tc_0) (fun z217 h218 z217Z z217E p219 => ?_)
                  obtain ⟨eh218, p219⟩ := p219
                  subst eh218
                  refine V_if_eq 144 z217E d_Mod_natureNow_137 (by decide) (fun c220 => ?_) (fun c220 => ?_)
                  ·
                    refine V_bipush (-4) d_Mod_natureNow_144 (by decide) ?_
                    exact V_iret rfl d_Mod_natureNow_146 ⟨(-4), rfl, ⟨rfl, (by (try rw [show Int32.toInt (-4) = (-4) from rfl]); omega)⟩⟩
                  ·
                    refine V_iconst 4 d_Mod_natureNow_140 (by decide) ?_
                    refine V_goto 146 d_Mod_natureNow_141 (by decide) ?_
                    exact V_iret rfl d_Mod_natureNow_146 ⟨4, rfl, ⟨rfl, (by (try rw [show Int32.toInt 4 = 4 from rfl]); omega)⟩⟩
              ·
                refine V_iconst 3 d_Mod_natureNow_111 (by decide) ?_
                refine V_goto 146 d_Mod_natureNow_112 (by decide) ?_
                exact V_iret rfl d_Mod_natureNow_146 ⟨3, rfl, ⟨rfl, (by (try rw [show Int32.toInt 3 = 3 from rfl]); omega)⟩⟩
          ·
            refine V_aload_n 0 d_Mod_natureNow_69 rfl rfl ?_
            refine V_bipush 112 d_Mod_natureNow_70 (by decide) ?_
            refine V_bipush 115 d_Mod_natureNow_72 (by decide) ?_
            refine V_iconst 0 d_Mod_natureNow_74 (by decide) ?_
            refine N_callVI [.int 112, .int 115, .int 0] [] cv_Mod_122 sk_116 rfl d_Mod_natureNow_75 rfl (Nat.le_of_ble_eq_true rfl) (by decide) (by decide) (c_Mod_ends h hI 112 112 tc_112 115 115 tc_115 0 0 tc_0) (fun z221 h222 z221Z z221E p223 => ?_)
            obtain ⟨eh222, p223⟩ := p223
            subst eh222
            refine V_if_eq 83 z221E d_Mod_natureNow_78 (by decide) (fun c224 => ?_) (fun c224 => ?_)
            ·
              refine V_aload_n 0 d_Mod_natureNow_83 rfl rfl ?_
              refine V_bipush 6 d_Mod_natureNow_84 (by decide) ?_
              refine V_bipush 119 d_Mod_natureNow_86 (by decide) ?_
              refine V_bipush 105 d_Mod_natureNow_88 (by decide) ?_
              refine V_bipush 115 d_Mod_natureNow_90 (by decide) ?_
              refine N_callVI [.int 6, .int 119, .int 105, .int 115] [] cv_Mod_118 sk_116 rfl d_Mod_natureNow_92 rfl (Nat.le_of_ble_eq_true rfl) (by decide) (by decide) (c_Mod_is h hI 6 6 tc_6 119 119 tc_119 105 105 tc_105 115 115 tc_115) (fun z225 h226 z225Z z225E p227 => ?_)
              obtain ⟨eh226, p227⟩ := p227
              subst eh226
              refine V_if_eq 115 z225E d_Mod_natureNow_95 (by decide) (fun c228 => ?_) (fun c228 => ?_)
              ·
                refine V_aload_n 0 d_Mod_natureNow_115 rfl rfl ?_
                refine V_iconst 4 d_Mod_natureNow_116 (by decide) ?_
                refine V_bipush 98 d_Mod_natureNow_117 (by decide) ?_
                refine V_bipush 111 d_Mod_natureNow_119 (by decide) ?_
                refine V_bipush 116 d_Mod_natureNow_121 (by decide) ?_
                refine N_callVI [.int 4, .int 98, .int 111, .int 116] [] cv_Mod_118 sk_116 rfl d_Mod_natureNow_123 rfl (Nat.le_of_ble_eq_true rfl) (by decide) (by decide) (c_Mod_is h hI 4 4 tc_4 98 98 tc_98 111 111 tc_111 116 116 tc_116) (fun z229 h230 z229Z z229E p231 => ?_)
                obtain ⟨eh230, p231⟩ := p231
                subst eh230
                refine V_if_eq 144 z229E d_Mod_natureNow_126 (by decide) (fun c232 => ?_) (fun c232 => ?_)
                ·
                  refine V_bipush (-4) d_Mod_natureNow_144 (by decide) ?_
                  exact V_iret rfl d_Mod_natureNow_146 ⟨(-4), rfl, ⟨rfl, (by (try rw [show Int32.toInt (-4) = (-4) from rfl]); omega)⟩⟩
                ·
                  refine V_aload_n 0 d_Mod_natureNow_129 rfl rfl ?_
                  refine V_bipush 104 d_Mod_natureNow_130 (by decide) ?_
                  refine V_iconst 0 d_Mod_natureNow_132 (by decide) ?_
                  refine V_iconst 0 d_Mod_natureNow_133 (by decide) ?_
                  refine N_callVI [.int 104, .int 0, .int 0] [] cv_Mod_122 sk_116 rfl d_Mod_natureNow_134 rfl (Nat.le_of_ble_eq_true rfl) (by decide) (by decide) (c_Mod_ends h hI 104 104 tc_104 0 0 tc_0 0 0 tc_0) (fun z233 h234 z233Z z233E p235 => ?_)
                  obtain ⟨eh234, p235⟩ := p235
                  subst eh234
                  refine V_if_eq 144 z233E d_Mod_natureNow_137 (by decide) (fun c236 => ?_) (fun c236 => ?_)
                  ·
                    refine V_bipush (-4) d_Mod_natureNow_144 (by decide) ?_
                    exact V_iret rfl d_Mod_natureNow_146 ⟨(-4), rfl, ⟨rfl, (by (try rw [show Int32.toInt (-4) = (-4) from rfl]); omega)⟩⟩
                  ·
                    refine V_iconst 4 d_Mod_natureNow_140 (by decide) ?_
                    refine V_goto 146 d_Mod_natureNow_141 (by decide) ?_
                    exact V_iret rfl d_Mod_natureNow_146 ⟨4, rfl, ⟨rfl, (by (try rw [show Int32.toInt 4 = 4 from rfl]); omega)⟩⟩
              ·
                refine V_aload_n 0 d_Mod_natureNow_98 rfl rfl ?_
                refine V_bipush 104 d_Mod_natureNow_99 (by decide) ?_
                refine V_bipush 101 d_Mod_natureNow_101 (by decide) ?_
                refine V_bipush 115 d_Mod_natureNow_103 (by decide) ?_
                refine N_callVI [.int 104, .int 101, .int 115] [] cv_Mod_122 sk_116 rfl d_Mod_natureNow_105 rfl (Nat.le_of_ble_eq_true rfl) (by decide) (by decide) (c_Mod_ends h hI 104 104 tc_104 101 101 tc_101 115 115 tc_115) (fun z237 h238 z237Z z237E p239 => ?_)
                obtain ⟨eh238, p239⟩ := p239
                subst eh238
                refine V_if_eq 115 z237E d_Mod_natureNow_108 (by decide) (fun c240 => ?_) (fun c240 => ?_)
                ·
                  refine V_aload_n 0 d_Mod_natureNow_115 rfl rfl ?_
                  refine V_iconst 4 d_Mod_natureNow_116 (by decide) ?_
                  refine V_bipush 98 d_Mod_natureNow_117 (by decide) ?_
                  refine V_bipush 111 d_Mod_natureNow_119 (by decide) ?_
                  refine V_bipush 116 d_Mod_natureNow_121 (by decide) ?_
                  refine N_callVI [.int 4, .int 98, .int 111, .int 116] [] cv_Mod_118 sk_116 rfl d_Mod_natureNow_123 rfl (Nat.le_of_ble_eq_true rfl) (by decide) (by decide) (c_Mod_is h hI 4 4 tc_4 98 98 tc_98 111 111 tc_111 116 116 tc_116) (fun z241 h242 z241Z z241E p243 => ?_)
                  obtain ⟨eh242, p243⟩ := p243
                  subst eh242
                  refine V_if_eq 144 z241E d_Mod_natureNow_126 (by decide) (fun c244 => ?_) (fun c244 => ?_)
                  ·
                    refine V_bipush (-4) d_Mod_natureNow_144 (by decide) ?_
                    exact V_iret rfl d_Mod_natureNow_146 ⟨(-4), rfl, ⟨rfl, (by (try rw [show Int32.toInt (-4) = (-4) from rfl]); omega)⟩⟩
                  ·
                    refine V_aload_n 0 d_Mod_natureNow_129 rfl rfl ?_
                    refine V_bipush 104 d_Mod_natureNow_130 (by decide) ?_
                    refine V_iconst 0 d_Mod_natureNow_132 (by decide) ?_
                    refine V_iconst 0 d_Mod_natureNow_133 (by decide) ?_
                    refine N_callVI [.int 104, .int 0, .int 0] [] cv_Mod_122 sk_116 rfl d_Mod_natureNow_134 rfl (Nat.le_of_ble_eq_true rfl) (by decide) (by decide) (c_Mod_ends h hI 104 104 tc_104 0 0 tc_0 0 0 tc_0) (fun z245 h246 z245Z z245E p247 => ?_)
                    obtain ⟨eh246, p247⟩ := p247
                    subst eh246
                    refine V_if_eq 144 z245E d_Mod_natureNow_137 (by decide) (fun c248 => ?_) (fun c248 => ?_)
                    ·
                      refine V_bipush (-4) d_Mod_natureNow_144 (by decide) ?_
                      exact V_iret rfl d_Mod_natureNow_146 ⟨(-4), rfl, ⟨rfl, (by (try rw [show Int32.toInt (-4) = (-4) from rfl]); omega)⟩⟩
                    ·
                      refine V_iconst 4 d_Mod_natureNow_140 (by decide) ?_
                      refine V_goto 146 d_Mod_natureNow_141 (by decide) ?_
                      exact V_iret rfl d_Mod_natureNow_146 ⟨4, rfl, ⟨rfl, (by (try rw [show Int32.toInt 4 = 4 from rfl]); omega)⟩⟩
                ·
                  refine V_iconst 3 d_Mod_natureNow_111 (by decide) ?_
                  refine V_goto 146 d_Mod_natureNow_112 (by decide) ?_
                  exact V_iret rfl d_Mod_natureNow_146 ⟨3, rfl, ⟨rfl, (by (try rw [show Int32.toInt 3 = 3 from rfl]); omega)⟩⟩
            ·
              refine V_iconst 2 d_Mod_natureNow_81 (by decide) ?_
              exact V_iret rfl d_Mod_natureNow_82 ⟨2, rfl, ⟨rfl, (by (try rw [show Int32.toInt 2 = 2 from rfl]); omega)⟩⟩
        ·
          refine V_iconst 1 d_Mod_natureNow_53 (by decide) ?_
          exact V_iret rfl d_Mod_natureNow_54 ⟨1, rfl, ⟨rfl, (by (try rw [show Int32.toInt 1 = 1 from rfl]); omega)⟩⟩
    ·
      refine V_iconst 0 d_Mod_natureNow_26 (by decide) ?_
      exact V_iret rfl d_Mod_natureNow_27 ⟨0, rfl, ⟨rfl, (by (try rw [show Int32.toInt 0 = 0 from rfl]); omega)⟩⟩
theorem d_Mod_next_0 : decode b_Mod_next 0 = .ok (.aload_n 0, 1) := by decide +kernel
theorem d_Mod_next_1 : decode b_Mod_next 1 = .ok (.getfield 102, 3) := by decide +kernel
theorem d_Mod_next_4 : decode b_Mod_next 4 = .ok (.ifCond .le 4, 3) := by decide +kernel
theorem d_Mod_next_7 : decode b_Mod_next 7 = .ok (.return_, 1) := by decide +kernel
theorem d_Mod_next_8 : decode b_Mod_next 8 = .ok (.aload_n 0, 1) := by decide +kernel
theorem d_Mod_next_9 : decode b_Mod_next 9 = .ok (.aload_n 0, 1) := by decide +kernel
theorem d_Mod_next_10 : decode b_Mod_next 10 = .ok (.getfield 111, 3) := by decide +kernel
theorem d_Mod_next_13 : decode b_Mod_next 13 = .ok (.invokevirtual 114, 3) := by decide +kernel
theorem d_Mod_next_16 : decode b_Mod_next 16 = .ok (.bipush 32, 2) := by decide +kernel
theorem d_Mod_next_18 : decode b_Mod_next 18 = .ok (.if_icmp .ne 16, 3) := by decide +kernel
theorem d_Mod_next_21 : decode b_Mod_next 21 = .ok (.aload_n 0, 1) := by decide +kernel
theorem d_Mod_next_22 : decode b_Mod_next 22 = .ok (.dup, 1) := by decide +kernel
theorem d_Mod_next_23 : decode b_Mod_next 23 = .ok (.getfield 111, 3) := by decide +kernel
theorem d_Mod_next_26 : decode b_Mod_next 26 = .ok (.iconst 1, 1) := by decide +kernel
theorem d_Mod_next_27 : decode b_Mod_next 27 = .ok (.iadd, 1) := by decide +kernel
theorem d_Mod_next_28 : decode b_Mod_next 28 = .ok (.putfield 111, 3) := by decide +kernel
theorem d_Mod_next_31 : decode b_Mod_next 31 = .ok (.goto (-23), 3) := by decide +kernel
theorem d_Mod_next_34 : decode b_Mod_next 34 = .ok (.aload_n 0, 1) := by decide +kernel
theorem d_Mod_next_35 : decode b_Mod_next 35 = .ok (.aload_n 0, 1) := by decide +kernel
theorem d_Mod_next_36 : decode b_Mod_next 36 = .ok (.getfield 111, 3) := by decide +kernel
theorem d_Mod_next_39 : decode b_Mod_next 39 = .ok (.putfield 105, 3) := by decide +kernel
theorem d_Mod_next_42 : decode b_Mod_next 42 = .ok (.aload_n 0, 1) := by decide +kernel
theorem d_Mod_next_43 : decode b_Mod_next 43 = .ok (.aload_n 0, 1) := by decide +kernel
theorem d_Mod_next_44 : decode b_Mod_next 44 = .ok (.getfield 111, 3) := by decide +kernel
theorem d_Mod_next_47 : decode b_Mod_next 47 = .ok (.invokevirtual 114, 3) := by decide +kernel
theorem d_Mod_next_50 : decode b_Mod_next 50 = .ok (.istore_n 1, 1) := by decide +kernel
theorem d_Mod_next_51 : decode b_Mod_next 51 = .ok (.iload_n 1, 1) := by decide +kernel
theorem d_Mod_next_52 : decode b_Mod_next 52 = .ok (.ifCond .ge 11, 3) := by decide +kernel
theorem d_Mod_next_55 : decode b_Mod_next 55 = .ok (.aload_n 0, 1) := by decide +kernel
theorem d_Mod_next_56 : decode b_Mod_next 56 = .ok (.iconst 0, 1) := by decide +kernel
theorem d_Mod_next_57 : decode b_Mod_next 57 = .ok (.putfield 130, 3) := by decide +kernel
theorem d_Mod_next_60 : decode b_Mod_next 60 = .ok (.goto 214, 3) := by decide +kernel
theorem d_Mod_next_63 : decode b_Mod_next 63 = .ok (.iload_n 1, 1) := by decide +kernel
theorem d_Mod_next_64 : decode b_Mod_next 64 = .ok (.i2l, 1) := by decide +kernel
theorem d_Mod_next_65 : decode b_Mod_next 65 = .ok (.ldc2_w 133, 3) := by decide +kernel
theorem d_Mod_next_68 : decode b_Mod_next 68 = .ok (.ldc2_w 135, 3) := by decide +kernel
theorem d_Mod_next_71 : decode b_Mod_next 71 = .ok (.invokestatic 95, 3) := by decide +kernel
theorem d_Mod_next_74 : decode b_Mod_next 74 = .ok (.ifCond .eq 42, 3) := by decide +kernel
theorem d_Mod_next_77 : decode b_Mod_next 77 = .ok (.aload_n 0, 1) := by decide +kernel
theorem d_Mod_next_78 : decode b_Mod_next 78 = .ok (.iconst 1, 1) := by decide +kernel
theorem d_Mod_next_79 : decode b_Mod_next 79 = .ok (.putfield 130, 3) := by decide +kernel
theorem d_Mod_next_82 : decode b_Mod_next 82 = .ok (.aload_n 0, 1) := by decide +kernel
theorem d_Mod_next_83 : decode b_Mod_next 83 = .ok (.aload_n 0, 1) := by decide +kernel
theorem d_Mod_next_84 : decode b_Mod_next 84 = .ok (.getfield 111, 3) := by decide +kernel
theorem d_Mod_next_87 : decode b_Mod_next 87 = .ok (.invokevirtual 114, 3) := by decide +kernel
theorem d_Mod_next_90 : decode b_Mod_next 90 = .ok (.i2l, 1) := by decide +kernel
theorem d_Mod_next_91 : decode b_Mod_next 91 = .ok (.ldc2_w 133, 3) := by decide +kernel
theorem d_Mod_next_94 : decode b_Mod_next 94 = .ok (.ldc2_w 135, 3) := by decide +kernel
theorem d_Mod_next_97 : decode b_Mod_next 97 = .ok (.invokestatic 95, 3) := by decide +kernel
theorem d_Mod_next_100 : decode b_Mod_next 100 = .ok (.ifCond .eq 174, 3) := by decide +kernel
theorem d_Mod_next_103 : decode b_Mod_next 103 = .ok (.aload_n 0, 1) := by decide +kernel
theorem d_Mod_next_104 : decode b_Mod_next 104 = .ok (.dup, 1) := by decide +kernel
theorem d_Mod_next_105 : decode b_Mod_next 105 = .ok (.getfield 111, 3) := by decide +kernel
theorem d_Mod_next_108 : decode b_Mod_next 108 = .ok (.iconst 1, 1) := by decide +kernel
theorem d_Mod_next_109 : decode b_Mod_next 109 = .ok (.iadd, 1) := by decide +kernel
theorem d_Mod_next_110 : decode b_Mod_next 110 = .ok (.putfield 111, 3) := by decide +kernel
theorem d_Mod_next_113 : decode b_Mod_next 113 = .ok (.goto (-31), 3) := by decide +kernel
theorem d_Mod_next_116 : decode b_Mod_next 116 = .ok (.iload_n 1, 1) := by decide +kernel
theorem d_Mod_next_117 : decode b_Mod_next 117 = .ok (.i2l, 1) := by decide +kernel
theorem d_Mod_next_118 : decode b_Mod_next 118 = .ok (.ldc2_w 137, 3) := by decide +kernel
theorem d_Mod_next_121 : decode b_Mod_next 121 = .ok (.ldc2_w 139, 3) := by decide +kernel
theorem d_Mod_next_124 : decode b_Mod_next 124 = .ok (.invokestatic 95, 3) := by decide +kernel
theorem d_Mod_next_127 : decode b_Mod_next 127 = .ok (.ifCond .eq 116, 3) := by decide +kernel
theorem d_Mod_next_130 : decode b_Mod_next 130 = .ok (.aload_n 0, 1) := by decide +kernel
theorem d_Mod_next_131 : decode b_Mod_next 131 = .ok (.iconst 2, 1) := by decide +kernel
theorem d_Mod_next_132 : decode b_Mod_next 132 = .ok (.putfield 130, 3) := by decide +kernel
theorem d_Mod_next_135 : decode b_Mod_next 135 = .ok (.aload_n 0, 1) := by decide +kernel
theorem d_Mod_next_136 : decode b_Mod_next 136 = .ok (.iconst 0, 1) := by decide +kernel
theorem d_Mod_next_137 : decode b_Mod_next 137 = .ok (.putfield 141, 3) := by decide +kernel
theorem d_Mod_next_140 : decode b_Mod_next 140 = .ok (.aload_n 0, 1) := by decide +kernel
theorem d_Mod_next_141 : decode b_Mod_next 141 = .ok (.aload_n 0, 1) := by decide +kernel
theorem d_Mod_next_142 : decode b_Mod_next 142 = .ok (.getfield 111, 3) := by decide +kernel
theorem d_Mod_next_145 : decode b_Mod_next 145 = .ok (.invokevirtual 114, 3) := by decide +kernel
theorem d_Mod_next_148 : decode b_Mod_next 148 = .ok (.i2l, 1) := by decide +kernel
theorem d_Mod_next_149 : decode b_Mod_next 149 = .ok (.ldc2_w 137, 3) := by decide +kernel
theorem d_Mod_next_152 : decode b_Mod_next 152 = .ok (.ldc2_w 139, 3) := by decide +kernel
theorem d_Mod_next_155 : decode b_Mod_next 155 = .ok (.invokestatic 95, 3) := by decide +kernel
theorem d_Mod_next_158 : decode b_Mod_next 158 = .ok (.ifCond .eq 59, 3) := by decide +kernel
theorem d_Mod_next_161 : decode b_Mod_next 161 = .ok (.aload_n 0, 1) := by decide +kernel
theorem d_Mod_next_162 : decode b_Mod_next 162 = .ok (.aload_n 0, 1) := by decide +kernel
theorem d_Mod_next_163 : decode b_Mod_next 163 = .ok (.getfield 111, 3) := by decide +kernel
theorem d_Mod_next_166 : decode b_Mod_next 166 = .ok (.aload_n 0, 1) := by decide +kernel
theorem d_Mod_next_167 : decode b_Mod_next 167 = .ok (.getfield 105, 3) := by decide +kernel
theorem d_Mod_next_170 : decode b_Mod_next 170 = .ok (.isub, 1) := by decide +kernel
theorem d_Mod_next_171 : decode b_Mod_next 171 = .ok (.iconst 2, 1) := by decide +kernel
theorem d_Mod_next_172 : decode b_Mod_next 172 = .ok (.if_icmp .ge 25, 3) := by decide +kernel
theorem d_Mod_next_175 : decode b_Mod_next 175 = .ok (.bipush 10, 2) := by decide +kernel
theorem d_Mod_next_177 : decode b_Mod_next 177 = .ok (.aload_n 0, 1) := by decide +kernel
theorem d_Mod_next_178 : decode b_Mod_next 178 = .ok (.getfield 141, 3) := by decide +kernel
theorem d_Mod_next_181 : decode b_Mod_next 181 = .ok (.imul, 1) := by decide +kernel
theorem d_Mod_next_182 : decode b_Mod_next 182 = .ok (.aload_n 0, 1) := by decide +kernel
theorem d_Mod_next_183 : decode b_Mod_next 183 = .ok (.aload_n 0, 1) := by decide +kernel
theorem d_Mod_next_184 : decode b_Mod_next 184 = .ok (.getfield 111, 3) := by decide +kernel
theorem d_Mod_next_187 : decode b_Mod_next 187 = .ok (.invokevirtual 114, 3) := by decide +kernel
theorem d_Mod_next_190 : decode b_Mod_next 190 = .ok (.iadd, 1) := by decide +kernel
theorem d_Mod_next_191 : decode b_Mod_next 191 = .ok (.bipush 48, 2) := by decide +kernel
theorem d_Mod_next_193 : decode b_Mod_next 193 = .ok (.isub, 1) := by decide +kernel
theorem d_Mod_next_194 : decode b_Mod_next 194 = .ok (.goto 7, 3) := by decide +kernel
theorem d_Mod_next_197 : decode b_Mod_next 197 = .ok (.aload_n 0, 1) := by decide +kernel
theorem d_Mod_next_198 : decode b_Mod_next 198 = .ok (.getfield 141, 3) := by decide +kernel
theorem d_Mod_next_201 : decode b_Mod_next 201 = .ok (.putfield 141, 3) := by decide +kernel
theorem d_Mod_next_204 : decode b_Mod_next 204 = .ok (.aload_n 0, 1) := by decide +kernel
theorem d_Mod_next_205 : decode b_Mod_next 205 = .ok (.dup, 1) := by decide +kernel
theorem d_Mod_next_206 : decode b_Mod_next 206 = .ok (.getfield 111, 3) := by decide +kernel
theorem d_Mod_next_209 : decode b_Mod_next 209 = .ok (.iconst 1, 1) := by decide +kernel
theorem d_Mod_next_210 : decode b_Mod_next 210 = .ok (.iadd, 1) := by decide +kernel
theorem d_Mod_next_211 : decode b_Mod_next 211 = .ok (.putfield 111, 3) := by decide +kernel
theorem d_Mod_next_214 : decode b_Mod_next 214 = .ok (.goto (-74), 3) := by decide +kernel
theorem d_Mod_next_217 : decode b_Mod_next 217 = .ok (.aload_n 0, 1) := by decide +kernel
theorem d_Mod_next_218 : decode b_Mod_next 218 = .ok (.aload_n 0, 1) := by decide +kernel
theorem d_Mod_next_219 : decode b_Mod_next 219 = .ok (.getfield 111, 3) := by decide +kernel
theorem d_Mod_next_222 : decode b_Mod_next 222 = .ok (.aload_n 0, 1) := by decide +kernel
theorem d_Mod_next_223 : decode b_Mod_next 223 = .ok (.getfield 105, 3) := by decide +kernel
theorem d_Mod_next_226 : decode b_Mod_next 226 = .ok (.isub, 1) := by decide +kernel
theorem d_Mod_next_227 : decode b_Mod_next 227 = .ok (.iconst 2, 1) := by decide +kernel
theorem d_Mod_next_228 : decode b_Mod_next 228 = .ok (.if_icmp .gt 7, 3) := by decide +kernel
theorem d_Mod_next_231 : decode b_Mod_next 231 = .ok (.iconst 1, 1) := by decide +kernel
theorem d_Mod_next_232 : decode b_Mod_next 232 = .ok (.goto 4, 3) := by decide +kernel
theorem d_Mod_next_235 : decode b_Mod_next 235 = .ok (.iconst 0, 1) := by decide +kernel
theorem d_Mod_next_236 : decode b_Mod_next 236 = .ok (.iconst 1, 1) := by decide +kernel
theorem d_Mod_next_237 : decode b_Mod_next 237 = .ok (.invokevirtual 144, 3) := by decide +kernel
theorem d_Mod_next_240 : decode b_Mod_next 240 = .ok (.goto 34, 3) := by decide +kernel
theorem d_Mod_next_243 : decode b_Mod_next 243 = .ok (.aload_n 0, 1) := by decide +kernel
theorem d_Mod_next_244 : decode b_Mod_next 244 = .ok (.iconst 3, 1) := by decide +kernel
theorem d_Mod_next_245 : decode b_Mod_next 245 = .ok (.putfield 130, 3) := by decide +kernel
theorem d_Mod_next_248 : decode b_Mod_next 248 = .ok (.aload_n 0, 1) := by decide +kernel
theorem d_Mod_next_249 : decode b_Mod_next 249 = .ok (.iload_n 1, 1) := by decide +kernel
theorem d_Mod_next_250 : decode b_Mod_next 250 = .ok (.bipush 59, 2) := by decide +kernel
theorem d_Mod_next_252 : decode b_Mod_next 252 = .ok (.if_icmp .ne 7, 3) := by decide +kernel
theorem d_Mod_next_255 : decode b_Mod_next 255 = .ok (.iconst 1, 1) := by decide +kernel
theorem d_Mod_next_256 : decode b_Mod_next 256 = .ok (.goto 4, 3) := by decide +kernel
theorem d_Mod_next_259 : decode b_Mod_next 259 = .ok (.iconst 0, 1) := by decide +kernel
theorem d_Mod_next_260 : decode b_Mod_next 260 = .ok (.iconst 1, 1) := by decide +kernel
theorem d_Mod_next_261 : decode b_Mod_next 261 = .ok (.invokevirtual 144, 3) := by decide +kernel
theorem d_Mod_next_264 : decode b_Mod_next 264 = .ok (.aload_n 0, 1) := by decide +kernel
theorem d_Mod_next_265 : decode b_Mod_next 265 = .ok (.dup, 1) := by decide +kernel
theorem d_Mod_next_266 : decode b_Mod_next 266 = .ok (.getfield 111, 3) := by decide +kernel
theorem d_Mod_next_269 : decode b_Mod_next 269 = .ok (.iconst 1, 1) := by decide +kernel
theorem d_Mod_next_270 : decode b_Mod_next 270 = .ok (.iadd, 1) := by decide +kernel
theorem d_Mod_next_271 : decode b_Mod_next 271 = .ok (.putfield 111, 3) := by decide +kernel
theorem d_Mod_next_274 : decode b_Mod_next 274 = .ok (.return_, 1) := by decide +kernel
def S_Mod_next : List (Nat × Option Nat) := [(116, some 16), (116, some 17), (116, some 18), (116, some 19), (116, some 20), (116, some 21)]
abbrev q_Mod_next (h : Hp) (t : Int32) (tZ : Int) (p : Int32) (pZ : Int) (f : Int32) (fZ : Int) : Option Value → Hp → Prop := pVd (fun h' => Inv h' ∧ fr S_Mod_next h h' ∧ ∃ (q : Int32) (qZ : Int), q.toInt = qZ ∧ h'.1 116 16 = q ∧ ∃ (u : Int32) (uZ : Int), u.toInt = uZ ∧ h'.1 116 20 = u ∧ ∃ (s : Int32) (sZ : Int), s.toInt = sZ ∧ h'.1 116 18 = s ∧ ((fZ = 0 ∨ uZ ≠ 0) ∧ 0 ≤ uZ ∧ pZ ≤ qZ ∧ (uZ ≠ 0 ∨ sZ ≠ 3 ∨ pZ + 1 ≤ qZ)))
set_option maxRecDepth 100000 in
theorem c_Mod_next (h : Hp) (hI : Inv h) (t : Int32) (tZ : Int) (tE : t.toInt = tZ) (tK : h.1 116 15 = t) (p : Int32) (pZ : Int) (pE : p.toInt = pZ) (pK : h.1 116 16 = p) (f : Int32) (fZ : Int) (fE : f.toInt = fZ) (fK : h.1 116 20 = f) (hy0 : 0 ≤ fZ) : Ct y_Mod_next b_Mod_next 2 none 1 25 [.ref 116] h (q_Mod_next h t tZ p pZ f fZ) := by
  refine ct_ow R_Mod [some (.ref 116), none] rfl (by decide) rfl (Nat.le_of_ble_eq_true rfl) ?_
  have f0 : fr S_Mod_next h h := fr_rf
  have g1 : 0 ≤ tZ ∧ tZ ≤ 160 := inv_at hI tE tK.symm rfl
  have g2 : 0 ≤ pZ ∧ pZ ≤ 160 := inv_at hI pE pK.symm rfl
  refine V_aload_n 0 d_Mod_next_0 rfl rfl ?_
  refine N_getK fa_Mod_102 sk_116 rfl d_Mod_next_1 fK ?_
  refine V_if_le 8 fE d_Mod_next_4 (by decide) (fun c3 => ?_) (fun c3 => ?_)
  ·
    have L4 : ∀ (nn : Nat) (h6 : Hp) (v9 : Int32) (v9Z : Int), Inv h6 → fr S_Mod_next h h6 → h6.1 116 15 = t → h6.1 116 20 = f → v9.toInt = v9Z → h6.1 116 16 = v9 → pZ ≤ v9Z ∧ v9Z ≤ 160 → 160 - v9Z < (nn : Int) → V R_Mod b_Mod_next 2 none 1 25 (q_Mod_next h t tZ p pZ f fZ) h6 8 [some (.ref 116), none] [] := by
      intro nn
      induction nn with
      | zero => intro h6 v9 v9Z Ih6 Fh6 K7 K8 v9E K10 q11 hm12; exact absurd hm12 (by omega)
      | succ nn ihL4 =>
        intro h6 v9 v9Z Ih6 Fh6 K7 K8 v9E K10 q11 hm12
        have g13 : 0 ≤ v9Z ∧ v9Z ≤ 160 := inv_at Ih6 v9E K10.symm rfl
        refine V_aload_n 0 d_Mod_next_8 rfl rfl ?_
        refine V_aload_n 0 d_Mod_next_9 rfl rfl ?_
        refine N_getK fa_Mod_111 sk_116 rfl d_Mod_next_10 K10 ?_
        refine N_callVI [.int v9] [] cv_Mod_114 sk_116 rfl d_Mod_next_13 rfl (Nat.le_of_ble_eq_true rfl) (by decide) (by decide) (c_Mod_look h6 Ih6 v9 v9Z v9E t tZ tE K7 (by omega)) (fun z14 h15 z14Z z14E p16 => ?_)
        obtain ⟨eh15, p16⟩ := p16
        subst eh15
        refine V_bipush 32 d_Mod_next_16 (by decide) ?_
        refine V_icmp_ne 34 z14E tc_32 d_Mod_next_18 (by decide) (fun c17 => ?_) (fun c17 => ?_)
        ·
          refine V_aload_n 0 d_Mod_next_34 rfl rfl ?_
          refine V_aload_n 0 d_Mod_next_35 rfl rfl ?_
          refine N_getK fa_Mod_111 sk_116 rfl d_Mod_next_36 K10 ?_
          refine N_putI fp_Mod_105 sk_116 rfl d_Mod_next_39 (fun h18 eh18 => ?_)
          have hI19 : Inv h18 := inv_put (lo := 0) (hi := 160) Ih6 eh18 rfl v9E (by omega)
          have f20 : fr S_Mod_next h h18 := fr_put Fh6 eh18 rfl
          refine V_aload_n 0 d_Mod_next_42 rfl rfl ?_
          refine V_aload_n 0 d_Mod_next_43 rfl rfl ?_
          refine N_getK fa_Mod_111 sk_116 rfl d_Mod_next_44 (kn_nei eh18 K10 (by decide)) ?_
          refine N_callVI [.int v9] [] cv_Mod_114 sk_116 rfl d_Mod_next_47 rfl (Nat.le_of_ble_eq_true rfl) (by decide) (by decide) (c_Mod_look h18 hI19 v9 v9Z v9E t tZ tE (kn_nei eh18 K7 (by decide)) (by omega)) (fun z21 h22 z21Z z21E p23 => ?_)
          obtain ⟨eh22, p23⟩ := p23
          subst eh22
          refine V_istore_n 1 [some (.ref 116), some (.int z21)] d_Mod_next_50 rfl (by decide) rfl rfl ?_
          refine V_iload_n 1 d_Mod_next_51 rfl rfl ?_
          refine V_if_ge 63 z21E d_Mod_next_52 (by decide) (fun c24 => ?_) (fun c24 => ?_)
          ·
            refine V_iload_n 1 d_Mod_next_63 rfl rfl ?_
            refine V_i2l d_Mod_next_64 (fun z25 z25e z25E => ?_)
            have z25F : z25.toInt = z21Z := z25E.trans z21E
            refine V_ldc2 d_Mod_next_65 wl_Mod_133 ?_
            refine V_ldc2 d_Mod_next_68 wl_Mod_135 ?_
            refine N_callSI [.long z25, .long 97, .long 122] [] cs_Mod_95 d_Mod_next_71 rfl (Nat.le_of_ble_eq_true rfl) (by decide) (by decide) (c_Mod_in h18 z25 z21Z z25F 97 97 tl_97 122 122 tl_122) (fun z26 h27 z26Z z26E p28 => ?_)
            obtain ⟨eh27, p28⟩ := p28
            subst eh27
            refine V_if_eq 116 z26E d_Mod_next_74 (by decide) (fun c29 => ?_) (fun c29 => ?_)
            ·
              refine V_iload_n 1 d_Mod_next_116 rfl rfl ?_
              refine V_i2l d_Mod_next_117 (fun z30 z30e z30E => ?_)
              have z30F : z30.toInt = z21Z := z30E.trans z21E
              refine V_ldc2 d_Mod_next_118 wl_Mod_137 ?_
              refine V_ldc2 d_Mod_next_121 wl_Mod_139 ?_
              refine N_callSI [.long z30, .long 48, .long 57] [] cs_Mod_95 d_Mod_next_124 rfl (Nat.le_of_ble_eq_true rfl) (by decide) (by decide) (c_Mod_in h18 z30 z21Z z30F 48 48 tl_48 57 57 tl_57) (fun z31 h32 z31Z z31E p33 => ?_)
              obtain ⟨eh32, p33⟩ := p33
              subst eh32
              refine V_if_eq 243 z31E d_Mod_next_127 (by decide) (fun c34 => ?_) (fun c34 => ?_)
              ·
                refine V_aload_n 0 d_Mod_next_243 rfl rfl ?_
                refine V_iconst 3 d_Mod_next_244 (by decide) ?_
                refine N_putI fp_Mod_130 sk_116 rfl d_Mod_next_245 (fun h35 eh35 => ?_)
                have hI36 : Inv h35 := inv_full hI19 eh35 rfl
                have f37 : fr S_Mod_next h h35 := fr_put f20 eh35 rfl
                refine V_aload_n 0 d_Mod_next_248 rfl rfl ?_
                refine V_iload_n 1 d_Mod_next_249 rfl rfl ?_
                refine V_bipush 59 d_Mod_next_250 (by decide) ?_
                refine V_icmp_ne 259 z21E tc_59 d_Mod_next_252 (by decide) (fun c38 => ?_) (fun c38 => ?_)
                ·
                  refine V_iconst 0 d_Mod_next_259 (by decide) ?_
                  refine V_iconst 1 d_Mod_next_260 (by decide) ?_
                  refine N_callVV [.int 0, .int 1] [] cv_Mod_144 sk_116 rfl d_Mod_next_261 rfl (Nat.le_of_ble_eq_true rfl) (by decide) (by decide) (c_Mod_needs h35 hI36 0 0 tc_0 1 1 tc_1 f fZ fE (kn_nei eh35 (kn_nei eh18 K8 (by decide)) (by decide))) (fun h40 p41 => ?_)
                  obtain ⟨hI42, fh40, o44, o44Z, o44E, o44K, p41⟩ := p41
                  have f43 : fr S_Mod_next h h40 := fr_call f37 fh40 rfl
                  refine V_aload_n 0 d_Mod_next_264 rfl rfl ?_
                  refine V_dup d_Mod_next_265 rfl ?_
                  refine N_getK fa_Mod_111 sk_116 rfl d_Mod_next_266 (kn_call fh40 (kn_nei eh35 (kn_nei eh18 K10 (by decide)) (by decide)) rfl) ?_
                  refine V_iconst 1 d_Mod_next_269 (by decide) ?_
                  refine V_iadd v9E tc_1 (by omega) d_Mod_next_270 (fun z45 z45e z45E => ?_)
                  refine N_putI fp_Mod_111 sk_116 rfl d_Mod_next_271 (fun h46 eh46 => ?_)
                  have hI47 : Inv h46 := inv_put (lo := 0) (hi := 160) hI42 eh46 rfl z45E (by omega)
                  have f48 : fr S_Mod_next h h46 := fr_put f43 eh46 rfl
                  exact V_vret rfl d_Mod_next_274 ⟨rfl, ⟨hI47, f48, z45, (v9Z + 1), z45E, (kn_put eh46), o44, o44Z, o44E, (kn_nei eh46 o44K (by decide)), 3, 3, tc_3, (kn_nei eh46 (kn_call fh40 (kn_put eh35) rfl) (by decide)), (by omega)⟩⟩
                ·
                  refine V_iconst 1 d_Mod_next_255 (by decide) ?_
                  refine V_goto 260 d_Mod_next_256 (by decide) ?_
                  refine V_iconst 1 d_Mod_next_260 (by decide) ?_
                  refine N_callVV [.int 1, .int 1] [] cv_Mod_144 sk_116 rfl d_Mod_next_261 rfl (Nat.le_of_ble_eq_true rfl) (by decide) (by decide) (c_Mod_needs h35 hI36 1 1 tc_1 1 1 tc_1 f fZ fE (kn_nei eh35 (kn_nei eh18 K8 (by decide)) (by decide))) (fun h50 p51 => ?_)
                  obtain ⟨hI52, fh50, o54, o54Z, o54E, o54K, p51⟩ := p51
                  have f53 : fr S_Mod_next h h50 := fr_call f37 fh50 rfl
                  refine V_aload_n 0 d_Mod_next_264 rfl rfl ?_
                  refine V_dup d_Mod_next_265 rfl ?_
                  refine N_getK fa_Mod_111 sk_116 rfl d_Mod_next_266 (kn_call fh50 (kn_nei eh35 (kn_nei eh18 K10 (by decide)) (by decide)) rfl) ?_
                  refine V_iconst 1 d_Mod_next_269 (by decide) ?_
                  refine V_iadd v9E tc_1 (by omega) d_Mod_next_270 (fun z55 z55e z55E => ?_)
                  refine N_putI fp_Mod_111 sk_116 rfl d_Mod_next_271 (fun h56 eh56 => ?_)
                  have hI57 : Inv h56 := inv_put (lo := 0) (hi := 160) hI52 eh56 rfl z55E (by omega)
                  have f58 : fr S_Mod_next h h56 := fr_put f53 eh56 rfl
                  exact V_vret rfl d_Mod_next_274 ⟨rfl, ⟨hI57, f58, z55, (v9Z + 1), z55E, (kn_put eh56), o54, o54Z, o54E, (kn_nei eh56 o54K (by decide)), 3, 3, tc_3, (kn_nei eh56 (kn_call fh50 (kn_put eh35) rfl) (by decide)), (by omega)⟩⟩
              ·
                refine V_aload_n 0 d_Mod_next_130 rfl rfl ?_
                refine V_iconst 2 d_Mod_next_131 (by decide) ?_
                refine N_putI fp_Mod_130 sk_116 rfl d_Mod_next_132 (fun h59 eh59 => ?_)
                have hI60 : Inv h59 := inv_full hI19 eh59 rfl
                have f61 : fr S_Mod_next h h59 := fr_put f20 eh59 rfl
                refine V_aload_n 0 d_Mod_next_135 rfl rfl ?_
                refine V_iconst 0 d_Mod_next_136 (by decide) ?_
                refine N_putI fp_Mod_141 sk_116 rfl d_Mod_next_137 (fun h62 eh62 => ?_)
                have hI63 : Inv h62 := inv_full hI60 eh62 rfl
                have f64 : fr S_Mod_next h h62 := fr_put f61 eh62 rfl
                have L65 : ∀ (nn : Nat) (h67 : Hp) (v72 : Int32) (v72Z : Int), Inv h67 → fr S_Mod_next h h67 → h67.1 116 15 = t → h67.1 116 17 = v9 → h67.1 116 18 = 2 → h67.1 116 20 = f → v72.toInt = v72Z → h67.1 116 16 = v72 → pZ ≤ v72Z ∧ v72Z ≤ 160 → 160 - v72Z < (nn : Int) → V R_Mod b_Mod_next 2 none 1 25 (q_Mod_next h t tZ p pZ f fZ) h67 140 [some (.ref 116), some (.int z21)] [] := by
                  intro nn
                  induction nn with
                  | zero => intro h67 v72 v72Z Ih67 Fh67 K68 K69 K70 K71 v72E K73 q74 hm75; exact absurd hm75 (by omega)
                  | succ nn ihL65 =>
                    intro h67 v72 v72Z Ih67 Fh67 K68 K69 K70 K71 v72E K73 q74 hm75
                    have g76 : 0 ≤ v72Z ∧ v72Z ≤ 160 := inv_at Ih67 v72E K73.symm rfl
                    refine V_aload_n 0 d_Mod_next_140 rfl rfl ?_
                    refine V_aload_n 0 d_Mod_next_141 rfl rfl ?_
                    refine N_getK fa_Mod_111 sk_116 rfl d_Mod_next_142 K73 ?_
                    refine N_callVI [.int v72] [] cv_Mod_114 sk_116 rfl d_Mod_next_145 rfl (Nat.le_of_ble_eq_true rfl) (by decide) (by decide) (c_Mod_look h67 Ih67 v72 v72Z v72E t tZ tE K68 (by omega)) (fun z77 h78 z77Z z77E p79 => ?_)
                    obtain ⟨eh78, p79⟩ := p79
                    subst eh78
                    refine V_i2l d_Mod_next_148 (fun z80 z80e z80E => ?_)
                    have z80F : z80.toInt = z77Z := z80E.trans z77E
                    refine V_ldc2 d_Mod_next_149 wl_Mod_137 ?_
                    refine V_ldc2 d_Mod_next_152 wl_Mod_139 ?_
                    refine N_callSI [.long z80, .long 48, .long 57] [] cs_Mod_95 d_Mod_next_155 rfl (Nat.le_of_ble_eq_true rfl) (by decide) (by decide) (c_Mod_in h67 z80 z77Z z80F 48 48 tl_48 57 57 tl_57) (fun z81 h82 z81Z z81E p83 => ?_)
                    obtain ⟨eh82, p83⟩ := p83
                    subst eh82
                    refine V_if_eq 217 z81E d_Mod_next_158 (by decide) (fun c84 => ?_) (fun c84 => ?_)
                    ·
                      refine V_aload_n 0 d_Mod_next_217 rfl rfl ?_
                      refine V_aload_n 0 d_Mod_next_218 rfl rfl ?_
                      refine N_getK fa_Mod_111 sk_116 rfl d_Mod_next_219 K73 ?_
                      refine V_aload_n 0 d_Mod_next_222 rfl rfl ?_
                      refine N_getK fa_Mod_105 sk_116 rfl d_Mod_next_223 K69 ?_
                      refine V_isub v72E v9E (by omega) d_Mod_next_226 (fun z85 z85e z85E => ?_)
                      refine V_iconst 2 d_Mod_next_227 (by decide) ?_
                      refine V_icmp_gt 235 z85E tc_2 d_Mod_next_228 (by decide) (fun c86 => ?_) (fun c86 => ?_)
                      ·
                        refine V_iconst 0 d_Mod_next_235 (by decide) ?_
                        refine V_iconst 1 d_Mod_next_236 (by decide) ?_
                        refine N_callVV [.int 0, .int 1] [] cv_Mod_144 sk_116 rfl d_Mod_next_237 rfl (Nat.le_of_ble_eq_true rfl) (by decide) (by decide) (c_Mod_needs h67 Ih67 0 0 tc_0 1 1 tc_1 f fZ fE K71) (fun h88 p89 => ?_)
                        obtain ⟨hI90, fh88, o92, o92Z, o92E, o92K, p89⟩ := p89
                        have f91 : fr S_Mod_next h h88 := fr_call Fh67 fh88 rfl
                        refine V_goto 274 d_Mod_next_240 (by decide) ?_
                        exact V_vret rfl d_Mod_next_274 ⟨rfl, ⟨hI90, f91, v72, v72Z, v72E, (kn_call fh88 K73 rfl), o92, o92Z, o92E, o92K, 2, 2, tc_2, (kn_call fh88 K70 rfl), (by omega)⟩⟩
                      ·
                        refine V_iconst 1 d_Mod_next_231 (by decide) ?_
                        refine V_goto 236 d_Mod_next_232 (by decide) ?_
                        refine V_iconst 1 d_Mod_next_236 (by decide) ?_
                        refine N_callVV [.int 1, .int 1] [] cv_Mod_144 sk_116 rfl d_Mod_next_237 rfl (Nat.le_of_ble_eq_true rfl) (by decide) (by decide) (c_Mod_needs h67 Ih67 1 1 tc_1 1 1 tc_1 f fZ fE K71) (fun h94 p95 => ?_)
                        obtain ⟨hI96, fh94, o98, o98Z, o98E, o98K, p95⟩ := p95
                        have f97 : fr S_Mod_next h h94 := fr_call Fh67 fh94 rfl
                        refine V_goto 274 d_Mod_next_240 (by decide) ?_
                        exact V_vret rfl d_Mod_next_274 ⟨rfl, ⟨hI96, f97, v72, v72Z, v72E, (kn_call fh94 K73 rfl), o98, o98Z, o98E, o98K, 2, 2, tc_2, (kn_call fh94 K70 rfl), (by omega)⟩⟩
                    ·
                      have J99 : ∀ (h101 : Hp), Inv h101 → fr S_Mod_next h h101 → h101.1 116 15 = t → h101.1 116 16 = v72 → h101.1 116 17 = v9 → h101.1 116 18 = 2 → h101.1 116 20 = f → V R_Mod b_Mod_next 2 none 1 25 (q_Mod_next h t tZ p pZ f fZ) h101 204 [some (.ref 116), some (.int z21)] [] := by
                        intro h101 Ih101 Fh101 K102 K103 K104 K105 K106
                        refine V_aload_n 0 d_Mod_next_204 rfl rfl ?_
                        refine V_dup d_Mod_next_205 rfl ?_
                        refine N_getK fa_Mod_111 sk_116 rfl d_Mod_next_206 K103 ?_
                        refine V_iconst 1 d_Mod_next_209 (by decide) ?_
                        refine V_iadd v72E tc_1 (by omega) d_Mod_next_210 (fun z107 z107e z107E => ?_)
                        refine N_putI fp_Mod_111 sk_116 rfl d_Mod_next_211 (fun h108 eh108 => ?_)
                        have hI109 : Inv h108 := inv_put (lo := 0) (hi := 160) Ih101 eh108 rfl z107E (by omega)
                        have f110 : fr S_Mod_next h h108 := fr_put Fh101 eh108 rfl
                        refine V_goto 140 d_Mod_next_214 (by decide) ?_
                        exact ihL65 h108 z107 ((v72Z + 1)) hI109 f110 (kn_nei eh108 K102 (by decide)) (kn_nei eh108 K104 (by decide)) (kn_nei eh108 K105 (by decide)) (kn_nei eh108 K106 (by decide)) z107E (kn_put eh108) (by omega) (by omega)
                      refine V_aload_n 0 d_Mod_next_161 rfl rfl ?_
                      refine V_aload_n 0 d_Mod_next_162 rfl rfl ?_
                      refine N_getK fa_Mod_111 sk_116 rfl d_Mod_next_163 K73 ?_
                      refine V_aload_n 0 d_Mod_next_166 rfl rfl ?_
                      refine N_getK fa_Mod_105 sk_116 rfl d_Mod_next_167 K69 ?_
                      refine V_isub v72E v9E (by omega) d_Mod_next_170 (fun z111 z111e z111E => ?_)
                      refine V_iconst 2 d_Mod_next_171 (by decide) ?_
                      refine V_icmp_ge 197 z111E tc_2 d_Mod_next_172 (by decide) (fun c112 => ?_) (fun c112 => ?_)
                      ·
                        refine V_aload_n 0 d_Mod_next_197 rfl rfl ?_
                        refine N_getI fa_Mod_141 sk_116 rfl d_Mod_next_198 (fun z113 z113Z z113E z113e => ?_)
                        refine N_putI fp_Mod_141 sk_116 rfl d_Mod_next_201 (fun h114 eh114 => ?_)
                        have hI115 : Inv h114 := inv_full Ih67 eh114 rfl
                        have f116 : fr S_Mod_next h h114 := fr_put Fh67 eh114 rfl
                        exact J99 h114 hI115 f116 (kn_nei eh114 K68 (by decide)) (kn_nei eh114 K73 (by decide)) (kn_nei eh114 K69 (by decide)) (kn_nei eh114 K70 (by decide)) (kn_nei eh114 K71 (by decide))
                      ·
                        refine V_bipush 10 d_Mod_next_175 (by decide) ?_
                        refine V_aload_n 0 d_Mod_next_177 rfl rfl ?_
                        refine N_getI fa_Mod_141 sk_116 rfl d_Mod_next_178 (fun z117 z117Z z117E z117e => ?_)
                        refine N_imulw d_Mod_next_181 (fun z118 z118Z z118E z118e => ?_)
                        refine V_aload_n 0 d_Mod_next_182 rfl rfl ?_
                        refine V_aload_n 0 d_Mod_next_183 rfl rfl ?_
                        refine N_getK fa_Mod_111 sk_116 rfl d_Mod_next_184 K73 ?_
                        refine N_callVI [.int v72] [.int z118, .ref 116] cv_Mod_114 sk_116 rfl d_Mod_next_187 rfl (Nat.le_of_ble_eq_true rfl) (by decide) (by decide) (c_Mod_look h67 Ih67 v72 v72Z v72E t tZ tE K68 (by omega)) (fun z119 h120 z119Z z119E p121 => ?_)
                        obtain ⟨eh120, p121⟩ := p121
                        subst eh120
                        refine N_iaddw d_Mod_next_190 (fun z122 z122Z z122E z122e => ?_)
                        refine V_bipush 48 d_Mod_next_191 (by decide) ?_
                        refine N_isubw d_Mod_next_193 (fun z123 z123Z z123E z123e => ?_)
                        refine V_goto 201 d_Mod_next_194 (by decide) ?_
                        refine N_putI fp_Mod_141 sk_116 rfl d_Mod_next_201 (fun h124 eh124 => ?_)
                        have hI125 : Inv h124 := inv_full Ih67 eh124 rfl
                        have f126 : fr S_Mod_next h h124 := fr_put Fh67 eh124 rfl
                        exact J99 h124 hI125 f126 (kn_nei eh124 K68 (by decide)) (kn_nei eh124 K73 (by decide)) (kn_nei eh124 K69 (by decide)) (kn_nei eh124 K70 (by decide)) (kn_nei eh124 K71 (by decide))
                exact L65 (Int.toNat ((160 - v9Z : Int) + 1)) h62 v9 v9Z hI63 f64 (kn_nei eh62 (kn_nei eh59 (kn_nei eh18 K7 (by decide)) (by decide)) (by decide)) (kn_nei eh62 (kn_nei eh59 (kn_put eh18) (by decide)) (by decide)) (kn_nei eh62 (kn_put eh59) (by decide)) (kn_nei eh62 (kn_nei eh59 (kn_nei eh18 K8 (by decide)) (by decide)) (by decide)) v9E (kn_nei eh62 (kn_nei eh59 (kn_nei eh18 K10 (by decide)) (by decide)) (by decide)) (by omega) (by omega)
            ·
              refine V_aload_n 0 d_Mod_next_77 rfl rfl ?_
              refine V_iconst 1 d_Mod_next_78 (by decide) ?_
              refine N_putI fp_Mod_130 sk_116 rfl d_Mod_next_79 (fun h127 eh127 => ?_)
              have hI128 : Inv h127 := inv_full hI19 eh127 rfl
              have f129 : fr S_Mod_next h h127 := fr_put f20 eh127 rfl
              have L130 : ∀ (nn : Nat) (h132 : Hp) (v137 : Int32) (v137Z : Int), Inv h132 → fr S_Mod_next h h132 → h132.1 116 15 = t → h132.1 116 17 = v9 → h132.1 116 18 = 1 → h132.1 116 20 = f → v137.toInt = v137Z → h132.1 116 16 = v137 → pZ ≤ v137Z ∧ v137Z ≤ 160 → 160 - v137Z < (nn : Int) → V R_Mod b_Mod_next 2 none 1 25 (q_Mod_next h t tZ p pZ f fZ) h132 82 [some (.ref 116), some (.int z21)] [] := by
                intro nn
                induction nn with
                | zero => intro h132 v137 v137Z Ih132 Fh132 K133 K134 K135 K136 v137E K138 q139 hm140; exact absurd hm140 (by omega)
                | succ nn ihL130 =>
                  intro h132 v137 v137Z Ih132 Fh132 K133 K134 K135 K136 v137E K138 q139 hm140
                  have g141 : 0 ≤ v137Z ∧ v137Z ≤ 160 := inv_at Ih132 v137E K138.symm rfl
                  refine V_aload_n 0 d_Mod_next_82 rfl rfl ?_
                  refine V_aload_n 0 d_Mod_next_83 rfl rfl ?_
                  refine N_getK fa_Mod_111 sk_116 rfl d_Mod_next_84 K138 ?_
                  refine N_callVI [.int v137] [] cv_Mod_114 sk_116 rfl d_Mod_next_87 rfl (Nat.le_of_ble_eq_true rfl) (by decide) (by decide) (c_Mod_look h132 Ih132 v137 v137Z v137E t tZ tE K133 (by omega)) (fun z142 h143 z142Z z142E p144 => ?_)
                  obtain ⟨eh143, p144⟩ := p144
                  subst eh143
                  refine V_i2l d_Mod_next_90 (fun z145 z145e z145E => ?_)
                  have z145F : z145.toInt = z142Z := z145E.trans z142E
                  refine V_ldc2 d_Mod_next_91 wl_Mod_133 ?_
                  refine V_ldc2 d_Mod_next_94 wl_Mod_135 ?_
                  refine N_callSI [.long z145, .long 97, .long 122] [] cs_Mod_95 d_Mod_next_97 rfl (Nat.le_of_ble_eq_true rfl) (by decide) (by decide) (c_Mod_in h132 z145 z142Z z145F 97 97 tl_97 122 122 tl_122) (fun z146 h147 z146Z z146E p148 => ?_)
                  obtain ⟨eh147, p148⟩ := p148
                  subst eh147
                  refine V_if_eq 274 z146E d_Mod_next_100 (by decide) (fun c149 => ?_) (fun c149 => ?_)
                  ·
                    exact V_vret rfl d_Mod_next_274 ⟨rfl, ⟨Ih132, Fh132, v137, v137Z, v137E, K138, f, fZ, fE, K136, 1, 1, tc_1, K135, (by omega)⟩⟩
                  ·
                    refine V_aload_n 0 d_Mod_next_103 rfl rfl ?_
                    refine V_dup d_Mod_next_104 rfl ?_
                    refine N_getK fa_Mod_111 sk_116 rfl d_Mod_next_105 K138 ?_
                    refine V_iconst 1 d_Mod_next_108 (by decide) ?_
                    refine V_iadd v137E tc_1 (by omega) d_Mod_next_109 (fun z150 z150e z150E => ?_)
                    refine N_putI fp_Mod_111 sk_116 rfl d_Mod_next_110 (fun h151 eh151 => ?_)
                    have hI152 : Inv h151 := inv_put (lo := 0) (hi := 160) Ih132 eh151 rfl z150E (by omega)
                    have f153 : fr S_Mod_next h h151 := fr_put Fh132 eh151 rfl
                    refine V_goto 82 d_Mod_next_113 (by decide) ?_
                    exact ihL130 h151 z150 ((v137Z + 1)) hI152 f153 (kn_nei eh151 K133 (by decide)) (kn_nei eh151 K134 (by decide)) (kn_nei eh151 K135 (by decide)) (kn_nei eh151 K136 (by decide)) z150E (kn_put eh151) (by omega) (by omega)
              exact L130 (Int.toNat ((160 - v9Z : Int) + 1)) h127 v9 v9Z hI128 f129 (kn_nei eh127 (kn_nei eh18 K7 (by decide)) (by decide)) (kn_nei eh127 (kn_put eh18) (by decide)) (kn_put eh127) (kn_nei eh127 (kn_nei eh18 K8 (by decide)) (by decide)) v9E (kn_nei eh127 (kn_nei eh18 K10 (by decide)) (by decide)) (by omega) (by omega)
          ·
            refine V_aload_n 0 d_Mod_next_55 rfl rfl ?_
            refine V_iconst 0 d_Mod_next_56 (by decide) ?_
            refine N_putI fp_Mod_130 sk_116 rfl d_Mod_next_57 (fun h154 eh154 => ?_)
            have hI155 : Inv h154 := inv_full hI19 eh154 rfl
            have f156 : fr S_Mod_next h h154 := fr_put f20 eh154 rfl
            refine V_goto 274 d_Mod_next_60 (by decide) ?_
            exact V_vret rfl d_Mod_next_274 ⟨rfl, ⟨hI155, f156, v9, v9Z, v9E, (kn_nei eh154 (kn_nei eh18 K10 (by decide)) (by decide)), f, fZ, fE, (kn_nei eh154 (kn_nei eh18 K8 (by decide)) (by decide)), 0, 0, tc_0, (kn_put eh154), (by omega)⟩⟩
        ·
          refine V_aload_n 0 d_Mod_next_21 rfl rfl ?_
          refine V_dup d_Mod_next_22 rfl ?_
          refine N_getK fa_Mod_111 sk_116 rfl d_Mod_next_23 K10 ?_
          refine V_iconst 1 d_Mod_next_26 (by decide) ?_
          refine V_iadd v9E tc_1 (by omega) d_Mod_next_27 (fun z157 z157e z157E => ?_)
          refine N_putI fp_Mod_111 sk_116 rfl d_Mod_next_28 (fun h158 eh158 => ?_)
          have hI159 : Inv h158 := inv_put (lo := 0) (hi := 160) Ih6 eh158 rfl z157E (by omega)
          have f160 : fr S_Mod_next h h158 := fr_put Fh6 eh158 rfl
          refine V_goto 8 d_Mod_next_31 (by decide) ?_
          exact ihL4 h158 z157 ((v9Z + 1)) hI159 f160 (kn_nei eh158 K7 (by decide)) (kn_nei eh158 K8 (by decide)) z157E (kn_put eh158) (by omega) (by omega)
    exact L4 (Int.toNat ((160 - pZ : Int) + 1)) h p pZ hI f0 tK fK pE pK (by omega) (by omega)
  ·
    obtain ⟨z161, z161Z, z161E, z161e⟩ : ∃ (y : Int32) (Y : Int), y.toInt = Y ∧ y = h.1 116 18 := ⟨_, _, rfl, rfl⟩
    exact V_vret rfl d_Mod_next_7 ⟨rfl, ⟨hI, f0, p, pZ, pE, pK, f, fZ, fE, fK, z161, z161Z, z161E, z161e.symm, (by omega)⟩⟩
theorem d_Mod_looked_0 : decode b_Mod_looked 0 = .ok (.aload_n 0, 1) := by decide +kernel
theorem d_Mod_looked_1 : decode b_Mod_looked 1 = .ok (.getfield 102, 3) := by decide +kernel
theorem d_Mod_looked_4 : decode b_Mod_looked 4 = .ok (.ifCond .ne 21, 3) := by decide +kernel
theorem d_Mod_looked_7 : decode b_Mod_looked 7 = .ok (.aload_n 0, 1) := by decide +kernel
theorem d_Mod_looked_8 : decode b_Mod_looked 8 = .ok (.aload_n 0, 1) := by decide +kernel
theorem d_Mod_looked_9 : decode b_Mod_looked 9 = .ok (.getfield 130, 3) := by decide +kernel
theorem d_Mod_looked_12 : decode b_Mod_looked 12 = .ok (.iconst 2, 1) := by decide +kernel
theorem d_Mod_looked_13 : decode b_Mod_looked 13 = .ok (.if_icmp .ne 7, 3) := by decide +kernel
theorem d_Mod_looked_16 : decode b_Mod_looked 16 = .ok (.iconst 1, 1) := by decide +kernel
theorem d_Mod_looked_17 : decode b_Mod_looked 17 = .ok (.goto 4, 3) := by decide +kernel
theorem d_Mod_looked_20 : decode b_Mod_looked 20 = .ok (.iconst 0, 1) := by decide +kernel
theorem d_Mod_looked_21 : decode b_Mod_looked 21 = .ok (.iconst 2, 1) := by decide +kernel
theorem d_Mod_looked_22 : decode b_Mod_looked 22 = .ok (.invokevirtual 144, 3) := by decide +kernel
theorem d_Mod_looked_25 : decode b_Mod_looked 25 = .ok (.aload_n 0, 1) := by decide +kernel
theorem d_Mod_looked_26 : decode b_Mod_looked 26 = .ok (.getfield 102, 3) := by decide +kernel
theorem d_Mod_looked_29 : decode b_Mod_looked 29 = .ok (.ifCond .ne 20, 3) := by decide +kernel
theorem d_Mod_looked_32 : decode b_Mod_looked 32 = .ok (.aload_n 0, 1) := by decide +kernel
theorem d_Mod_looked_33 : decode b_Mod_looked 33 = .ok (.aload_n 0, 1) := by decide +kernel
theorem d_Mod_looked_34 : decode b_Mod_looked 34 = .ok (.getfield 141, 3) := by decide +kernel
theorem d_Mod_looked_37 : decode b_Mod_looked 37 = .ok (.i2l, 1) := by decide +kernel
theorem d_Mod_looked_38 : decode b_Mod_looked 38 = .ok (.iload_n 1, 1) := by decide +kernel
theorem d_Mod_looked_39 : decode b_Mod_looked 39 = .ok (.i2l, 1) := by decide +kernel
theorem d_Mod_looked_40 : decode b_Mod_looked 40 = .ok (.iload_n 2, 1) := by decide +kernel
theorem d_Mod_looked_41 : decode b_Mod_looked 41 = .ok (.i2l, 1) := by decide +kernel
theorem d_Mod_looked_42 : decode b_Mod_looked 42 = .ok (.invokestatic 95, 3) := by decide +kernel
theorem d_Mod_looked_45 : decode b_Mod_looked 45 = .ok (.iconst 3, 1) := by decide +kernel
theorem d_Mod_looked_46 : decode b_Mod_looked 46 = .ok (.invokevirtual 144, 3) := by decide +kernel
theorem d_Mod_looked_49 : decode b_Mod_looked 49 = .ok (.aload_n 0, 1) := by decide +kernel
theorem d_Mod_looked_50 : decode b_Mod_looked 50 = .ok (.getfield 102, 3) := by decide +kernel
theorem d_Mod_looked_53 : decode b_Mod_looked 53 = .ok (.ifCond .ne 10, 3) := by decide +kernel
theorem d_Mod_looked_56 : decode b_Mod_looked 56 = .ok (.aload_n 0, 1) := by decide +kernel
theorem d_Mod_looked_57 : decode b_Mod_looked 57 = .ok (.getfield 141, 3) := by decide +kernel
theorem d_Mod_looked_60 : decode b_Mod_looked 60 = .ok (.goto 4, 3) := by decide +kernel
theorem d_Mod_looked_63 : decode b_Mod_looked 63 = .ok (.iconst 0, 1) := by decide +kernel
theorem d_Mod_looked_64 : decode b_Mod_looked 64 = .ok (.ireturn, 1) := by decide +kernel
def S_Mod_looked : List (Nat × Option Nat) := [(116, some 20), (116, some 21)]
abbrev q_Mod_looked (h : Hp) (a : Int32) (aZ : Int) (b : Int32) (bZ : Int) (f : Int32) (fZ : Int) : Option Value → Hp → Prop := pInt (fun r h' => Inv h' ∧ fr S_Mod_looked h h' ∧ ∃ (u : Int32) (uZ : Int), u.toInt = uZ ∧ h'.1 116 20 = u ∧ ((uZ = 0 ∧ aZ ≤ r.toInt ∧ r.toInt ≤ bZ ∨ uZ ≠ 0 ∧ r.toInt = 0) ∧ (fZ = 0 ∨ uZ = fZ) ∧ 0 ≤ uZ))
set_option maxRecDepth 100000 in
theorem c_Mod_looked (h : Hp) (hI : Inv h) (a : Int32) (aZ : Int) (aE : a.toInt = aZ) (b : Int32) (bZ : Int) (bE : b.toInt = bZ) (f : Int32) (fZ : Int) (fE : f.toInt = fZ) (fK : h.1 116 20 = f) (hy0 : 0 ≤ aZ) (hy1 : 0 ≤ fZ) : Ct y_Mod_looked b_Mod_looked 3 (some .int) 1 25 [.ref 116, .int a, .int b] h (q_Mod_looked h a aZ b bZ f fZ) := by
  refine ct_ow R_Mod [some (.ref 116), some (.int a), some (.int b)] rfl (by decide) rfl (Nat.le_of_ble_eq_true rfl) ?_
  have f0 : fr S_Mod_looked h h := fr_rf
  refine V_aload_n 0 d_Mod_looked_0 rfl rfl ?_
  refine N_getK fa_Mod_102 sk_116 rfl d_Mod_looked_1 fK ?_
  refine V_if_ne 25 fE d_Mod_looked_4 (by decide) (fun c1 => ?_) (fun c1 => ?_)
  ·
    refine V_aload_n 0 d_Mod_looked_25 rfl rfl ?_
    refine N_getK fa_Mod_102 sk_116 rfl d_Mod_looked_26 fK ?_
    refine V_if_ne 49 fE d_Mod_looked_29 (by decide) (fun c2 => ?_) (fun c2 => ?_)
    ·
      refine V_aload_n 0 d_Mod_looked_49 rfl rfl ?_
      refine N_getK fa_Mod_102 sk_116 rfl d_Mod_looked_50 fK ?_
      refine V_if_ne 63 fE d_Mod_looked_53 (by decide) (fun c3 => ?_) (fun c3 => ?_)
      ·
        refine V_iconst 0 d_Mod_looked_63 (by decide) ?_
        exact V_iret rfl d_Mod_looked_64 ⟨0, rfl, ⟨hI, f0, f, fZ, fE, fK, (by (try rw [show Int32.toInt 0 = 0 from rfl]); omega)⟩⟩
      ·
        refine V_aload_n 0 d_Mod_looked_56 rfl rfl ?_
        refine N_getI fa_Mod_141 sk_116 rfl d_Mod_looked_57 (fun z4 z4Z z4E z4e => ?_)
        refine V_goto 64 d_Mod_looked_60 (by decide) ?_
        exact V_iret rfl d_Mod_looked_64 ⟨z4, rfl, ⟨hI, f0, f, fZ, fE, fK, (by (try rw [z4E]); omega)⟩⟩
    ·
      refine V_aload_n 0 d_Mod_looked_32 rfl rfl ?_
      refine V_aload_n 0 d_Mod_looked_33 rfl rfl ?_
      refine N_getI fa_Mod_141 sk_116 rfl d_Mod_looked_34 (fun z5 z5Z z5E z5e => ?_)
      refine V_i2l d_Mod_looked_37 (fun z6 z6e z6E => ?_)
      have z6F : z6.toInt = z5Z := z6E.trans z5E
      refine V_iload_n 1 d_Mod_looked_38 rfl rfl ?_
      refine V_i2l d_Mod_looked_39 (fun z7 z7e z7E => ?_)
      have z7F : z7.toInt = aZ := z7E.trans aE
      refine V_iload_n 2 d_Mod_looked_40 rfl rfl ?_
      refine V_i2l d_Mod_looked_41 (fun z8 z8e z8E => ?_)
      have z8F : z8.toInt = bZ := z8E.trans bE
      refine N_callSI [.long z6, .long z7, .long z8] [.ref 116] cs_Mod_95 d_Mod_looked_42 rfl (Nat.le_of_ble_eq_true rfl) (by decide) (by decide) (c_Mod_in h z6 z5Z z6F z7 aZ z7F z8 bZ z8F) (fun z9 h10 z9Z z9E p11 => ?_)
      obtain ⟨eh10, p11⟩ := p11
      subst eh10
      refine V_iconst 3 d_Mod_looked_45 (by decide) ?_
      refine N_callVV [.int z9, .int 3] [] cv_Mod_144 sk_116 rfl d_Mod_looked_46 rfl (Nat.le_of_ble_eq_true rfl) (by decide) (by decide) (c_Mod_needs h hI z9 z9Z z9E 3 3 tc_3 f fZ fE fK) (fun h13 p14 => ?_)
      obtain ⟨hI15, fh13, o17, o17Z, o17E, o17K, p14⟩ := p14
      have f16 : fr S_Mod_looked h h13 := fr_call f0 fh13 rfl
      refine V_aload_n 0 d_Mod_looked_49 rfl rfl ?_
      refine N_getK fa_Mod_102 sk_116 rfl d_Mod_looked_50 o17K ?_
      refine V_if_ne 63 o17E d_Mod_looked_53 (by decide) (fun c18 => ?_) (fun c18 => ?_)
      ·
        refine V_iconst 0 d_Mod_looked_63 (by decide) ?_
        exact V_iret rfl d_Mod_looked_64 ⟨0, rfl, ⟨hI15, f16, o17, o17Z, o17E, o17K, (by (try rw [show Int32.toInt 0 = 0 from rfl]); omega)⟩⟩
      ·
        refine V_aload_n 0 d_Mod_looked_56 rfl rfl ?_
        refine N_getK fa_Mod_141 sk_116 rfl d_Mod_looked_57 (kn_call fh13 z5e.symm rfl) ?_
        refine V_goto 64 d_Mod_looked_60 (by decide) ?_
        exact V_iret rfl d_Mod_looked_64 ⟨z5, rfl, ⟨hI15, f16, o17, o17Z, o17E, o17K, (by (try rw [z5E]); omega)⟩⟩
  ·
    refine V_aload_n 0 d_Mod_looked_7 rfl rfl ?_
    refine V_aload_n 0 d_Mod_looked_8 rfl rfl ?_
    refine N_getI fa_Mod_130 sk_116 rfl d_Mod_looked_9 (fun z19 z19Z z19E z19e => ?_)
    refine V_iconst 2 d_Mod_looked_12 (by decide) ?_
    refine V_icmp_ne 20 z19E tc_2 d_Mod_looked_13 (by decide) (fun c20 => ?_) (fun c20 => ?_)
    ·
      refine V_iconst 0 d_Mod_looked_20 (by decide) ?_
      refine V_iconst 2 d_Mod_looked_21 (by decide) ?_
      refine N_callVV [.int 0, .int 2] [] cv_Mod_144 sk_116 rfl d_Mod_looked_22 rfl (Nat.le_of_ble_eq_true rfl) (by decide) (by decide) (c_Mod_needs h hI 0 0 tc_0 2 2 tc_2 f fZ fE fK) (fun h22 p23 => ?_)
      obtain ⟨hI24, fh22, o26, o26Z, o26E, o26K, p23⟩ := p23
      have f25 : fr S_Mod_looked h h22 := fr_call f0 fh22 rfl
      refine V_aload_n 0 d_Mod_looked_25 rfl rfl ?_
      refine N_getK fa_Mod_102 sk_116 rfl d_Mod_looked_26 o26K ?_
      refine V_if_ne 49 o26E d_Mod_looked_29 (by decide) (fun c27 => ?_) (fun c27 => ?_)
      ·
        refine V_aload_n 0 d_Mod_looked_49 rfl rfl ?_
        refine N_getK fa_Mod_102 sk_116 rfl d_Mod_looked_50 o26K ?_
        refine V_if_ne 63 o26E d_Mod_looked_53 (by decide) (fun c28 => ?_) (fun c28 => ?_)
        ·
          refine V_iconst 0 d_Mod_looked_63 (by decide) ?_
          exact V_iret rfl d_Mod_looked_64 ⟨0, rfl, ⟨hI24, f25, o26, o26Z, o26E, o26K, (by (try rw [show Int32.toInt 0 = 0 from rfl]); omega)⟩⟩
        ·
          refine V_aload_n 0 d_Mod_looked_56 rfl rfl ?_
          refine N_getI fa_Mod_141 sk_116 rfl d_Mod_looked_57 (fun z29 z29Z z29E z29e => ?_)
          refine V_goto 64 d_Mod_looked_60 (by decide) ?_
          exact V_iret rfl d_Mod_looked_64 ⟨z29, rfl, ⟨hI24, f25, o26, o26Z, o26E, o26K, (by (try rw [z29E]); omega)⟩⟩
      ·
        refine V_aload_n 0 d_Mod_looked_32 rfl rfl ?_
        refine V_aload_n 0 d_Mod_looked_33 rfl rfl ?_
        refine N_getI fa_Mod_141 sk_116 rfl d_Mod_looked_34 (fun z30 z30Z z30E z30e => ?_)
        refine V_i2l d_Mod_looked_37 (fun z31 z31e z31E => ?_)
        have z31F : z31.toInt = z30Z := z31E.trans z30E
        refine V_iload_n 1 d_Mod_looked_38 rfl rfl ?_
        refine V_i2l d_Mod_looked_39 (fun z32 z32e z32E => ?_)
        have z32F : z32.toInt = aZ := z32E.trans aE
        refine V_iload_n 2 d_Mod_looked_40 rfl rfl ?_
        refine V_i2l d_Mod_looked_41 (fun z33 z33e z33E => ?_)
        have z33F : z33.toInt = bZ := z33E.trans bE
        refine N_callSI [.long z31, .long z32, .long z33] [.ref 116] cs_Mod_95 d_Mod_looked_42 rfl (Nat.le_of_ble_eq_true rfl) (by decide) (by decide) (c_Mod_in h22 z31 z30Z z31F z32 aZ z32F z33 bZ z33F) (fun z34 h35 z34Z z34E p36 => ?_)
        obtain ⟨eh35, p36⟩ := p36
        subst eh35
        refine V_iconst 3 d_Mod_looked_45 (by decide) ?_
        refine N_callVV [.int z34, .int 3] [] cv_Mod_144 sk_116 rfl d_Mod_looked_46 rfl (Nat.le_of_ble_eq_true rfl) (by decide) (by decide) (c_Mod_needs h22 hI24 z34 z34Z z34E 3 3 tc_3 o26 o26Z o26E o26K) (fun h38 p39 => ?_)
        obtain ⟨hI40, fh38, o42, o42Z, o42E, o42K, p39⟩ := p39
        have f41 : fr S_Mod_looked h h38 := fr_call f25 fh38 rfl
        refine V_aload_n 0 d_Mod_looked_49 rfl rfl ?_
        refine N_getK fa_Mod_102 sk_116 rfl d_Mod_looked_50 o42K ?_
        refine V_if_ne 63 o42E d_Mod_looked_53 (by decide) (fun c43 => ?_) (fun c43 => ?_)
        ·
          refine V_iconst 0 d_Mod_looked_63 (by decide) ?_
          exact V_iret rfl d_Mod_looked_64 ⟨0, rfl, ⟨hI40, f41, o42, o42Z, o42E, o42K, (by (try rw [show Int32.toInt 0 = 0 from rfl]); omega)⟩⟩
        ·
          refine V_aload_n 0 d_Mod_looked_56 rfl rfl ?_
          refine N_getK fa_Mod_141 sk_116 rfl d_Mod_looked_57 (kn_call fh38 z30e.symm rfl) ?_
          refine V_goto 64 d_Mod_looked_60 (by decide) ?_
          exact V_iret rfl d_Mod_looked_64 ⟨z30, rfl, ⟨hI40, f41, o42, o42Z, o42E, o42K, (by (try rw [z30E]); omega)⟩⟩
    ·
      refine V_iconst 1 d_Mod_looked_16 (by decide) ?_
      refine V_goto 21 d_Mod_looked_17 (by decide) ?_
      refine V_iconst 2 d_Mod_looked_21 (by decide) ?_
      refine N_callVV [.int 1, .int 2] [] cv_Mod_144 sk_116 rfl d_Mod_looked_22 rfl (Nat.le_of_ble_eq_true rfl) (by decide) (by decide) (c_Mod_needs h hI 1 1 tc_1 2 2 tc_2 f fZ fE fK) (fun h45 p46 => ?_)
      obtain ⟨hI47, fh45, o49, o49Z, o49E, o49K, p46⟩ := p46
      have f48 : fr S_Mod_looked h h45 := fr_call f0 fh45 rfl
      refine V_aload_n 0 d_Mod_looked_25 rfl rfl ?_
      refine N_getK fa_Mod_102 sk_116 rfl d_Mod_looked_26 o49K ?_
      refine V_if_ne 49 o49E d_Mod_looked_29 (by decide) (fun c50 => ?_) (fun c50 => ?_)
      ·
        refine V_aload_n 0 d_Mod_looked_49 rfl rfl ?_
        refine N_getK fa_Mod_102 sk_116 rfl d_Mod_looked_50 o49K ?_
        refine V_if_ne 63 o49E d_Mod_looked_53 (by decide) (fun c51 => ?_) (fun c51 => ?_)
        ·
          refine V_iconst 0 d_Mod_looked_63 (by decide) ?_
          exact V_iret rfl d_Mod_looked_64 ⟨0, rfl, ⟨hI47, f48, o49, o49Z, o49E, o49K, (by (try rw [show Int32.toInt 0 = 0 from rfl]); omega)⟩⟩
        ·
          refine V_aload_n 0 d_Mod_looked_56 rfl rfl ?_
          refine N_getI fa_Mod_141 sk_116 rfl d_Mod_looked_57 (fun z52 z52Z z52E z52e => ?_)
          refine V_goto 64 d_Mod_looked_60 (by decide) ?_
          exact V_iret rfl d_Mod_looked_64 ⟨z52, rfl, ⟨hI47, f48, o49, o49Z, o49E, o49K, (by (try rw [z52E]); omega)⟩⟩
      ·
        refine V_aload_n 0 d_Mod_looked_32 rfl rfl ?_
        refine V_aload_n 0 d_Mod_looked_33 rfl rfl ?_
        refine N_getI fa_Mod_141 sk_116 rfl d_Mod_looked_34 (fun z53 z53Z z53E z53e => ?_)
        refine V_i2l d_Mod_looked_37 (fun z54 z54e z54E => ?_)
        have z54F : z54.toInt = z53Z := z54E.trans z53E
        refine V_iload_n 1 d_Mod_looked_38 rfl rfl ?_
        refine V_i2l d_Mod_looked_39 (fun z55 z55e z55E => ?_)
        have z55F : z55.toInt = aZ := z55E.trans aE
        refine V_iload_n 2 d_Mod_looked_40 rfl rfl ?_
        refine V_i2l d_Mod_looked_41 (fun z56 z56e z56E => ?_)
        have z56F : z56.toInt = bZ := z56E.trans bE
        refine N_callSI [.long z54, .long z55, .long z56] [.ref 116] cs_Mod_95 d_Mod_looked_42 rfl (Nat.le_of_ble_eq_true rfl) (by decide) (by decide) (c_Mod_in h45 z54 z53Z z54F z55 aZ z55F z56 bZ z56F) (fun z57 h58 z57Z z57E p59 => ?_)
        obtain ⟨eh58, p59⟩ := p59
        subst eh58
        refine V_iconst 3 d_Mod_looked_45 (by decide) ?_
        refine N_callVV [.int z57, .int 3] [] cv_Mod_144 sk_116 rfl d_Mod_looked_46 rfl (Nat.le_of_ble_eq_true rfl) (by decide) (by decide) (c_Mod_needs h45 hI47 z57 z57Z z57E 3 3 tc_3 o49 o49Z o49E o49K) (fun h61 p62 => ?_)
        obtain ⟨hI63, fh61, o65, o65Z, o65E, o65K, p62⟩ := p62
        have f64 : fr S_Mod_looked h h61 := fr_call f48 fh61 rfl
        refine V_aload_n 0 d_Mod_looked_49 rfl rfl ?_
        refine N_getK fa_Mod_102 sk_116 rfl d_Mod_looked_50 o65K ?_
        refine V_if_ne 63 o65E d_Mod_looked_53 (by decide) (fun c66 => ?_) (fun c66 => ?_)
        ·
          refine V_iconst 0 d_Mod_looked_63 (by decide) ?_
          exact V_iret rfl d_Mod_looked_64 ⟨0, rfl, ⟨hI63, f64, o65, o65Z, o65E, o65K, (by (try rw [show Int32.toInt 0 = 0 from rfl]); omega)⟩⟩
        ·
          refine V_aload_n 0 d_Mod_looked_56 rfl rfl ?_
          refine N_getK fa_Mod_141 sk_116 rfl d_Mod_looked_57 (kn_call fh61 z53e.symm rfl) ?_
          refine V_goto 64 d_Mod_looked_60 (by decide) ?_
          exact V_iret rfl d_Mod_looked_64 ⟨z53, rfl, ⟨hI63, f64, o65, o65Z, o65E, o65K, (by (try rw [z53E]); omega)⟩⟩
theorem d_Mod_readNumber_0 : decode b_Mod_readNumber 0 = .ok (.aload_n 0, 1) := by decide +kernel
theorem d_Mod_readNumber_1 : decode b_Mod_readNumber 1 = .ok (.iload_n 1, 1) := by decide +kernel
theorem d_Mod_readNumber_2 : decode b_Mod_readNumber 2 = .ok (.iload_n 2, 1) := by decide +kernel
theorem d_Mod_readNumber_3 : decode b_Mod_readNumber 3 = .ok (.invokevirtual 148, 3) := by decide +kernel
theorem d_Mod_readNumber_6 : decode b_Mod_readNumber 6 = .ok (.istore_n 3, 1) := by decide +kernel
theorem d_Mod_readNumber_7 : decode b_Mod_readNumber 7 = .ok (.aload_n 0, 1) := by decide +kernel
theorem d_Mod_readNumber_8 : decode b_Mod_readNumber 8 = .ok (.invokevirtual 152, 3) := by decide +kernel
theorem d_Mod_readNumber_11 : decode b_Mod_readNumber 11 = .ok (.iload_n 3, 1) := by decide +kernel
theorem d_Mod_readNumber_12 : decode b_Mod_readNumber 12 = .ok (.ireturn, 1) := by decide +kernel
def S_Mod_readNumber : List (Nat × Option Nat) := [(116, some 16), (116, some 17), (116, some 18), (116, some 19), (116, some 20), (116, some 21)]
abbrev q_Mod_readNumber (h : Hp) (a : Int32) (aZ : Int) (b : Int32) (bZ : Int) (p : Int32) (pZ : Int) (f : Int32) (fZ : Int) : Option Value → Hp → Prop := pInt (fun r h' => Inv h' ∧ fr S_Mod_readNumber h h' ∧ ∃ (q : Int32) (qZ : Int), q.toInt = qZ ∧ h'.1 116 16 = q ∧ ∃ (u : Int32) (uZ : Int), u.toInt = uZ ∧ h'.1 116 20 = u ∧ ∃ (s : Int32) (sZ : Int), s.toInt = sZ ∧ h'.1 116 18 = s ∧ ((r.toInt = 0 ∨ aZ ≤ r.toInt ∧ r.toInt ≤ bZ) ∧ (uZ ≠ 0 ∨ aZ ≤ r.toInt ∧ r.toInt ≤ bZ) ∧ ((fZ = 0 ∨ uZ ≠ 0) ∧ 0 ≤ uZ ∧ pZ ≤ qZ ∧ (uZ ≠ 0 ∨ sZ ≠ 3 ∨ pZ + 1 ≤ qZ))))
set_option maxRecDepth 100000 in
theorem c_Mod_readNumber (h : Hp) (hI : Inv h) (a : Int32) (aZ : Int) (aE : a.toInt = aZ) (b : Int32) (bZ : Int) (bE : b.toInt = bZ) (p : Int32) (pZ : Int) (pE : p.toInt = pZ) (pK : h.1 116 16 = p) (f : Int32) (fZ : Int) (fE : f.toInt = fZ) (fK : h.1 116 20 = f) (hy0 : 0 ≤ aZ) (hy1 : 0 ≤ fZ) : Ct y_Mod_readNumber b_Mod_readNumber 4 (some .int) 2 47 [.ref 116, .int a, .int b] h (q_Mod_readNumber h a aZ b bZ p pZ f fZ) := by
  refine ct_ow R_Mod [some (.ref 116), some (.int a), some (.int b), none] rfl (by decide) rfl (Nat.le_of_ble_eq_true rfl) ?_
  have f0 : fr S_Mod_readNumber h h := fr_rf
  have g1 : 0 ≤ pZ ∧ pZ ≤ 160 := inv_at hI pE pK.symm rfl
  refine V_aload_n 0 d_Mod_readNumber_0 rfl rfl ?_
  refine V_iload_n 1 d_Mod_readNumber_1 rfl rfl ?_
  refine V_iload_n 2 d_Mod_readNumber_2 rfl rfl ?_
  refine N_callVI [.int a, .int b] [] cv_Mod_148 sk_116 rfl d_Mod_readNumber_3 rfl (Nat.le_of_ble_eq_true rfl) (by decide) (by decide) (c_Mod_looked h hI a aZ aE b bZ bE f fZ fE fK (by omega) (by omega)) (fun z2 h3 z2Z z2E p4 => ?_)
  obtain ⟨hI5, fh3, o7, o7Z, o7E, o7K, p4⟩ := p4
  have f6 : fr S_Mod_readNumber h h3 := fr_call f0 fh3 rfl
  refine V_istore_n 3 [some (.ref 116), some (.int a), some (.int b), some (.int z2)] d_Mod_readNumber_6 rfl (by decide) rfl rfl ?_
  refine V_aload_n 0 d_Mod_readNumber_7 rfl rfl ?_
  obtain ⟨z8, z8Z, z8E, z8e⟩ : ∃ (y : Int32) (Y : Int), y.toInt = Y ∧ y = h3.1 116 15 := ⟨_, _, rfl, rfl⟩
  have g9 : 0 ≤ z8Z ∧ z8Z ≤ 160 := inv_at hI5 z8E z8e rfl
  refine N_callVV [] [] cv_Mod_152 sk_116 rfl d_Mod_readNumber_8 rfl (Nat.le_of_ble_eq_true rfl) (by decide) (by decide) (c_Mod_next h3 hI5 z8 z8Z z8E z8e.symm p pZ pE (kn_call fh3 pK rfl) o7 o7Z o7E o7K (by omega)) (fun h11 p12 => ?_)
  obtain ⟨hI13, fh11, o15, o15Z, o15E, o15K, o16, o16Z, o16E, o16K, o17, o17Z, o17E, o17K, p12⟩ := p12
  have f14 : fr S_Mod_readNumber h h11 := fr_call f6 fh11 rfl
  have g18 : 0 ≤ o15Z ∧ o15Z ≤ 160 := inv_at hI13 o15E o15K.symm rfl
  refine V_iload_n 3 d_Mod_readNumber_11 rfl rfl ?_
  exact V_iret rfl d_Mod_readNumber_12 ⟨z2, rfl, ⟨hI13, f14, o15, o15Z, o15E, o15K, o16, o16Z, o16E, o16K, o17, o17Z, o17E, o17K, (by (try rw [z2E]); omega)⟩⟩
theorem d_Mod_readFresh_0 : decode b_Mod_readFresh 0 = .ok (.aload_n 0, 1) := by decide +kernel
theorem d_Mod_readFresh_1 : decode b_Mod_readFresh 1 = .ok (.iconst 0, 1) := by decide +kernel
theorem d_Mod_readFresh_2 : decode b_Mod_readFresh 2 = .ok (.iload_n 2, 1) := by decide +kernel
theorem d_Mod_readFresh_3 : decode b_Mod_readFresh 3 = .ok (.invokevirtual 148, 3) := by decide +kernel
theorem d_Mod_readFresh_6 : decode b_Mod_readFresh 6 = .ok (.istore_n 3, 1) := by decide +kernel
theorem d_Mod_readFresh_7 : decode b_Mod_readFresh 7 = .ok (.aload_n 0, 1) := by decide +kernel
theorem d_Mod_readFresh_8 : decode b_Mod_readFresh 8 = .ok (.getfield 102, 3) := by decide +kernel
theorem d_Mod_readFresh_11 : decode b_Mod_readFresh 11 = .ok (.ifCond .ne 28, 3) := by decide +kernel
theorem d_Mod_readFresh_14 : decode b_Mod_readFresh 14 = .ok (.aload_n 0, 1) := by decide +kernel
theorem d_Mod_readFresh_15 : decode b_Mod_readFresh 15 = .ok (.aload_n 0, 1) := by decide +kernel
theorem d_Mod_readFresh_16 : decode b_Mod_readFresh 16 = .ok (.getfield 20, 3) := by decide +kernel
theorem d_Mod_readFresh_19 : decode b_Mod_readFresh 19 = .ok (.iload_n 1, 1) := by decide +kernel
theorem d_Mod_readFresh_20 : decode b_Mod_readFresh 20 = .ok (.iconst 4, 1) := by decide +kernel
theorem d_Mod_readFresh_21 : decode b_Mod_readFresh 21 = .ok (.isub, 1) := by decide +kernel
theorem d_Mod_readFresh_22 : decode b_Mod_readFresh 22 = .ok (.iaload, 1) := by decide +kernel
theorem d_Mod_readFresh_23 : decode b_Mod_readFresh 23 = .ok (.iload_n 3, 1) := by decide +kernel
theorem d_Mod_readFresh_24 : decode b_Mod_readFresh 24 = .ok (.ishr, 1) := by decide +kernel
theorem d_Mod_readFresh_25 : decode b_Mod_readFresh 25 = .ok (.iconst 1, 1) := by decide +kernel
theorem d_Mod_readFresh_26 : decode b_Mod_readFresh 26 = .ok (.iand, 1) := by decide +kernel
theorem d_Mod_readFresh_27 : decode b_Mod_readFresh 27 = .ok (.ifCond .ne 7, 3) := by decide +kernel
theorem d_Mod_readFresh_30 : decode b_Mod_readFresh 30 = .ok (.iconst 1, 1) := by decide +kernel
theorem d_Mod_readFresh_31 : decode b_Mod_readFresh 31 = .ok (.goto 4, 3) := by decide +kernel
theorem d_Mod_readFresh_34 : decode b_Mod_readFresh 34 = .ok (.iconst 0, 1) := by decide +kernel
theorem d_Mod_readFresh_35 : decode b_Mod_readFresh 35 = .ok (.iconst 4, 1) := by decide +kernel
theorem d_Mod_readFresh_36 : decode b_Mod_readFresh 36 = .ok (.invokevirtual 144, 3) := by decide +kernel
theorem d_Mod_readFresh_39 : decode b_Mod_readFresh 39 = .ok (.aload_n 0, 1) := by decide +kernel
theorem d_Mod_readFresh_40 : decode b_Mod_readFresh 40 = .ok (.getfield 102, 3) := by decide +kernel
theorem d_Mod_readFresh_43 : decode b_Mod_readFresh 43 = .ok (.ifCond .ne 43, 3) := by decide +kernel
theorem d_Mod_readFresh_46 : decode b_Mod_readFresh 46 = .ok (.aload_n 0, 1) := by decide +kernel
theorem d_Mod_readFresh_47 : decode b_Mod_readFresh 47 = .ok (.getfield 20, 3) := by decide +kernel
theorem d_Mod_readFresh_50 : decode b_Mod_readFresh 50 = .ok (.iload_n 1, 1) := by decide +kernel
theorem d_Mod_readFresh_51 : decode b_Mod_readFresh 51 = .ok (.iconst 4, 1) := by decide +kernel
theorem d_Mod_readFresh_52 : decode b_Mod_readFresh 52 = .ok (.isub, 1) := by decide +kernel
theorem d_Mod_readFresh_53 : decode b_Mod_readFresh 53 = .ok (.dup2, 1) := by decide +kernel
theorem d_Mod_readFresh_54 : decode b_Mod_readFresh 54 = .ok (.iaload, 1) := by decide +kernel
theorem d_Mod_readFresh_55 : decode b_Mod_readFresh 55 = .ok (.iconst 1, 1) := by decide +kernel
theorem d_Mod_readFresh_56 : decode b_Mod_readFresh 56 = .ok (.iload_n 3, 1) := by decide +kernel
theorem d_Mod_readFresh_57 : decode b_Mod_readFresh 57 = .ok (.ishl, 1) := by decide +kernel
theorem d_Mod_readFresh_58 : decode b_Mod_readFresh 58 = .ok (.ior, 1) := by decide +kernel
theorem d_Mod_readFresh_59 : decode b_Mod_readFresh 59 = .ok (.iastore, 1) := by decide +kernel
theorem d_Mod_readFresh_60 : decode b_Mod_readFresh 60 = .ok (.aload_n 0, 1) := by decide +kernel
theorem d_Mod_readFresh_61 : decode b_Mod_readFresh 61 = .ok (.iload_n 1, 1) := by decide +kernel
theorem d_Mod_readFresh_62 : decode b_Mod_readFresh 62 = .ok (.bipush 8, 2) := by decide +kernel
theorem d_Mod_readFresh_64 : decode b_Mod_readFresh 64 = .ok (.if_icmp .ge 15, 3) := by decide +kernel
theorem d_Mod_readFresh_67 : decode b_Mod_readFresh 67 = .ok (.iload_n 3, 1) := by decide +kernel
theorem d_Mod_readFresh_68 : decode b_Mod_readFresh 68 = .ok (.aload_n 0, 1) := by decide +kernel
theorem d_Mod_readFresh_69 : decode b_Mod_readFresh 69 = .ok (.getfield 78, 3) := by decide +kernel
theorem d_Mod_readFresh_72 : decode b_Mod_readFresh 72 = .ok (.if_icmp .le 7, 3) := by decide +kernel
theorem d_Mod_readFresh_75 : decode b_Mod_readFresh 75 = .ok (.iload_n 3, 1) := by decide +kernel
theorem d_Mod_readFresh_76 : decode b_Mod_readFresh 76 = .ok (.goto 7, 3) := by decide +kernel
theorem d_Mod_readFresh_79 : decode b_Mod_readFresh 79 = .ok (.aload_n 0, 1) := by decide +kernel
theorem d_Mod_readFresh_80 : decode b_Mod_readFresh 80 = .ok (.getfield 78, 3) := by decide +kernel
theorem d_Mod_readFresh_83 : decode b_Mod_readFresh 83 = .ok (.putfield 78, 3) := by decide +kernel
theorem d_Mod_readFresh_86 : decode b_Mod_readFresh 86 = .ok (.aload_n 0, 1) := by decide +kernel
theorem d_Mod_readFresh_87 : decode b_Mod_readFresh 87 = .ok (.invokevirtual 152, 3) := by decide +kernel
theorem d_Mod_readFresh_90 : decode b_Mod_readFresh 90 = .ok (.iload_n 3, 1) := by decide +kernel
theorem d_Mod_readFresh_91 : decode b_Mod_readFresh 91 = .ok (.ireturn, 1) := by decide +kernel
def S_Mod_readFresh : List (Nat × Option Nat) := [(116, some 16), (116, some 17), (116, some 18), (116, some 19), (116, some 20), (116, some 21), (120, none), (116, some 13)]
abbrev q_Mod_readFresh (h : Hp) (a : Int32) (aZ : Int) (b : Int32) (bZ : Int) (p : Int32) (pZ : Int) (f : Int32) (fZ : Int) : Option Value → Hp → Prop := pInt (fun r h' => Inv h' ∧ fr S_Mod_readFresh h h' ∧ ∃ (q : Int32) (qZ : Int), q.toInt = qZ ∧ h'.1 116 16 = q ∧ ∃ (u : Int32) (uZ : Int), u.toInt = uZ ∧ h'.1 116 20 = u ∧ ∃ (s : Int32) (sZ : Int), s.toInt = sZ ∧ h'.1 116 18 = s ∧ (0 ≤ r.toInt ∧ r.toInt ≤ bZ ∧ ((fZ = 0 ∨ uZ ≠ 0) ∧ 0 ≤ uZ ∧ pZ ≤ qZ ∧ (uZ ≠ 0 ∨ sZ ≠ 3 ∨ pZ + 1 ≤ qZ))))
set_option maxRecDepth 100000 in
theorem c_Mod_readFresh (h : Hp) (hI : Inv h) (a : Int32) (aZ : Int) (aE : a.toInt = aZ) (b : Int32) (bZ : Int) (bE : b.toInt = bZ) (p : Int32) (pZ : Int) (pE : p.toInt = pZ) (pK : h.1 116 16 = p) (f : Int32) (fZ : Int) (fE : f.toInt = fZ) (fK : h.1 116 20 = f) (hy0 : 4 ≤ aZ ∧ aZ ≤ 8) (hy1 : 0 ≤ bZ) (hy2 : 0 ≤ fZ) : Ct y_Mod_readFresh b_Mod_readFresh 4 (some .int) 2 47 [.ref 116, .int a, .int b] h (q_Mod_readFresh h a aZ b bZ p pZ f fZ) := by
  refine ct_ow R_Mod [some (.ref 116), some (.int a), some (.int b), none] rfl (by decide) rfl (Nat.le_of_ble_eq_true rfl) ?_
  have f0 : fr S_Mod_readFresh h h := fr_rf
  have g1 : 0 ≤ pZ ∧ pZ ≤ 160 := inv_at hI pE pK.symm rfl
  refine V_aload_n 0 d_Mod_readFresh_0 rfl rfl ?_
  refine V_iconst 0 d_Mod_readFresh_1 (by decide) ?_
  refine V_iload_n 2 d_Mod_readFresh_2 rfl rfl ?_
  refine N_callVI [.int 0, .int b] [] cv_Mod_148 sk_116 rfl d_Mod_readFresh_3 rfl (Nat.le_of_ble_eq_true rfl) (by decide) (by decide) (c_Mod_looked h hI 0 0 tc_0 b bZ bE f fZ fE fK (by omega) (by omega)) (fun z2 h3 z2Z z2E p4 => ?_)
  obtain ⟨hI5, fh3, o7, o7Z, o7E, o7K, p4⟩ := p4
  have f6 : fr S_Mod_readFresh h h3 := fr_call f0 fh3 rfl
  refine V_istore_n 3 [some (.ref 116), some (.int a), some (.int b), some (.int z2)] d_Mod_readFresh_6 rfl (by decide) rfl rfl ?_
  refine V_aload_n 0 d_Mod_readFresh_7 rfl rfl ?_
  refine N_getK fa_Mod_102 sk_116 rfl d_Mod_readFresh_8 o7K ?_
  refine V_if_ne 39 o7E d_Mod_readFresh_11 (by decide) (fun c8 => ?_) (fun c8 => ?_)
  ·
    refine V_aload_n 0 d_Mod_readFresh_39 rfl rfl ?_
    refine N_getK fa_Mod_102 sk_116 rfl d_Mod_readFresh_40 o7K ?_
    refine V_if_ne 86 o7E d_Mod_readFresh_43 (by decide) (fun c9 => ?_) (fun c9 => ?_)
    ·
      refine V_aload_n 0 d_Mod_readFresh_86 rfl rfl ?_
      obtain ⟨z10, z10Z, z10E, z10e⟩ : ∃ (y : Int32) (Y : Int), y.toInt = Y ∧ y = h3.1 116 15 := ⟨_, _, rfl, rfl⟩
      have g11 : 0 ≤ z10Z ∧ z10Z ≤ 160 := inv_at hI5 z10E z10e rfl
      refine N_callVV [] [] cv_Mod_152 sk_116 rfl d_Mod_readFresh_87 rfl (Nat.le_of_ble_eq_true rfl) (by decide) (by decide) (c_Mod_next h3 hI5 z10 z10Z z10E z10e.symm p pZ pE (kn_call fh3 pK rfl) o7 o7Z o7E o7K (by omega)) (fun h13 p14 => ?_)
      obtain ⟨hI15, fh13, o17, o17Z, o17E, o17K, o18, o18Z, o18E, o18K, o19, o19Z, o19E, o19K, p14⟩ := p14
      have f16 : fr S_Mod_readFresh h h13 := fr_call f6 fh13 rfl
      have g20 : 0 ≤ o17Z ∧ o17Z ≤ 160 := inv_at hI15 o17E o17K.symm rfl
      refine V_iload_n 3 d_Mod_readFresh_90 rfl rfl ?_
      exact V_iret rfl d_Mod_readFresh_91 ⟨z2, rfl, ⟨hI15, f16, o17, o17Z, o17E, o17K, o18, o18Z, o18E, o18K, o19, o19Z, o19E, o19K, (by (try rw [z2E]); omega)⟩⟩
    ·
      refine V_aload_n 0 d_Mod_readFresh_46 rfl rfl ?_
      refine V_getR fa_Mod_20 sk_116 rfl d_Mod_readFresh_47 ?_
      refine V_iload_n 1 d_Mod_readFresh_50 rfl rfl ?_
      refine V_iconst 4 d_Mod_readFresh_51 (by decide) ?_
      refine V_isub aE tc_4 (by omega) d_Mod_readFresh_52 (fun z21 z21e z21E => ?_)
      refine V_dup2 d_Mod_readFresh_53 rfl rfl ?_
      refine N_iald sk_120 z21E (by omega) d_Mod_readFresh_54 (fun z22 z22Z z22E z22e => ?_)
      refine V_iconst 1 d_Mod_readFresh_55 (by decide) ?_
      refine V_iload_n 3 d_Mod_readFresh_56 rfl rfl ?_
      refine N_ishl d_Mod_readFresh_57 (fun z23 z23Z z23E z23e => ?_)
      refine N_ior d_Mod_readFresh_58 (fun z24 z24Z z24E z24e => ?_)
      refine N_iast sk_120 z21E (by omega) d_Mod_readFresh_59 (fun h25 eh25 => ?_)
      have hI26 : Inv h25 := inv_full hI5 eh25 rfl
      have f27 : fr S_Mod_readFresh h h25 := fr_put f6 eh25 rfl
      refine V_aload_n 0 d_Mod_readFresh_60 rfl rfl ?_
      refine V_iload_n 1 d_Mod_readFresh_61 rfl rfl ?_
      refine V_bipush 8 d_Mod_readFresh_62 (by decide) ?_
      refine V_icmp_ge 79 aE tc_8 d_Mod_readFresh_64 (by decide) (fun c28 => ?_) (fun c28 => ?_)
      ·
        refine V_aload_n 0 d_Mod_readFresh_79 rfl rfl ?_
        refine N_getI fa_Mod_78 sk_116 rfl d_Mod_readFresh_80 (fun z29 z29Z z29E z29e => ?_)
        refine N_putI fp_Mod_78 sk_116 rfl d_Mod_readFresh_83 (fun h30 eh30 => ?_)
        have hI31 : Inv h30 := inv_full hI26 eh30 rfl
        have f32 : fr S_Mod_readFresh h h30 := fr_put f27 eh30 rfl
        refine V_aload_n 0 d_Mod_readFresh_86 rfl rfl ?_
        obtain ⟨z33, z33Z, z33E, z33e⟩ : ∃ (y : Int32) (Y : Int), y.toInt = Y ∧ y = h30.1 116 15 := ⟨_, _, rfl, rfl⟩
        have g34 : 0 ≤ z33Z ∧ z33Z ≤ 160 := inv_at hI31 z33E z33e rfl
        refine N_callVV [] [] cv_Mod_152 sk_116 rfl d_Mod_readFresh_87 rfl (Nat.le_of_ble_eq_true rfl) (by decide) (by decide) (c_Mod_next h30 hI31 z33 z33Z z33E z33e.symm p pZ pE (kn_nei eh30 (kn_ne eh25 (kn_call fh3 pK rfl) (by decide)) (by decide)) o7 o7Z o7E (kn_nei eh30 (kn_ne eh25 o7K (by decide)) (by decide)) (by omega)) (fun h36 p37 => ?_)
        obtain ⟨hI38, fh36, o40, o40Z, o40E, o40K, o41, o41Z, o41E, o41K, o42, o42Z, o42E, o42K, p37⟩ := p37
        have f39 : fr S_Mod_readFresh h h36 := fr_call f32 fh36 rfl
        have g43 : 0 ≤ o40Z ∧ o40Z ≤ 160 := inv_at hI38 o40E o40K.symm rfl
        refine V_iload_n 3 d_Mod_readFresh_90 rfl rfl ?_
        exact V_iret rfl d_Mod_readFresh_91 ⟨z2, rfl, ⟨hI38, f39, o40, o40Z, o40E, o40K, o41, o41Z, o41E, o41K, o42, o42Z, o42E, o42K, (by (try rw [z2E]); omega)⟩⟩
      ·
        refine V_iload_n 3 d_Mod_readFresh_67 rfl rfl ?_
        refine V_aload_n 0 d_Mod_readFresh_68 rfl rfl ?_
        refine N_getI fa_Mod_78 sk_116 rfl d_Mod_readFresh_69 (fun z44 z44Z z44E z44e => ?_)
        refine V_icmp_le 79 z2E z44E d_Mod_readFresh_72 (by decide) (fun c45 => ?_) (fun c45 => ?_)
        ·
          refine V_aload_n 0 d_Mod_readFresh_79 rfl rfl ?_
          refine N_getK fa_Mod_78 sk_116 rfl d_Mod_readFresh_80 z44e.symm ?_
          refine N_putI fp_Mod_78 sk_116 rfl d_Mod_readFresh_83 (fun h46 eh46 => ?_)
          have hI47 : Inv h46 := inv_full hI26 eh46 rfl
          have f48 : fr S_Mod_readFresh h h46 := fr_put f27 eh46 rfl
          refine V_aload_n 0 d_Mod_readFresh_86 rfl rfl ?_
          obtain ⟨z49, z49Z, z49E, z49e⟩ : ∃ (y : Int32) (Y : Int), y.toInt = Y ∧ y = h46.1 116 15 := ⟨_, _, rfl, rfl⟩
          have g50 : 0 ≤ z49Z ∧ z49Z ≤ 160 := inv_at hI47 z49E z49e rfl
          refine N_callVV [] [] cv_Mod_152 sk_116 rfl d_Mod_readFresh_87 rfl (Nat.le_of_ble_eq_true rfl) (by decide) (by decide) (c_Mod_next h46 hI47 z49 z49Z z49E z49e.symm p pZ pE (kn_nei eh46 (kn_ne eh25 (kn_call fh3 pK rfl) (by decide)) (by decide)) o7 o7Z o7E (kn_nei eh46 (kn_ne eh25 o7K (by decide)) (by decide)) (by omega)) (fun h52 p53 => ?_)
          obtain ⟨hI54, fh52, o56, o56Z, o56E, o56K, o57, o57Z, o57E, o57K, o58, o58Z, o58E, o58K, p53⟩ := p53
          have f55 : fr S_Mod_readFresh h h52 := fr_call f48 fh52 rfl
          have g59 : 0 ≤ o56Z ∧ o56Z ≤ 160 := inv_at hI54 o56E o56K.symm rfl
          refine V_iload_n 3 d_Mod_readFresh_90 rfl rfl ?_
          exact V_iret rfl d_Mod_readFresh_91 ⟨z2, rfl, ⟨hI54, f55, o56, o56Z, o56E, o56K, o57, o57Z, o57E, o57K, o58, o58Z, o58E, o58K, (by (try rw [z2E]); omega)⟩⟩
        ·
          refine V_iload_n 3 d_Mod_readFresh_75 rfl rfl ?_
          refine V_goto 83 d_Mod_readFresh_76 (by decide) ?_
          refine N_putI fp_Mod_78 sk_116 rfl d_Mod_readFresh_83 (fun h60 eh60 => ?_)
          have hI61 : Inv h60 := inv_full hI26 eh60 rfl
          have f62 : fr S_Mod_readFresh h h60 := fr_put f27 eh60 rfl
          refine V_aload_n 0 d_Mod_readFresh_86 rfl rfl ?_
          obtain ⟨z63, z63Z, z63E, z63e⟩ : ∃ (y : Int32) (Y : Int), y.toInt = Y ∧ y = h60.1 116 15 := ⟨_, _, rfl, rfl⟩
          have g64 : 0 ≤ z63Z ∧ z63Z ≤ 160 := inv_at hI61 z63E z63e rfl
          refine N_callVV [] [] cv_Mod_152 sk_116 rfl d_Mod_readFresh_87 rfl (Nat.le_of_ble_eq_true rfl) (by decide) (by decide) (c_Mod_next h60 hI61 z63 z63Z z63E z63e.symm p pZ pE (kn_nei eh60 (kn_ne eh25 (kn_call fh3 pK rfl) (by decide)) (by decide)) o7 o7Z o7E (kn_nei eh60 (kn_ne eh25 o7K (by decide)) (by decide)) (by omega)) (fun h66 p67 => ?_)
          obtain ⟨hI68, fh66, o70, o70Z, o70E, o70K, o71, o71Z, o71E, o71K, o72, o72Z, o72E, o72K, p67⟩ := p67
          have f69 : fr S_Mod_readFresh h h66 := fr_call f62 fh66 rfl
          have g73 : 0 ≤ o70Z ∧ o70Z ≤ 160 := inv_at hI68 o70E o70K.symm rfl
          refine V_iload_n 3 d_Mod_readFresh_90 rfl rfl ?_
          exact V_iret rfl d_Mod_readFresh_91 ⟨z2, rfl, ⟨hI68, f69, o70, o70Z, o70E, o70K, o71, o71Z, o71E, o71K, o72, o72Z, o72E, o72K, (by (try rw [z2E]); omega)⟩⟩
  ·
    refine V_aload_n 0 d_Mod_readFresh_14 rfl rfl ?_
    refine V_aload_n 0 d_Mod_readFresh_15 rfl rfl ?_
    refine V_getR fa_Mod_20 sk_116 rfl d_Mod_readFresh_16 ?_
    refine V_iload_n 1 d_Mod_readFresh_19 rfl rfl ?_
    refine V_iconst 4 d_Mod_readFresh_20 (by decide) ?_
    refine V_isub aE tc_4 (by omega) d_Mod_readFresh_21 (fun z74 z74e z74E => ?_)
    refine N_iald sk_120 z74E (by omega) d_Mod_readFresh_22 (fun z75 z75Z z75E z75e => ?_)
    refine V_iload_n 3 d_Mod_readFresh_23 rfl rfl ?_
    refine N_ishr d_Mod_readFresh_24 (fun z76 z76Z z76E z76e => ?_)
    refine V_iconst 1 d_Mod_readFresh_25 (by decide) ?_
    refine N_iand d_Mod_readFresh_26 (fun z77 z77Z z77E z77e => ?_)
    refine V_if_ne 34 z77E d_Mod_readFresh_27 (by decide) (fun c78 => ?_) (fun c78 => ?_)
    ·
      refine V_iconst 0 d_Mod_readFresh_34 (by decide) ?_
      refine V_iconst 4 d_Mod_readFresh_35 (by decide) ?_
      refine N_callVV [.int 0, .int 4] [] cv_Mod_144 sk_116 rfl d_Mod_readFresh_36 rfl (Nat.le_of_ble_eq_true rfl) (by decide) (by decide) (c_Mod_needs h3 hI5 0 0 tc_0 4 4 tc_4 o7 o7Z o7E o7K) (fun h80 p81 => ?_)
      obtain ⟨hI82, fh80, o84, o84Z, o84E, o84K, p81⟩ := p81
      have f83 : fr S_Mod_readFresh h h80 := fr_call f6 fh80 rfl
      refine V_aload_n 0 d_Mod_readFresh_39 rfl rfl ?_
      refine N_getK fa_Mod_102 sk_116 rfl d_Mod_readFresh_40 o84K ?_
      refine V_if_ne 86 o84E d_Mod_readFresh_43 (by decide) (fun c85 => ?_) (fun c85 => ?_)
      ·
        refine V_aload_n 0 d_Mod_readFresh_86 rfl rfl ?_
        obtain ⟨z86, z86Z, z86E, z86e⟩ : ∃ (y : Int32) (Y : Int), y.toInt = Y ∧ y = h80.1 116 15 := ⟨_, _, rfl, rfl⟩
        have g87 : 0 ≤ z86Z ∧ z86Z ≤ 160 := inv_at hI82 z86E z86e rfl
        refine N_callVV [] [] cv_Mod_152 sk_116 rfl d_Mod_readFresh_87 rfl (Nat.le_of_ble_eq_true rfl) (by decide) (by decide) (c_Mod_next h80 hI82 z86 z86Z z86E z86e.symm p pZ pE (kn_call fh80 (kn_call fh3 pK rfl) rfl) o84 o84Z o84E o84K (by omega)) (fun h89 p90 => ?_)
        obtain ⟨hI91, fh89, o93, o93Z, o93E, o93K, o94, o94Z, o94E, o94K, o95, o95Z, o95E, o95K, p90⟩ := p90
        have f92 : fr S_Mod_readFresh h h89 := fr_call f83 fh89 rfl
        have g96 : 0 ≤ o93Z ∧ o93Z ≤ 160 := inv_at hI91 o93E o93K.symm rfl
        refine V_iload_n 3 d_Mod_readFresh_90 rfl rfl ?_
        exact V_iret rfl d_Mod_readFresh_91 ⟨z2, rfl, ⟨hI91, f92, o93, o93Z, o93E, o93K, o94, o94Z, o94E, o94K, o95, o95Z, o95E, o95K, (by (try rw [z2E]); omega)⟩⟩
      ·
        refine V_aload_n 0 d_Mod_readFresh_46 rfl rfl ?_
        refine V_getR fa_Mod_20 sk_116 rfl d_Mod_readFresh_47 ?_
        refine V_iload_n 1 d_Mod_readFresh_50 rfl rfl ?_
        refine V_iconst 4 d_Mod_readFresh_51 (by decide) ?_
        refine V_isub aE tc_4 (by omega) d_Mod_readFresh_52 (fun z97 z97e z97E => ?_)
        refine V_dup2 d_Mod_readFresh_53 rfl rfl ?_
        refine N_iald sk_120 z97E (by omega) d_Mod_readFresh_54 (fun z98 z98Z z98E z98e => ?_)
        refine V_iconst 1 d_Mod_readFresh_55 (by decide) ?_
        refine V_iload_n 3 d_Mod_readFresh_56 rfl rfl ?_
        refine N_ishl d_Mod_readFresh_57 (fun z99 z99Z z99E z99e => ?_)
        refine N_ior d_Mod_readFresh_58 (fun z100 z100Z z100E z100e => ?_)
        refine N_iast sk_120 z97E (by omega) d_Mod_readFresh_59 (fun h101 eh101 => ?_)
        have hI102 : Inv h101 := inv_full hI82 eh101 rfl
        have f103 : fr S_Mod_readFresh h h101 := fr_put f83 eh101 rfl
        refine V_aload_n 0 d_Mod_readFresh_60 rfl rfl ?_
        refine V_iload_n 1 d_Mod_readFresh_61 rfl rfl ?_
        refine V_bipush 8 d_Mod_readFresh_62 (by decide) ?_
        refine V_icmp_ge 79 aE tc_8 d_Mod_readFresh_64 (by decide) (fun c104 => ?_) (fun c104 => ?_)
        ·
          refine V_aload_n 0 d_Mod_readFresh_79 rfl rfl ?_
          refine N_getI fa_Mod_78 sk_116 rfl d_Mod_readFresh_80 (fun z105 z105Z z105E z105e => ?_)
          refine N_putI fp_Mod_78 sk_116 rfl d_Mod_readFresh_83 (fun h106 eh106 => ?_)
          have hI107 : Inv h106 := inv_full hI102 eh106 rfl
          have f108 : fr S_Mod_readFresh h h106 := fr_put f103 eh106 rfl
          refine V_aload_n 0 d_Mod_readFresh_86 rfl rfl ?_
          obtain ⟨z109, z109Z, z109E, z109e⟩ : ∃ (y : Int32) (Y : Int), y.toInt = Y ∧ y = h106.1 116 15 := ⟨_, _, rfl, rfl⟩
          have g110 : 0 ≤ z109Z ∧ z109Z ≤ 160 := inv_at hI107 z109E z109e rfl
          refine N_callVV [] [] cv_Mod_152 sk_116 rfl d_Mod_readFresh_87 rfl (Nat.le_of_ble_eq_true rfl) (by decide) (by decide) (c_Mod_next h106 hI107 z109 z109Z z109E z109e.symm p pZ pE (kn_nei eh106 (kn_ne eh101 (kn_call fh80 (kn_call fh3 pK rfl) rfl) (by decide)) (by decide)) o84 o84Z o84E (kn_nei eh106 (kn_ne eh101 o84K (by decide)) (by decide)) (by omega)) (fun h112 p113 => ?_)
          obtain ⟨hI114, fh112, o116, o116Z, o116E, o116K, o117, o117Z, o117E, o117K, o118, o118Z, o118E, o118K, p113⟩ := p113
          have f115 : fr S_Mod_readFresh h h112 := fr_call f108 fh112 rfl
          have g119 : 0 ≤ o116Z ∧ o116Z ≤ 160 := inv_at hI114 o116E o116K.symm rfl
          refine V_iload_n 3 d_Mod_readFresh_90 rfl rfl ?_
          exact V_iret rfl d_Mod_readFresh_91 ⟨z2, rfl, ⟨hI114, f115, o116, o116Z, o116E, o116K, o117, o117Z, o117E, o117K, o118, o118Z, o118E, o118K, (by (try rw [z2E]); omega)⟩⟩
        ·
          refine V_iload_n 3 d_Mod_readFresh_67 rfl rfl ?_
          refine V_aload_n 0 d_Mod_readFresh_68 rfl rfl ?_
          refine N_getI fa_Mod_78 sk_116 rfl d_Mod_readFresh_69 (fun z120 z120Z z120E z120e => ?_)
          refine V_icmp_le 79 z2E z120E d_Mod_readFresh_72 (by decide) (fun c121 => ?_) (fun c121 => ?_)
          ·
            refine V_aload_n 0 d_Mod_readFresh_79 rfl rfl ?_
            refine N_getK fa_Mod_78 sk_116 rfl d_Mod_readFresh_80 z120e.symm ?_
            refine N_putI fp_Mod_78 sk_116 rfl d_Mod_readFresh_83 (fun h122 eh122 => ?_)
            have hI123 : Inv h122 := inv_full hI102 eh122 rfl
            have f124 : fr S_Mod_readFresh h h122 := fr_put f103 eh122 rfl
            refine V_aload_n 0 d_Mod_readFresh_86 rfl rfl ?_
            obtain ⟨z125, z125Z, z125E, z125e⟩ : ∃ (y : Int32) (Y : Int), y.toInt = Y ∧ y = h122.1 116 15 := ⟨_, _, rfl, rfl⟩
            have g126 : 0 ≤ z125Z ∧ z125Z ≤ 160 := inv_at hI123 z125E z125e rfl
            refine N_callVV [] [] cv_Mod_152 sk_116 rfl d_Mod_readFresh_87 rfl (Nat.le_of_ble_eq_true rfl) (by decide) (by decide) (c_Mod_next h122 hI123 z125 z125Z z125E z125e.symm p pZ pE (kn_nei eh122 (kn_ne eh101 (kn_call fh80 (kn_call fh3 pK rfl) rfl) (by decide)) (by decide)) o84 o84Z o84E (kn_nei eh122 (kn_ne eh101 o84K (by decide)) (by decide)) (by omega)) (fun h128 p129 => ?_)
            obtain ⟨hI130, fh128, o132, o132Z, o132E, o132K, o133, o133Z, o133E, o133K, o134, o134Z, o134E, o134K, p129⟩ := p129
            have f131 : fr S_Mod_readFresh h h128 := fr_call f124 fh128 rfl
            have g135 : 0 ≤ o132Z ∧ o132Z ≤ 160 := inv_at hI130 o132E o132K.symm rfl
            refine V_iload_n 3 d_Mod_readFresh_90 rfl rfl ?_
            exact V_iret rfl d_Mod_readFresh_91 ⟨z2, rfl, ⟨hI130, f131, o132, o132Z, o132E, o132K, o133, o133Z, o133E, o133K, o134, o134Z, o134E, o134K, (by (try rw [z2E]); omega)⟩⟩
          ·
            refine V_iload_n 3 d_Mod_readFresh_75 rfl rfl ?_
            refine V_goto 83 d_Mod_readFresh_76 (by decide) ?_
            refine N_putI fp_Mod_78 sk_116 rfl d_Mod_readFresh_83 (fun h136 eh136 => ?_)
            have hI137 : Inv h136 := inv_full hI102 eh136 rfl
            have f138 : fr S_Mod_readFresh h h136 := fr_put f103 eh136 rfl
            refine V_aload_n 0 d_Mod_readFresh_86 rfl rfl ?_
            obtain ⟨z139, z139Z, z139E, z139e⟩ : ∃ (y : Int32) (Y : Int), y.toInt = Y ∧ y = h136.1 116 15 := ⟨_, _, rfl, rfl⟩
            have g140 : 0 ≤ z139Z ∧ z139Z ≤ 160 := inv_at hI137 z139E z139e rfl
            refine N_callVV [] [] cv_Mod_152 sk_116 rfl d_Mod_readFresh_87 rfl (Nat.le_of_ble_eq_true rfl) (by decide) (by decide) (c_Mod_next h136 hI137 z139 z139Z z139E z139e.symm p pZ pE (kn_nei eh136 (kn_ne eh101 (kn_call fh80 (kn_call fh3 pK rfl) rfl) (by decide)) (by decide)) o84 o84Z o84E (kn_nei eh136 (kn_ne eh101 o84K (by decide)) (by decide)) (by omega)) (fun h142 p143 => ?_)
            obtain ⟨hI144, fh142, o146, o146Z, o146E, o146K, o147, o147Z, o147E, o147K, o148, o148Z, o148E, o148K, p143⟩ := p143
            have f145 : fr S_Mod_readFresh h h142 := fr_call f138 fh142 rfl
            have g149 : 0 ≤ o146Z ∧ o146Z ≤ 160 := inv_at hI144 o146E o146K.symm rfl
            refine V_iload_n 3 d_Mod_readFresh_90 rfl rfl ?_
            exact V_iret rfl d_Mod_readFresh_91 ⟨z2, rfl, ⟨hI144, f145, o146, o146Z, o146E, o146K, o147, o147Z, o147E, o147K, o148, o148Z, o148E, o148K, (by (try rw [z2E]); omega)⟩⟩
    ·
      refine V_iconst 1 d_Mod_readFresh_30 (by decide) ?_
      refine V_goto 35 d_Mod_readFresh_31 (by decide) ?_
      refine V_iconst 4 d_Mod_readFresh_35 (by decide) ?_
      refine N_callVV [.int 1, .int 4] [] cv_Mod_144 sk_116 rfl d_Mod_readFresh_36 rfl (Nat.le_of_ble_eq_true rfl) (by decide) (by decide) (c_Mod_needs h3 hI5 1 1 tc_1 4 4 tc_4 o7 o7Z o7E o7K) (fun h151 p152 => ?_)
      obtain ⟨hI153, fh151, o155, o155Z, o155E, o155K, p152⟩ := p152
      have f154 : fr S_Mod_readFresh h h151 := fr_call f6 fh151 rfl
      refine V_aload_n 0 d_Mod_readFresh_39 rfl rfl ?_
      refine N_getK fa_Mod_102 sk_116 rfl d_Mod_readFresh_40 o155K ?_
      refine V_if_ne 86 o155E d_Mod_readFresh_43 (by decide) (fun c156 => ?_) (fun c156 => ?_)
      ·
        refine V_aload_n 0 d_Mod_readFresh_86 rfl rfl ?_
        obtain ⟨z157, z157Z, z157E, z157e⟩ : ∃ (y : Int32) (Y : Int), y.toInt = Y ∧ y = h151.1 116 15 := ⟨_, _, rfl, rfl⟩
        have g158 : 0 ≤ z157Z ∧ z157Z ≤ 160 := inv_at hI153 z157E z157e rfl
        refine N_callVV [] [] cv_Mod_152 sk_116 rfl d_Mod_readFresh_87 rfl (Nat.le_of_ble_eq_true rfl) (by decide) (by decide) (c_Mod_next h151 hI153 z157 z157Z z157E z157e.symm p pZ pE (kn_call fh151 (kn_call fh3 pK rfl) rfl) o155 o155Z o155E o155K (by omega)) (fun h160 p161 => ?_)
        obtain ⟨hI162, fh160, o164, o164Z, o164E, o164K, o165, o165Z, o165E, o165K, o166, o166Z, o166E, o166K, p161⟩ := p161
        have f163 : fr S_Mod_readFresh h h160 := fr_call f154 fh160 rfl
        have g167 : 0 ≤ o164Z ∧ o164Z ≤ 160 := inv_at hI162 o164E o164K.symm rfl
        refine V_iload_n 3 d_Mod_readFresh_90 rfl rfl ?_
        exact V_iret rfl d_Mod_readFresh_91 ⟨z2, rfl, ⟨hI162, f163, o164, o164Z, o164E, o164K, o165, o165Z, o165E, o165K, o166, o166Z, o166E, o166K, (by (try rw [z2E]); omega)⟩⟩
      ·
        refine V_aload_n 0 d_Mod_readFresh_46 rfl rfl ?_
        refine V_getR fa_Mod_20 sk_116 rfl d_Mod_readFresh_47 ?_
        refine V_iload_n 1 d_Mod_readFresh_50 rfl rfl ?_
        refine V_iconst 4 d_Mod_readFresh_51 (by decide) ?_
        refine V_isub aE tc_4 (by omega) d_Mod_readFresh_52 (fun z168 z168e z168E => ?_)
        refine V_dup2 d_Mod_readFresh_53 rfl rfl ?_
        refine N_iald sk_120 z168E (by omega) d_Mod_readFresh_54 (fun z169 z169Z z169E z169e => ?_)
        refine V_iconst 1 d_Mod_readFresh_55 (by decide) ?_
        refine V_iload_n 3 d_Mod_readFresh_56 rfl rfl ?_
        refine N_ishl d_Mod_readFresh_57 (fun z170 z170Z z170E z170e => ?_)
        refine N_ior d_Mod_readFresh_58 (fun z171 z171Z z171E z171e => ?_)
        refine N_iast sk_120 z168E (by omega) d_Mod_readFresh_59 (fun h172 eh172 => ?_)
        have hI173 : Inv h172 := inv_full hI153 eh172 rfl
        have f174 : fr S_Mod_readFresh h h172 := fr_put f154 eh172 rfl
        refine V_aload_n 0 d_Mod_readFresh_60 rfl rfl ?_
        refine V_iload_n 1 d_Mod_readFresh_61 rfl rfl ?_
        refine V_bipush 8 d_Mod_readFresh_62 (by decide) ?_
        refine V_icmp_ge 79 aE tc_8 d_Mod_readFresh_64 (by decide) (fun c175 => ?_) (fun c175 => ?_)
        ·
          refine V_aload_n 0 d_Mod_readFresh_79 rfl rfl ?_
          refine N_getI fa_Mod_78 sk_116 rfl d_Mod_readFresh_80 (fun z176 z176Z z176E z176e => ?_)
          refine N_putI fp_Mod_78 sk_116 rfl d_Mod_readFresh_83 (fun h177 eh177 => ?_)
          have hI178 : Inv h177 := inv_full hI173 eh177 rfl
          have f179 : fr S_Mod_readFresh h h177 := fr_put f174 eh177 rfl
          refine V_aload_n 0 d_Mod_readFresh_86 rfl rfl ?_
          obtain ⟨z180, z180Z, z180E, z180e⟩ : ∃ (y : Int32) (Y : Int), y.toInt = Y ∧ y = h177.1 116 15 := ⟨_, _, rfl, rfl⟩
          have g181 : 0 ≤ z180Z ∧ z180Z ≤ 160 := inv_at hI178 z180E z180e rfl
          refine N_callVV [] [] cv_Mod_152 sk_116 rfl d_Mod_readFresh_87 rfl (Nat.le_of_ble_eq_true rfl) (by decide) (by decide) (c_Mod_next h177 hI178 z180 z180Z z180E z180e.symm p pZ pE (kn_nei eh177 (kn_ne eh172 (kn_call fh151 (kn_call fh3 pK rfl) rfl) (by decide)) (by decide)) o155 o155Z o155E (kn_nei eh177 (kn_ne eh172 o155K (by decide)) (by decide)) (by omega)) (fun h183 p184 => ?_)
          obtain ⟨hI185, fh183, o187, o187Z, o187E, o187K, o188, o188Z, o188E, o188K, o189, o189Z, o189E, o189K, p184⟩ := p184
          have f186 : fr S_Mod_readFresh h h183 := fr_call f179 fh183 rfl
          have g190 : 0 ≤ o187Z ∧ o187Z ≤ 160 := inv_at hI185 o187E o187K.symm rfl
          refine V_iload_n 3 d_Mod_readFresh_90 rfl rfl ?_
          exact V_iret rfl d_Mod_readFresh_91 ⟨z2, rfl, ⟨hI185, f186, o187, o187Z, o187E, o187K, o188, o188Z, o188E, o188K, o189, o189Z, o189E, o189K, (by (try rw [z2E]); omega)⟩⟩
        ·
          refine V_iload_n 3 d_Mod_readFresh_67 rfl rfl ?_
          refine V_aload_n 0 d_Mod_readFresh_68 rfl rfl ?_
          refine N_getI fa_Mod_78 sk_116 rfl d_Mod_readFresh_69 (fun z191 z191Z z191E z191e => ?_)
          refine V_icmp_le 79 z2E z191E d_Mod_readFresh_72 (by decide) (fun c192 => ?_) (fun c192 => ?_)
          ·
            refine V_aload_n 0 d_Mod_readFresh_79 rfl rfl ?_
            refine N_getK fa_Mod_78 sk_116 rfl d_Mod_readFresh_80 z191e.symm ?_
            refine N_putI fp_Mod_78 sk_116 rfl d_Mod_readFresh_83 (fun h193 eh193 => ?_)
            have hI194 : Inv h193 := inv_full hI173 eh193 rfl
            have f195 : fr S_Mod_readFresh h h193 := fr_put f174 eh193 rfl
            refine V_aload_n 0 d_Mod_readFresh_86 rfl rfl ?_
            obtain ⟨z196, z196Z, z196E, z196e⟩ : ∃ (y : Int32) (Y : Int), y.toInt = Y ∧ y = h193.1 116 15 := ⟨_, _, rfl, rfl⟩
            have g197 : 0 ≤ z196Z ∧ z196Z ≤ 160 := inv_at hI194 z196E z196e rfl
            refine N_callVV [] [] cv_Mod_152 sk_116 rfl d_Mod_readFresh_87 rfl (Nat.le_of_ble_eq_true rfl) (by decide) (by decide) (c_Mod_next h193 hI194 z196 z196Z z196E z196e.symm p pZ pE (kn_nei eh193 (kn_ne eh172 (kn_call fh151 (kn_call fh3 pK rfl) rfl) (by decide)) (by decide)) o155 o155Z o155E (kn_nei eh193 (kn_ne eh172 o155K (by decide)) (by decide)) (by omega)) (fun h199 p200 => ?_)
            obtain ⟨hI201, fh199, o203, o203Z, o203E, o203K, o204, o204Z, o204E, o204K, o205, o205Z, o205E, o205K, p200⟩ := p200
            have f202 : fr S_Mod_readFresh h h199 := fr_call f195 fh199 rfl
            have g206 : 0 ≤ o203Z ∧ o203Z ≤ 160 := inv_at hI201 o203E o203K.symm rfl
            refine V_iload_n 3 d_Mod_readFresh_90 rfl rfl ?_
            exact V_iret rfl d_Mod_readFresh_91 ⟨z2, rfl, ⟨hI201, f202, o203, o203Z, o203E, o203K, o204, o204Z, o204E, o204K, o205, o205Z, o205E, o205K, (by (try rw [z2E]); omega)⟩⟩
          ·
            refine V_iload_n 3 d_Mod_readFresh_75 rfl rfl ?_
            refine V_goto 83 d_Mod_readFresh_76 (by decide) ?_
            refine N_putI fp_Mod_78 sk_116 rfl d_Mod_readFresh_83 (fun h207 eh207 => ?_)
            have hI208 : Inv h207 := inv_full hI173 eh207 rfl
            have f209 : fr S_Mod_readFresh h h207 := fr_put f174 eh207 rfl
            refine V_aload_n 0 d_Mod_readFresh_86 rfl rfl ?_
            obtain ⟨z210, z210Z, z210E, z210e⟩ : ∃ (y : Int32) (Y : Int), y.toInt = Y ∧ y = h207.1 116 15 := ⟨_, _, rfl, rfl⟩
            have g211 : 0 ≤ z210Z ∧ z210Z ≤ 160 := inv_at hI208 z210E z210e rfl
            refine N_callVV [] [] cv_Mod_152 sk_116 rfl d_Mod_readFresh_87 rfl (Nat.le_of_ble_eq_true rfl) (by decide) (by decide) (c_Mod_next h207 hI208 z210 z210Z z210E z210e.symm p pZ pE (kn_nei eh207 (kn_ne eh172 (kn_call fh151 (kn_call fh3 pK rfl) rfl) (by decide)) (by decide)) o155 o155Z o155E (kn_nei eh207 (kn_ne eh172 o155K (by decide)) (by decide)) (by omega)) (fun h213 p214 => ?_)
            obtain ⟨hI215, fh213, o217, o217Z, o217E, o217K, o218, o218Z, o218E, o218K, o219, o219Z, o219E, o219K, p214⟩ := p214
            have f216 : fr S_Mod_readFresh h h213 := fr_call f209 fh213 rfl
            have g220 : 0 ≤ o217Z ∧ o217Z ≤ 160 := inv_at hI215 o217E o217K.symm rfl
            refine V_iload_n 3 d_Mod_readFresh_90 rfl rfl ?_
            exact V_iret rfl d_Mod_readFresh_91 ⟨z2, rfl, ⟨hI215, f216, o217, o217Z, o217E, o217K, o218, o218Z, o218E, o218K, o219, o219Z, o219E, o219K, (by (try rw [z2E]); omega)⟩⟩
theorem d_Mod_readRod_0 : decode b_Mod_readRod 0 = .ok (.aload_n 0, 1) := by decide +kernel
theorem d_Mod_readRod_1 : decode b_Mod_readRod 1 = .ok (.getfield 102, 3) := by decide +kernel
theorem d_Mod_readRod_4 : decode b_Mod_readRod 4 = .ok (.ifCond .ne 18, 3) := by decide +kernel
theorem d_Mod_readRod_7 : decode b_Mod_readRod 7 = .ok (.aload_n 0, 1) := by decide +kernel
theorem d_Mod_readRod_8 : decode b_Mod_readRod 8 = .ok (.getfield 130, 3) := by decide +kernel
theorem d_Mod_readRod_11 : decode b_Mod_readRod 11 = .ok (.iconst 1, 1) := by decide +kernel
theorem d_Mod_readRod_12 : decode b_Mod_readRod 12 = .ok (.if_icmp .ne 10, 3) := by decide +kernel
theorem d_Mod_readRod_15 : decode b_Mod_readRod 15 = .ok (.aload_n 0, 1) := by decide +kernel
theorem d_Mod_readRod_16 : decode b_Mod_readRod 16 = .ok (.invokevirtual 155, 3) := by decide +kernel
theorem d_Mod_readRod_19 : decode b_Mod_readRod 19 = .ok (.goto 5, 3) := by decide +kernel
theorem d_Mod_readRod_22 : decode b_Mod_readRod 22 = .ok (.bipush (-4), 2) := by decide +kernel
theorem d_Mod_readRod_24 : decode b_Mod_readRod 24 = .ok (.istore_n 1, 1) := by decide +kernel
theorem d_Mod_readRod_25 : decode b_Mod_readRod 25 = .ok (.aload_n 0, 1) := by decide +kernel
theorem d_Mod_readRod_26 : decode b_Mod_readRod 26 = .ok (.iload_n 1, 1) := by decide +kernel
theorem d_Mod_readRod_27 : decode b_Mod_readRod 27 = .ok (.bipush (-4), 2) := by decide +kernel
theorem d_Mod_readRod_29 : decode b_Mod_readRod 29 = .ok (.if_icmp .eq 7, 3) := by decide +kernel
theorem d_Mod_readRod_32 : decode b_Mod_readRod 32 = .ok (.iconst 1, 1) := by decide +kernel
theorem d_Mod_readRod_33 : decode b_Mod_readRod 33 = .ok (.goto 4, 3) := by decide +kernel
theorem d_Mod_readRod_36 : decode b_Mod_readRod 36 = .ok (.iconst 0, 1) := by decide +kernel
theorem d_Mod_readRod_37 : decode b_Mod_readRod 37 = .ok (.iconst 2, 1) := by decide +kernel
theorem d_Mod_readRod_38 : decode b_Mod_readRod 38 = .ok (.invokevirtual 144, 3) := by decide +kernel
theorem d_Mod_readRod_41 : decode b_Mod_readRod 41 = .ok (.aload_n 0, 1) := by decide +kernel
theorem d_Mod_readRod_42 : decode b_Mod_readRod 42 = .ok (.invokevirtual 152, 3) := by decide +kernel
theorem d_Mod_readRod_45 : decode b_Mod_readRod 45 = .ok (.aload_n 0, 1) := by decide +kernel
theorem d_Mod_readRod_46 : decode b_Mod_readRod 46 = .ok (.getfield 17, 3) := by decide +kernel
theorem d_Mod_readRod_49 : decode b_Mod_readRod 49 = .ok (.bipush 84, 2) := by decide +kernel
theorem d_Mod_readRod_51 : decode b_Mod_readRod 51 = .ok (.iload_n 1, 1) := by decide +kernel
theorem d_Mod_readRod_52 : decode b_Mod_readRod 52 = .ok (.iastore, 1) := by decide +kernel
theorem d_Mod_readRod_53 : decode b_Mod_readRod 53 = .ok (.aload_n 0, 1) := by decide +kernel
theorem d_Mod_readRod_54 : decode b_Mod_readRod 54 = .ok (.getfield 17, 3) := by decide +kernel
theorem d_Mod_readRod_57 : decode b_Mod_readRod 57 = .ok (.bipush 85, 2) := by decide +kernel
theorem d_Mod_readRod_59 : decode b_Mod_readRod 59 = .ok (.aload_n 0, 1) := by decide +kernel
theorem d_Mod_readRod_60 : decode b_Mod_readRod 60 = .ok (.iconst 1, 1) := by decide +kernel
theorem d_Mod_readRod_61 : decode b_Mod_readRod 61 = .ok (.bipush 9, 2) := by decide +kernel
theorem d_Mod_readRod_63 : decode b_Mod_readRod 63 = .ok (.invokevirtual 158, 3) := by decide +kernel
theorem d_Mod_readRod_66 : decode b_Mod_readRod 66 = .ok (.iastore, 1) := by decide +kernel
theorem d_Mod_readRod_67 : decode b_Mod_readRod 67 = .ok (.return_, 1) := by decide +kernel
def S_Mod_readRod : List (Nat × Option Nat) := [(116, some 16), (116, some 17), (116, some 18), (116, some 19), (116, some 20), (116, some 21), (119, none)]
abbrev q_Mod_readRod (h : Hp) (p : Int32) (pZ : Int) (f : Int32) (fZ : Int) : Option Value → Hp → Prop := pVd (fun h' => Inv h' ∧ fr S_Mod_readRod h h' ∧ ∃ (q : Int32) (qZ : Int), q.toInt = qZ ∧ h'.1 116 16 = q ∧ ∃ (u : Int32) (uZ : Int), u.toInt = uZ ∧ h'.1 116 20 = u ∧ ∃ (s : Int32) (sZ : Int), s.toInt = sZ ∧ h'.1 116 18 = s ∧ ((fZ = 0 ∨ uZ ≠ 0) ∧ 0 ≤ uZ ∧ pZ ≤ qZ ∧ (uZ ≠ 0 ∨ sZ ≠ 3 ∨ pZ + 1 ≤ qZ)))
set_option maxRecDepth 100000 in
theorem c_Mod_readRod (h : Hp) (hI : Inv h) (p : Int32) (pZ : Int) (pE : p.toInt = pZ) (pK : h.1 116 16 = p) (f : Int32) (fZ : Int) (fE : f.toInt = fZ) (fK : h.1 116 20 = f) (hy0 : 0 ≤ fZ) : Ct y_Mod_readRod b_Mod_readRod 2 none 3 70 [.ref 116] h (q_Mod_readRod h p pZ f fZ) := by
  refine ct_ow R_Mod [some (.ref 116), none] rfl (by decide) rfl (Nat.le_of_ble_eq_true rfl) ?_
  have f0 : fr S_Mod_readRod h h := fr_rf
  have g1 : 0 ≤ pZ ∧ pZ ≤ 160 := inv_at hI pE pK.symm rfl
  refine V_aload_n 0 d_Mod_readRod_0 rfl rfl ?_
  refine N_getK fa_Mod_102 sk_116 rfl d_Mod_readRod_1 fK ?_
  refine V_if_ne 22 fE d_Mod_readRod_4 (by decide) (fun c2 => ?_) (fun c2 => ?_)
  ·
    refine V_bipush (-4) d_Mod_readRod_22 (by decide) ?_
    refine V_istore_n 1 [some (.ref 116), some (.int (-4))] d_Mod_readRod_24 rfl (by decide) rfl rfl ?_
    refine V_aload_n 0 d_Mod_readRod_25 rfl rfl ?_
    refine V_iload_n 1 d_Mod_readRod_26 rfl rfl ?_
    refine V_bipush (-4) d_Mod_readRod_27 (by decide) ?_
    refine V_icmp_eq 36 tc_m4 tc_m4 d_Mod_readRod_29 (by decide) (fun c3 => ?_) (fun c3 => ?_)
    ·
      refine V_iconst 0 d_Mod_readRod_36 (by decide) ?_
      refine V_iconst 2 d_Mod_readRod_37 (by decide) ?_
      refine N_callVV [.int 0, .int 2] [] cv_Mod_144 sk_116 rfl d_Mod_readRod_38 rfl (Nat.le_of_ble_eq_true rfl) (by decide) (by decide) (c_Mod_needs h hI 0 0 tc_0 2 2 tc_2 f fZ fE fK) (fun h5 p6 => ?_)
      obtain ⟨hI7, fh5, o9, o9Z, o9E, o9K, p6⟩ := p6
      have f8 : fr S_Mod_readRod h h5 := fr_call f0 fh5 rfl
      refine V_aload_n 0 d_Mod_readRod_41 rfl rfl ?_
      obtain ⟨z10, z10Z, z10E, z10e⟩ : ∃ (y : Int32) (Y : Int), y.toInt = Y ∧ y = h5.1 116 15 := ⟨_, _, rfl, rfl⟩
      have g11 : 0 ≤ z10Z ∧ z10Z ≤ 160 := inv_at hI7 z10E z10e rfl
      refine N_callVV [] [] cv_Mod_152 sk_116 rfl d_Mod_readRod_42 rfl (Nat.le_of_ble_eq_true rfl) (by decide) (by decide) (c_Mod_next h5 hI7 z10 z10Z z10E z10e.symm p pZ pE (kn_call fh5 pK rfl) o9 o9Z o9E o9K (by omega)) (fun h13 p14 => ?_)
      obtain ⟨hI15, fh13, o17, o17Z, o17E, o17K, o18, o18Z, o18E, o18K, o19, o19Z, o19E, o19K, p14⟩ := p14
      have f16 : fr S_Mod_readRod h h13 := fr_call f8 fh13 rfl
      have g20 : 0 ≤ o17Z ∧ o17Z ≤ 160 := inv_at hI15 o17E o17K.symm rfl
      refine V_aload_n 0 d_Mod_readRod_45 rfl rfl ?_
      refine V_getR fa_Mod_17 sk_116 rfl d_Mod_readRod_46 ?_
      refine V_bipush 84 d_Mod_readRod_49 (by decide) ?_
      refine V_iload_n 1 d_Mod_readRod_51 rfl rfl ?_
      refine N_iast sk_119 tc_84 (by omega) d_Mod_readRod_52 (fun h21 eh21 => ?_)
      have hI22 : Inv h21 := inv_full hI15 eh21 rfl
      have f23 : fr S_Mod_readRod h h21 := fr_put f16 eh21 rfl
      refine V_aload_n 0 d_Mod_readRod_53 rfl rfl ?_
      refine V_getR fa_Mod_17 sk_116 rfl d_Mod_readRod_54 ?_
      refine V_bipush 85 d_Mod_readRod_57 (by decide) ?_
      refine V_aload_n 0 d_Mod_readRod_59 rfl rfl ?_
      refine V_iconst 1 d_Mod_readRod_60 (by decide) ?_
      refine V_bipush 9 d_Mod_readRod_61 (by decide) ?_
      refine N_callVI [.int 1, .int 9] [.int 85, .ref 119] cv_Mod_158 sk_116 rfl d_Mod_readRod_63 rfl (Nat.le_of_ble_eq_true rfl) (by decide) (by decide) (c_Mod_readNumber h21 hI22 1 1 tc_1 9 9 tc_9 o17 o17Z o17E (kn_ne eh21 o17K (by decide)) o18 o18Z o18E (kn_ne eh21 o18K (by decide)) (by omega) (by omega)) (fun z24 h25 z24Z z24E p26 => ?_)
      obtain ⟨hI27, fh25, o29, o29Z, o29E, o29K, o30, o30Z, o30E, o30K, o31, o31Z, o31E, o31K, p26⟩ := p26
      have f28 : fr S_Mod_readRod h h25 := fr_call f23 fh25 rfl
      have g32 : 0 ≤ o29Z ∧ o29Z ≤ 160 := inv_at hI27 o29E o29K.symm rfl
      refine N_iast sk_119 tc_85 (by omega) d_Mod_readRod_66 (fun h33 eh33 => ?_)
      have hI34 : Inv h33 := inv_full hI27 eh33 rfl
      have f35 : fr S_Mod_readRod h h33 := fr_put f28 eh33 rfl
      exact V_vret rfl d_Mod_readRod_67 ⟨rfl, ⟨hI34, f35, o29, o29Z, o29E, (kn_ne eh33 o29K (by decide)), o30, o30Z, o30E, (kn_ne eh33 o30K (by decide)), o31, o31Z, o31E, (kn_ne eh33 o31K (by decide)), (by omega)⟩⟩
    ·
      exact absurd c3 (by decide)
  ·
    refine V_aload_n 0 d_Mod_readRod_7 rfl rfl ?_
    refine N_getI fa_Mod_130 sk_116 rfl d_Mod_readRod_8 (fun z36 z36Z z36E z36e => ?_)
    refine V_iconst 1 d_Mod_readRod_11 (by decide) ?_
    refine V_icmp_ne 22 z36E tc_1 d_Mod_readRod_12 (by decide) (fun c37 => ?_) (fun c37 => ?_)
    ·
      refine V_bipush (-4) d_Mod_readRod_22 (by decide) ?_
      refine V_istore_n 1 [some (.ref 116), some (.int (-4))] d_Mod_readRod_24 rfl (by decide) rfl rfl ?_
      refine V_aload_n 0 d_Mod_readRod_25 rfl rfl ?_
      refine V_iload_n 1 d_Mod_readRod_26 rfl rfl ?_
      refine V_bipush (-4) d_Mod_readRod_27 (by decide) ?_
      refine V_icmp_eq 36 tc_m4 tc_m4 d_Mod_readRod_29 (by decide) (fun c38 => ?_) (fun c38 => ?_)
      ·
        refine V_iconst 0 d_Mod_readRod_36 (by decide) ?_
        refine V_iconst 2 d_Mod_readRod_37 (by decide) ?_
        refine N_callVV [.int 0, .int 2] [] cv_Mod_144 sk_116 rfl d_Mod_readRod_38 rfl (Nat.le_of_ble_eq_true rfl) (by decide) (by decide) (c_Mod_needs h hI 0 0 tc_0 2 2 tc_2 f fZ fE fK) (fun h40 p41 => ?_)
        obtain ⟨hI42, fh40, o44, o44Z, o44E, o44K, p41⟩ := p41
        have f43 : fr S_Mod_readRod h h40 := fr_call f0 fh40 rfl
        refine V_aload_n 0 d_Mod_readRod_41 rfl rfl ?_
        obtain ⟨z45, z45Z, z45E, z45e⟩ : ∃ (y : Int32) (Y : Int), y.toInt = Y ∧ y = h40.1 116 15 := ⟨_, _, rfl, rfl⟩
        have g46 : 0 ≤ z45Z ∧ z45Z ≤ 160 := inv_at hI42 z45E z45e rfl
        refine N_callVV [] [] cv_Mod_152 sk_116 rfl d_Mod_readRod_42 rfl (Nat.le_of_ble_eq_true rfl) (by decide) (by decide) (c_Mod_next h40 hI42 z45 z45Z z45E z45e.symm p pZ pE (kn_call fh40 pK rfl) o44 o44Z o44E o44K (by omega)) (fun h48 p49 => ?_)
        obtain ⟨hI50, fh48, o52, o52Z, o52E, o52K, o53, o53Z, o53E, o53K, o54, o54Z, o54E, o54K, p49⟩ := p49
        have f51 : fr S_Mod_readRod h h48 := fr_call f43 fh48 rfl
        have g55 : 0 ≤ o52Z ∧ o52Z ≤ 160 := inv_at hI50 o52E o52K.symm rfl
        refine V_aload_n 0 d_Mod_readRod_45 rfl rfl ?_
        refine V_getR fa_Mod_17 sk_116 rfl d_Mod_readRod_46 ?_
        refine V_bipush 84 d_Mod_readRod_49 (by decide) ?_
        refine V_iload_n 1 d_Mod_readRod_51 rfl rfl ?_
        refine N_iast sk_119 tc_84 (by omega) d_Mod_readRod_52 (fun h56 eh56 => ?_)
        have hI57 : Inv h56 := inv_full hI50 eh56 rfl
        have f58 : fr S_Mod_readRod h h56 := fr_put f51 eh56 rfl
        refine V_aload_n 0 d_Mod_readRod_53 rfl rfl ?_
        refine V_getR fa_Mod_17 sk_116 rfl d_Mod_readRod_54 ?_
        refine V_bipush 85 d_Mod_readRod_57 (by decide) ?_
        refine V_aload_n 0 d_Mod_readRod_59 rfl rfl ?_
        refine V_iconst 1 d_Mod_readRod_60 (by decide) ?_
        refine V_bipush 9 d_Mod_readRod_61 (by decide) ?_
        refine N_callVI [.int 1, .int 9] [.int 85, .ref 119] cv_Mod_158 sk_116 rfl d_Mod_readRod_63 rfl (Nat.le_of_ble_eq_true rfl) (by decide) (by decide) (c_Mod_readNumber h56 hI57 1 1 tc_1 9 9 tc_9 o52 o52Z o52E (kn_ne eh56 o52K (by decide)) o53 o53Z o53E (kn_ne eh56 o53K (by decide)) (by omega) (by omega)) (fun z59 h60 z59Z z59E p61 => ?_)
        obtain ⟨hI62, fh60, o64, o64Z, o64E, o64K, o65, o65Z, o65E, o65K, o66, o66Z, o66E, o66K, p61⟩ := p61
        have f63 : fr S_Mod_readRod h h60 := fr_call f58 fh60 rfl
        have g67 : 0 ≤ o64Z ∧ o64Z ≤ 160 := inv_at hI62 o64E o64K.symm rfl
        refine N_iast sk_119 tc_85 (by omega) d_Mod_readRod_66 (fun h68 eh68 => ?_)
        have hI69 : Inv h68 := inv_full hI62 eh68 rfl
        have f70 : fr S_Mod_readRod h h68 := fr_put f63 eh68 rfl
        exact V_vret rfl d_Mod_readRod_67 ⟨rfl, ⟨hI69, f70, o64, o64Z, o64E, (kn_ne eh68 o64K (by decide)), o65, o65Z, o65E, (kn_ne eh68 o65K (by decide)), o66, o66Z, o66E, (kn_ne eh68 o66K (by decide)), (by omega)⟩⟩
      ·
        exact absurd c38 (by decide)
    ·
      refine V_aload_n 0 d_Mod_readRod_15 rfl rfl ?_
      refine N_callVI [] [] cv_Mod_155 sk_116 rfl d_Mod_readRod_16 rfl (Nat.le_of_ble_eq_true rfl) (by decide) (by decide) (c_Mod_natureNow h hI) (fun z71 h72 z71Z z71E p73 => ?_)
      obtain ⟨eh72, p73⟩ := p73
      subst eh72
      refine V_goto 24 d_Mod_readRod_19 (by decide) ?_
      refine V_istore_n 1 [some (.ref 116), some (.int z71)] d_Mod_readRod_24 rfl (by decide) rfl rfl ?_
      refine V_aload_n 0 d_Mod_readRod_25 rfl rfl ?_
      refine V_iload_n 1 d_Mod_readRod_26 rfl rfl ?_
      refine V_bipush (-4) d_Mod_readRod_27 (by decide) ?_
      refine V_icmp_eq 36 z71E tc_m4 d_Mod_readRod_29 (by decide) (fun c74 => ?_) (fun c74 => ?_)
      ·
        refine V_iconst 0 d_Mod_readRod_36 (by decide) ?_
        refine V_iconst 2 d_Mod_readRod_37 (by decide) ?_
        refine N_callVV [.int 0, .int 2] [] cv_Mod_144 sk_116 rfl d_Mod_readRod_38 rfl (Nat.le_of_ble_eq_true rfl) (by decide) (by decide) (c_Mod_needs h hI 0 0 tc_0 2 2 tc_2 f fZ fE fK) (fun h76 p77 => ?_)
        obtain ⟨hI78, fh76, o80, o80Z, o80E, o80K, p77⟩ := p77
        have f79 : fr S_Mod_readRod h h76 := fr_call f0 fh76 rfl
        refine V_aload_n 0 d_Mod_readRod_41 rfl rfl ?_
        obtain ⟨z81, z81Z, z81E, z81e⟩ : ∃ (y : Int32) (Y : Int), y.toInt = Y ∧ y = h76.1 116 15 := ⟨_, _, rfl, rfl⟩
        have g82 : 0 ≤ z81Z ∧ z81Z ≤ 160 := inv_at hI78 z81E z81e rfl
        refine N_callVV [] [] cv_Mod_152 sk_116 rfl d_Mod_readRod_42 rfl (Nat.le_of_ble_eq_true rfl) (by decide) (by decide) (c_Mod_next h76 hI78 z81 z81Z z81E z81e.symm p pZ pE (kn_call fh76 pK rfl) o80 o80Z o80E o80K (by omega)) (fun h84 p85 => ?_)
        obtain ⟨hI86, fh84, o88, o88Z, o88E, o88K, o89, o89Z, o89E, o89K, o90, o90Z, o90E, o90K, p85⟩ := p85
        have f87 : fr S_Mod_readRod h h84 := fr_call f79 fh84 rfl
        have g91 : 0 ≤ o88Z ∧ o88Z ≤ 160 := inv_at hI86 o88E o88K.symm rfl
        refine V_aload_n 0 d_Mod_readRod_45 rfl rfl ?_
        refine V_getR fa_Mod_17 sk_116 rfl d_Mod_readRod_46 ?_
        refine V_bipush 84 d_Mod_readRod_49 (by decide) ?_
        refine V_iload_n 1 d_Mod_readRod_51 rfl rfl ?_
        refine N_iast sk_119 tc_84 (by omega) d_Mod_readRod_52 (fun h92 eh92 => ?_)
        have hI93 : Inv h92 := inv_full hI86 eh92 rfl
        have f94 : fr S_Mod_readRod h h92 := fr_put f87 eh92 rfl
        refine V_aload_n 0 d_Mod_readRod_53 rfl rfl ?_
        refine V_getR fa_Mod_17 sk_116 rfl d_Mod_readRod_54 ?_
        refine V_bipush 85 d_Mod_readRod_57 (by decide) ?_
        refine V_aload_n 0 d_Mod_readRod_59 rfl rfl ?_
        refine V_iconst 1 d_Mod_readRod_60 (by decide) ?_
        refine V_bipush 9 d_Mod_readRod_61 (by decide) ?_
        refine N_callVI [.int 1, .int 9] [.int 85, .ref 119] cv_Mod_158 sk_116 rfl d_Mod_readRod_63 rfl (Nat.le_of_ble_eq_true rfl) (by decide) (by decide) (c_Mod_readNumber h92 hI93 1 1 tc_1 9 9 tc_9 o88 o88Z o88E (kn_ne eh92 o88K (by decide)) o89 o89Z o89E (kn_ne eh92 o89K (by decide)) (by omega) (by omega)) (fun z95 h96 z95Z z95E p97 => ?_)
        obtain ⟨hI98, fh96, o100, o100Z, o100E, o100K, o101, o101Z, o101E, o101K, o102, o102Z, o102E, o102K, p97⟩ := p97
        have f99 : fr S_Mod_readRod h h96 := fr_call f94 fh96 rfl
        have g103 : 0 ≤ o100Z ∧ o100Z ≤ 160 := inv_at hI98 o100E o100K.symm rfl
        refine N_iast sk_119 tc_85 (by omega) d_Mod_readRod_66 (fun h104 eh104 => ?_)
        have hI105 : Inv h104 := inv_full hI98 eh104 rfl
        have f106 : fr S_Mod_readRod h h104 := fr_put f99 eh104 rfl
        exact V_vret rfl d_Mod_readRod_67 ⟨rfl, ⟨hI105, f106, o100, o100Z, o100E, (kn_ne eh104 o100K (by decide)), o101, o101Z, o101E, (kn_ne eh104 o101K (by decide)), o102, o102Z, o102E, (kn_ne eh104 o102K (by decide)), (by omega)⟩⟩
      ·
        refine V_iconst 1 d_Mod_readRod_32 (by decide) ?_
        refine V_goto 37 d_Mod_readRod_33 (by decide) ?_
        refine V_iconst 2 d_Mod_readRod_37 (by decide) ?_
        refine N_callVV [.int 1, .int 2] [] cv_Mod_144 sk_116 rfl d_Mod_readRod_38 rfl (Nat.le_of_ble_eq_true rfl) (by decide) (by decide) (c_Mod_needs h hI 1 1 tc_1 2 2 tc_2 f fZ fE fK) (fun h108 p109 => ?_)
        obtain ⟨hI110, fh108, o112, o112Z, o112E, o112K, p109⟩ := p109
        have f111 : fr S_Mod_readRod h h108 := fr_call f0 fh108 rfl
        refine V_aload_n 0 d_Mod_readRod_41 rfl rfl ?_
        obtain ⟨z113, z113Z, z113E, z113e⟩ : ∃ (y : Int32) (Y : Int), y.toInt = Y ∧ y = h108.1 116 15 := ⟨_, _, rfl, rfl⟩
        have g114 : 0 ≤ z113Z ∧ z113Z ≤ 160 := inv_at hI110 z113E z113e rfl
        refine N_callVV [] [] cv_Mod_152 sk_116 rfl d_Mod_readRod_42 rfl (Nat.le_of_ble_eq_true rfl) (by decide) (by decide) (c_Mod_next h108 hI110 z113 z113Z z113E z113e.symm p pZ pE (kn_call fh108 pK rfl) o112 o112Z o112E o112K (by omega)) (fun h116 p117 => ?_)
        obtain ⟨hI118, fh116, o120, o120Z, o120E, o120K, o121, o121Z, o121E, o121K, o122, o122Z, o122E, o122K, p117⟩ := p117
        have f119 : fr S_Mod_readRod h h116 := fr_call f111 fh116 rfl
        have g123 : 0 ≤ o120Z ∧ o120Z ≤ 160 := inv_at hI118 o120E o120K.symm rfl
        refine V_aload_n 0 d_Mod_readRod_45 rfl rfl ?_
        refine V_getR fa_Mod_17 sk_116 rfl d_Mod_readRod_46 ?_
        refine V_bipush 84 d_Mod_readRod_49 (by decide) ?_
        refine V_iload_n 1 d_Mod_readRod_51 rfl rfl ?_
        refine N_iast sk_119 tc_84 (by omega) d_Mod_readRod_52 (fun h124 eh124 => ?_)
        have hI125 : Inv h124 := inv_full hI118 eh124 rfl
        have f126 : fr S_Mod_readRod h h124 := fr_put f119 eh124 rfl
        refine V_aload_n 0 d_Mod_readRod_53 rfl rfl ?_
        refine V_getR fa_Mod_17 sk_116 rfl d_Mod_readRod_54 ?_
        refine V_bipush 85 d_Mod_readRod_57 (by decide) ?_
        refine V_aload_n 0 d_Mod_readRod_59 rfl rfl ?_
        refine V_iconst 1 d_Mod_readRod_60 (by decide) ?_
        refine V_bipush 9 d_Mod_readRod_61 (by decide) ?_
        refine N_callVI [.int 1, .int 9] [.int 85, .ref 119] cv_Mod_158 sk_116 rfl d_Mod_readRod_63 rfl (Nat.le_of_ble_eq_true rfl) (by decide) (by decide) (c_Mod_readNumber h124 hI125 1 1 tc_1 9 9 tc_9 o120 o120Z o120E (kn_ne eh124 o120K (by decide)) o121 o121Z o121E (kn_ne eh124 o121K (by decide)) (by omega) (by omega)) (fun z127 h128 z127Z z127E p129 => ?_)
        obtain ⟨hI130, fh128, o132, o132Z, o132E, o132K, o133, o133Z, o133E, o133K, o134, o134Z, o134E, o134K, p129⟩ := p129
        have f131 : fr S_Mod_readRod h h128 := fr_call f126 fh128 rfl
        have g135 : 0 ≤ o132Z ∧ o132Z ≤ 160 := inv_at hI130 o132E o132K.symm rfl
        refine N_iast sk_119 tc_85 (by omega) d_Mod_readRod_66 (fun h136 eh136 => ?_)
        have hI137 : Inv h136 := inv_full hI130 eh136 rfl
        have f138 : fr S_Mod_readRod h h136 := fr_put f131 eh136 rfl
        exact V_vret rfl d_Mod_readRod_67 ⟨rfl, ⟨hI137, f138, o132, o132Z, o132E, (kn_ne eh136 o132K (by decide)), o133, o133Z, o133E, (kn_ne eh136 o133K (by decide)), o134, o134Z, o134E, (kn_ne eh136 o134K (by decide)), (by omega)⟩⟩
theorem d_Mod_readDebt_0 : decode b_Mod_readDebt 0 = .ok (.bipush 87, 2) := by decide +kernel
theorem d_Mod_readDebt_2 : decode b_Mod_readDebt 2 = .ok (.iconst 3, 1) := by decide +kernel
theorem d_Mod_readDebt_3 : decode b_Mod_readDebt 3 = .ok (.aload_n 0, 1) := by decide +kernel
theorem d_Mod_readDebt_4 : decode b_Mod_readDebt 4 = .ok (.getfield 17, 3) := by decide +kernel
theorem d_Mod_readDebt_7 : decode b_Mod_readDebt 7 = .ok (.bipush 86, 2) := by decide +kernel
theorem d_Mod_readDebt_9 : decode b_Mod_readDebt 9 = .ok (.iaload, 1) := by decide +kernel
theorem d_Mod_readDebt_10 : decode b_Mod_readDebt 10 = .ok (.imul, 1) := by decide +kernel
theorem d_Mod_readDebt_11 : decode b_Mod_readDebt 11 = .ok (.iadd, 1) := by decide +kernel
theorem d_Mod_readDebt_12 : decode b_Mod_readDebt 12 = .ok (.istore_n 1, 1) := by decide +kernel
theorem d_Mod_readDebt_13 : decode b_Mod_readDebt 13 = .ok (.aload_n 0, 1) := by decide +kernel
theorem d_Mod_readDebt_14 : decode b_Mod_readDebt 14 = .ok (.getfield 17, 3) := by decide +kernel
theorem d_Mod_readDebt_17 : decode b_Mod_readDebt 17 = .ok (.iload_n 1, 1) := by decide +kernel
theorem d_Mod_readDebt_18 : decode b_Mod_readDebt 18 = .ok (.aload_n 0, 1) := by decide +kernel
theorem d_Mod_readDebt_19 : decode b_Mod_readDebt 19 = .ok (.iconst 0, 1) := by decide +kernel
theorem d_Mod_readDebt_20 : decode b_Mod_readDebt 20 = .ok (.iconst 3, 1) := by decide +kernel
theorem d_Mod_readDebt_21 : decode b_Mod_readDebt 21 = .ok (.invokevirtual 158, 3) := by decide +kernel
theorem d_Mod_readDebt_24 : decode b_Mod_readDebt 24 = .ok (.iastore, 1) := by decide +kernel
theorem d_Mod_readDebt_25 : decode b_Mod_readDebt 25 = .ok (.aload_n 0, 1) := by decide +kernel
theorem d_Mod_readDebt_26 : decode b_Mod_readDebt 26 = .ok (.iconst 0, 1) := by decide +kernel
theorem d_Mod_readDebt_27 : decode b_Mod_readDebt 27 = .ok (.iconst 3, 1) := by decide +kernel
theorem d_Mod_readDebt_28 : decode b_Mod_readDebt 28 = .ok (.invokevirtual 148, 3) := by decide +kernel
theorem d_Mod_readDebt_31 : decode b_Mod_readDebt 31 = .ok (.istore_n 2, 1) := by decide +kernel
theorem d_Mod_readDebt_32 : decode b_Mod_readDebt 32 = .ok (.aload_n 0, 1) := by decide +kernel
theorem d_Mod_readDebt_33 : decode b_Mod_readDebt 33 = .ok (.getfield 102, 3) := by decide +kernel
theorem d_Mod_readDebt_36 : decode b_Mod_readDebt 36 = .ok (.ifCond .ne 23, 3) := by decide +kernel
theorem d_Mod_readDebt_39 : decode b_Mod_readDebt 39 = .ok (.aload_n 0, 1) := by decide +kernel
theorem d_Mod_readDebt_40 : decode b_Mod_readDebt 40 = .ok (.iload_n 2, 1) := by decide +kernel
theorem d_Mod_readDebt_41 : decode b_Mod_readDebt 41 = .ok (.aload_n 0, 1) := by decide +kernel
theorem d_Mod_readDebt_42 : decode b_Mod_readDebt 42 = .ok (.getfield 17, 3) := by decide +kernel
theorem d_Mod_readDebt_45 : decode b_Mod_readDebt 45 = .ok (.iload_n 1, 1) := by decide +kernel
theorem d_Mod_readDebt_46 : decode b_Mod_readDebt 46 = .ok (.iaload, 1) := by decide +kernel
theorem d_Mod_readDebt_47 : decode b_Mod_readDebt 47 = .ok (.if_icmp .eq 7, 3) := by decide +kernel
theorem d_Mod_readDebt_50 : decode b_Mod_readDebt 50 = .ok (.iconst 1, 1) := by decide +kernel
theorem d_Mod_readDebt_51 : decode b_Mod_readDebt 51 = .ok (.goto 4, 3) := by decide +kernel
theorem d_Mod_readDebt_54 : decode b_Mod_readDebt 54 = .ok (.iconst 0, 1) := by decide +kernel
theorem d_Mod_readDebt_55 : decode b_Mod_readDebt 55 = .ok (.iconst 4, 1) := by decide +kernel
theorem d_Mod_readDebt_56 : decode b_Mod_readDebt 56 = .ok (.invokevirtual 144, 3) := by decide +kernel
theorem d_Mod_readDebt_59 : decode b_Mod_readDebt 59 = .ok (.aload_n 0, 1) := by decide +kernel
theorem d_Mod_readDebt_60 : decode b_Mod_readDebt 60 = .ok (.invokevirtual 152, 3) := by decide +kernel
theorem d_Mod_readDebt_63 : decode b_Mod_readDebt 63 = .ok (.aload_n 0, 1) := by decide +kernel
theorem d_Mod_readDebt_64 : decode b_Mod_readDebt 64 = .ok (.getfield 17, 3) := by decide +kernel
theorem d_Mod_readDebt_67 : decode b_Mod_readDebt 67 = .ok (.iload_n 1, 1) := by decide +kernel
theorem d_Mod_readDebt_68 : decode b_Mod_readDebt 68 = .ok (.iconst 1, 1) := by decide +kernel
theorem d_Mod_readDebt_69 : decode b_Mod_readDebt 69 = .ok (.iadd, 1) := by decide +kernel
theorem d_Mod_readDebt_70 : decode b_Mod_readDebt 70 = .ok (.iload_n 2, 1) := by decide +kernel
theorem d_Mod_readDebt_71 : decode b_Mod_readDebt 71 = .ok (.iastore, 1) := by decide +kernel
theorem d_Mod_readDebt_72 : decode b_Mod_readDebt 72 = .ok (.aload_n 0, 1) := by decide +kernel
theorem d_Mod_readDebt_73 : decode b_Mod_readDebt 73 = .ok (.getfield 17, 3) := by decide +kernel
theorem d_Mod_readDebt_76 : decode b_Mod_readDebt 76 = .ok (.iload_n 1, 1) := by decide +kernel
theorem d_Mod_readDebt_77 : decode b_Mod_readDebt 77 = .ok (.iconst 2, 1) := by decide +kernel
theorem d_Mod_readDebt_78 : decode b_Mod_readDebt 78 = .ok (.iadd, 1) := by decide +kernel
theorem d_Mod_readDebt_79 : decode b_Mod_readDebt 79 = .ok (.aload_n 0, 1) := by decide +kernel
theorem d_Mod_readDebt_80 : decode b_Mod_readDebt 80 = .ok (.iconst 1, 1) := by decide +kernel
theorem d_Mod_readDebt_81 : decode b_Mod_readDebt 81 = .ok (.bipush 99, 2) := by decide +kernel
theorem d_Mod_readDebt_83 : decode b_Mod_readDebt 83 = .ok (.invokevirtual 158, 3) := by decide +kernel
theorem d_Mod_readDebt_86 : decode b_Mod_readDebt 86 = .ok (.iastore, 1) := by decide +kernel
theorem d_Mod_readDebt_87 : decode b_Mod_readDebt 87 = .ok (.aload_n 0, 1) := by decide +kernel
theorem d_Mod_readDebt_88 : decode b_Mod_readDebt 88 = .ok (.getfield 17, 3) := by decide +kernel
theorem d_Mod_readDebt_91 : decode b_Mod_readDebt 91 = .ok (.bipush 86, 2) := by decide +kernel
theorem d_Mod_readDebt_93 : decode b_Mod_readDebt 93 = .ok (.dup2, 1) := by decide +kernel
theorem d_Mod_readDebt_94 : decode b_Mod_readDebt 94 = .ok (.iaload, 1) := by decide +kernel
theorem d_Mod_readDebt_95 : decode b_Mod_readDebt 95 = .ok (.iconst 1, 1) := by decide +kernel
theorem d_Mod_readDebt_96 : decode b_Mod_readDebt 96 = .ok (.iadd, 1) := by decide +kernel
theorem d_Mod_readDebt_97 : decode b_Mod_readDebt 97 = .ok (.iastore, 1) := by decide +kernel
theorem d_Mod_readDebt_98 : decode b_Mod_readDebt 98 = .ok (.return_, 1) := by decide +kernel
def S_Mod_readDebt : List (Nat × Option Nat) := [(116, some 16), (116, some 17), (116, some 18), (116, some 19), (116, some 20), (116, some 21), (119, none)]
abbrev q_Mod_readDebt (h : Hp) (p : Int32) (pZ : Int) (f : Int32) (fZ : Int) (m : Int32) (mZ : Int) : Option Value → Hp → Prop := pVd (fun h' => Inv h' ∧ fr S_Mod_readDebt h h' ∧ ∃ (q : Int32) (qZ : Int), q.toInt = qZ ∧ h'.1 116 16 = q ∧ ∃ (u : Int32) (uZ : Int), u.toInt = uZ ∧ h'.1 116 20 = u ∧ ∃ (s : Int32) (sZ : Int), s.toInt = sZ ∧ h'.1 116 18 = s ∧ ((fZ = 0 ∨ uZ ≠ 0) ∧ 0 ≤ uZ ∧ pZ ≤ qZ ∧ (uZ ≠ 0 ∨ sZ ≠ 3 ∨ pZ + 1 ≤ qZ)))
set_option maxRecDepth 100000 in
theorem c_Mod_readDebt (h : Hp) (hI : Inv h) (p : Int32) (pZ : Int) (pE : p.toInt = pZ) (pK : h.1 116 16 = p) (f : Int32) (fZ : Int) (fE : f.toInt = fZ) (fK : h.1 116 20 = f) (m : Int32) (mZ : Int) (mE : m.toInt = mZ) (mK : h.1 119 86 = m) (hy0 : 0 ≤ fZ) (hy1 : 0 ≤ mZ ∧ mZ ≤ 7) : Ct y_Mod_readDebt b_Mod_readDebt 3 none 3 70 [.ref 116] h (q_Mod_readDebt h p pZ f fZ m mZ) := by
  refine ct_ow R_Mod [some (.ref 116), none, none] rfl (by decide) rfl (Nat.le_of_ble_eq_true rfl) ?_
  have f0 : fr S_Mod_readDebt h h := fr_rf
  have g1 : 0 ≤ pZ ∧ pZ ≤ 160 := inv_at hI pE pK.symm rfl
  refine V_bipush 87 d_Mod_readDebt_0 (by decide) ?_
  refine V_iconst 3 d_Mod_readDebt_2 (by decide) ?_
  refine V_aload_n 0 d_Mod_readDebt_3 rfl rfl ?_
  refine V_getR fa_Mod_17 sk_116 rfl d_Mod_readDebt_4 ?_
  refine V_bipush 86 d_Mod_readDebt_7 (by decide) ?_
  refine N_ialdK sk_119 tc_86 (by omega) d_Mod_readDebt_9 mK ?_
  refine V_imul tc_3 mE (by omega) d_Mod_readDebt_10 (fun z3 z3e z3E => ?_)
  refine V_iadd tc_87 z3E (by omega) d_Mod_readDebt_11 (fun z4 z4e z4E => ?_)
  refine V_istore_n 1 [some (.ref 116), some (.int z4), none] d_Mod_readDebt_12 rfl (by decide) rfl rfl ?_
  refine V_aload_n 0 d_Mod_readDebt_13 rfl rfl ?_
  refine V_getR fa_Mod_17 sk_116 rfl d_Mod_readDebt_14 ?_
  refine V_iload_n 1 d_Mod_readDebt_17 rfl rfl ?_
  refine V_aload_n 0 d_Mod_readDebt_18 rfl rfl ?_
  refine V_iconst 0 d_Mod_readDebt_19 (by decide) ?_
  refine V_iconst 3 d_Mod_readDebt_20 (by decide) ?_
  refine N_callVI [.int 0, .int 3] [.int z4, .ref 119] cv_Mod_158 sk_116 rfl d_Mod_readDebt_21 rfl (Nat.le_of_ble_eq_true rfl) (by decide) (by decide) (c_Mod_readNumber h hI 0 0 tc_0 3 3 tc_3 p pZ pE pK f fZ fE fK (by omega) (by omega)) (fun z5 h6 z5Z z5E p7 => ?_)
  obtain ⟨hI8, fh6, o10, o10Z, o10E, o10K, o11, o11Z, o11E, o11K, o12, o12Z, o12E, o12K, p7⟩ := p7
  have f9 : fr S_Mod_readDebt h h6 := fr_call f0 fh6 rfl
  have g13 : 0 ≤ o10Z ∧ o10Z ≤ 160 := inv_at hI8 o10E o10K.symm rfl
  refine N_iast sk_119 z4E (by omega) d_Mod_readDebt_24 (fun h14 eh14 => ?_)
  have hI15 : Inv h14 := inv_put hI8 eh14 (st_a (by omega)) z5E (by omega)
  have f16 : fr S_Mod_readDebt h h14 := fr_put f9 eh14 rfl
  refine V_aload_n 0 d_Mod_readDebt_25 rfl rfl ?_
  refine V_iconst 0 d_Mod_readDebt_26 (by decide) ?_
  refine V_iconst 3 d_Mod_readDebt_27 (by decide) ?_
  refine N_callVI [.int 0, .int 3] [] cv_Mod_148 sk_116 rfl d_Mod_readDebt_28 rfl (Nat.le_of_ble_eq_true rfl) (by decide) (by decide) (c_Mod_looked h14 hI15 0 0 tc_0 3 3 tc_3 o11 o11Z o11E (kn_ne eh14 o11K (by decide)) (by omega) (by omega)) (fun z17 h18 z17Z z17E p19 => ?_)
  obtain ⟨hI20, fh18, o22, o22Z, o22E, o22K, p19⟩ := p19
  have f21 : fr S_Mod_readDebt h h18 := fr_call f16 fh18 rfl
  refine V_istore_n 2 [some (.ref 116), some (.int z4), some (.int z17)] d_Mod_readDebt_31 rfl (by decide) rfl rfl ?_
  refine V_aload_n 0 d_Mod_readDebt_32 rfl rfl ?_
  refine N_getK fa_Mod_102 sk_116 rfl d_Mod_readDebt_33 o22K ?_
  refine V_if_ne 59 o22E d_Mod_readDebt_36 (by decide) (fun c23 => ?_) (fun c23 => ?_)
  ·
    refine V_aload_n 0 d_Mod_readDebt_59 rfl rfl ?_
    obtain ⟨z24, z24Z, z24E, z24e⟩ : ∃ (y : Int32) (Y : Int), y.toInt = Y ∧ y = h18.1 116 15 := ⟨_, _, rfl, rfl⟩
    have g25 : 0 ≤ z24Z ∧ z24Z ≤ 160 := inv_at hI20 z24E z24e rfl
    refine N_callVV [] [] cv_Mod_152 sk_116 rfl d_Mod_readDebt_60 rfl (Nat.le_of_ble_eq_true rfl) (by decide) (by decide) (c_Mod_next h18 hI20 z24 z24Z z24E z24e.symm o10 o10Z o10E (kn_call fh18 (kn_ne eh14 o10K (by decide)) rfl) o22 o22Z o22E o22K (by omega)) (fun h27 p28 => ?_)
    obtain ⟨hI29, fh27, o31, o31Z, o31E, o31K, o32, o32Z, o32E, o32K, o33, o33Z, o33E, o33K, p28⟩ := p28
    have f30 : fr S_Mod_readDebt h h27 := fr_call f21 fh27 rfl
    have g34 : 0 ≤ o31Z ∧ o31Z ≤ 160 := inv_at hI29 o31E o31K.symm rfl
    refine V_aload_n 0 d_Mod_readDebt_63 rfl rfl ?_
    refine V_getR fa_Mod_17 sk_116 rfl d_Mod_readDebt_64 ?_
    refine V_iload_n 1 d_Mod_readDebt_67 rfl rfl ?_
    refine V_iconst 1 d_Mod_readDebt_68 (by decide) ?_
    refine V_iadd z4E tc_1 (by omega) d_Mod_readDebt_69 (fun z35 z35e z35E => ?_)
    refine V_iload_n 2 d_Mod_readDebt_70 rfl rfl ?_
    refine N_iast sk_119 z35E (by omega) d_Mod_readDebt_71 (fun h36 eh36 => ?_)
    have hI37 : Inv h36 := inv_put hI29 eh36 (st_a (by omega)) z17E (by omega)
    have f38 : fr S_Mod_readDebt h h36 := fr_put f30 eh36 rfl
    refine V_aload_n 0 d_Mod_readDebt_72 rfl rfl ?_
    refine V_getR fa_Mod_17 sk_116 rfl d_Mod_readDebt_73 ?_
    refine V_iload_n 1 d_Mod_readDebt_76 rfl rfl ?_
    refine V_iconst 2 d_Mod_readDebt_77 (by decide) ?_
    refine V_iadd z4E tc_2 (by omega) d_Mod_readDebt_78 (fun z39 z39e z39E => ?_)
    refine V_aload_n 0 d_Mod_readDebt_79 rfl rfl ?_
    refine V_iconst 1 d_Mod_readDebt_80 (by decide) ?_
    refine V_bipush 99 d_Mod_readDebt_81 (by decide) ?_
    refine N_callVI [.int 1, .int 99] [.int z39, .ref 119] cv_Mod_158 sk_116 rfl d_Mod_readDebt_83 rfl (Nat.le_of_ble_eq_true rfl) (by decide) (by decide) (c_Mod_readNumber h36 hI37 1 1 tc_1 99 99 tc_99 o31 o31Z o31E (kn_ne eh36 o31K (by decide)) o32 o32Z o32E (kn_ne eh36 o32K (by decide)) (by omega) (by omega)) (fun z40 h41 z40Z z40E p42 => ?_)
    obtain ⟨hI43, fh41, o45, o45Z, o45E, o45K, o46, o46Z, o46E, o46K, o47, o47Z, o47E, o47K, p42⟩ := p42
    have f44 : fr S_Mod_readDebt h h41 := fr_call f38 fh41 rfl
    have g48 : 0 ≤ o45Z ∧ o45Z ≤ 160 := inv_at hI43 o45E o45K.symm rfl
    refine N_iast sk_119 z39E (by omega) d_Mod_readDebt_86 (fun h49 eh49 => ?_)
    have hI50 : Inv h49 := inv_full hI43 eh49 (st_b (by omega))
    have f51 : fr S_Mod_readDebt h h49 := fr_put f44 eh49 rfl
    refine V_aload_n 0 d_Mod_readDebt_87 rfl rfl ?_
    refine V_getR fa_Mod_17 sk_116 rfl d_Mod_readDebt_88 ?_
    refine V_bipush 86 d_Mod_readDebt_91 (by decide) ?_
    refine V_dup2 d_Mod_readDebt_93 rfl rfl ?_
    refine N_ialdK sk_119 tc_86 (by omega) d_Mod_readDebt_94 (kn_nei eh49 (kn_call fh41 (kn_nei eh36 (kn_call fh27 (kn_call fh18 (kn_nei eh14 (kn_call fh6 mK rfl) (by omega)) rfl) rfl) (by omega)) rfl) (by omega)) ?_
    refine V_iconst 1 d_Mod_readDebt_95 (by decide) ?_
    refine V_iadd mE tc_1 (by omega) d_Mod_readDebt_96 (fun z53 z53e z53E => ?_)
    refine N_iast sk_119 tc_86 (by omega) d_Mod_readDebt_97 (fun h54 eh54 => ?_)
    have hI55 : Inv h54 := inv_put (lo := 0) (hi := 8) hI50 eh54 rfl z53E (by omega)
    have f56 : fr S_Mod_readDebt h h54 := fr_put f51 eh54 rfl
    exact V_vret rfl d_Mod_readDebt_98 ⟨rfl, ⟨hI55, f56, o45, o45Z, o45E, (kn_ne eh54 (kn_ne eh49 o45K (by decide)) (by decide)), o46, o46Z, o46E, (kn_ne eh54 (kn_ne eh49 o46K (by decide)) (by decide)), o47, o47Z, o47E, (kn_ne eh54 (kn_ne eh49 o47K (by decide)) (by decide)), (by omega)⟩⟩
  ·
    refine V_aload_n 0 d_Mod_readDebt_39 rfl rfl ?_
    refine V_iload_n 2 d_Mod_readDebt_40 rfl rfl ?_
    refine V_aload_n 0 d_Mod_readDebt_41 rfl rfl ?_
    refine V_getR fa_Mod_17 sk_116 rfl d_Mod_readDebt_42 ?_
    refine V_iload_n 1 d_Mod_readDebt_45 rfl rfl ?_
    refine N_iald sk_119 z4E (by omega) d_Mod_readDebt_46 (fun z57 z57Z z57E z57e => ?_)
    refine V_icmp_eq 54 z17E z57E d_Mod_readDebt_47 (by decide) (fun c58 => ?_) (fun c58 => ?_)
    ·
      refine V_iconst 0 d_Mod_readDebt_54 (by decide) ?_
      refine V_iconst 4 d_Mod_readDebt_55 (by decide) ?_
      refine N_callVV [.int 0, .int 4] [] cv_Mod_144 sk_116 rfl d_Mod_readDebt_56 rfl (Nat.le_of_ble_eq_true rfl) (by decide) (by decide) (c_Mod_needs h18 hI20 0 0 tc_0 4 4 tc_4 o22 o22Z o22E o22K) (fun h60 p61 => ?_)
      obtain ⟨hI62, fh60, o64, o64Z, o64E, o64K, p61⟩ := p61
      have f63 : fr S_Mod_readDebt h h60 := fr_call f21 fh60 rfl
      refine V_aload_n 0 d_Mod_readDebt_59 rfl rfl ?_
      obtain ⟨z65, z65Z, z65E, z65e⟩ : ∃ (y : Int32) (Y : Int), y.toInt = Y ∧ y = h60.1 116 15 := ⟨_, _, rfl, rfl⟩
      have g66 : 0 ≤ z65Z ∧ z65Z ≤ 160 := inv_at hI62 z65E z65e rfl
      refine N_callVV [] [] cv_Mod_152 sk_116 rfl d_Mod_readDebt_60 rfl (Nat.le_of_ble_eq_true rfl) (by decide) (by decide) (c_Mod_next h60 hI62 z65 z65Z z65E z65e.symm o10 o10Z o10E (kn_call fh60 (kn_call fh18 (kn_ne eh14 o10K (by decide)) rfl) rfl) o64 o64Z o64E o64K (by omega)) (fun h68 p69 => ?_)
      obtain ⟨hI70, fh68, o72, o72Z, o72E, o72K, o73, o73Z, o73E, o73K, o74, o74Z, o74E, o74K, p69⟩ := p69
      have f71 : fr S_Mod_readDebt h h68 := fr_call f63 fh68 rfl
      have g75 : 0 ≤ o72Z ∧ o72Z ≤ 160 := inv_at hI70 o72E o72K.symm rfl
      refine V_aload_n 0 d_Mod_readDebt_63 rfl rfl ?_
      refine V_getR fa_Mod_17 sk_116 rfl d_Mod_readDebt_64 ?_
      refine V_iload_n 1 d_Mod_readDebt_67 rfl rfl ?_
      refine V_iconst 1 d_Mod_readDebt_68 (by decide) ?_
      refine V_iadd z4E tc_1 (by omega) d_Mod_readDebt_69 (fun z76 z76e z76E => ?_)
      refine V_iload_n 2 d_Mod_readDebt_70 rfl rfl ?_
      refine N_iast sk_119 z76E (by omega) d_Mod_readDebt_71 (fun h77 eh77 => ?_)
      have hI78 : Inv h77 := inv_put hI70 eh77 (st_a (by omega)) z17E (by omega)
      have f79 : fr S_Mod_readDebt h h77 := fr_put f71 eh77 rfl
      refine V_aload_n 0 d_Mod_readDebt_72 rfl rfl ?_
      refine V_getR fa_Mod_17 sk_116 rfl d_Mod_readDebt_73 ?_
      refine V_iload_n 1 d_Mod_readDebt_76 rfl rfl ?_
      refine V_iconst 2 d_Mod_readDebt_77 (by decide) ?_
      refine V_iadd z4E tc_2 (by omega) d_Mod_readDebt_78 (fun z80 z80e z80E => ?_)
      refine V_aload_n 0 d_Mod_readDebt_79 rfl rfl ?_
      refine V_iconst 1 d_Mod_readDebt_80 (by decide) ?_
      refine V_bipush 99 d_Mod_readDebt_81 (by decide) ?_
      refine N_callVI [.int 1, .int 99] [.int z80, .ref 119] cv_Mod_158 sk_116 rfl d_Mod_readDebt_83 rfl (Nat.le_of_ble_eq_true rfl) (by decide) (by decide) (c_Mod_readNumber h77 hI78 1 1 tc_1 99 99 tc_99 o72 o72Z o72E (kn_ne eh77 o72K (by decide)) o73 o73Z o73E (kn_ne eh77 o73K (by decide)) (by omega) (by omega)) (fun z81 h82 z81Z z81E p83 => ?_)
      obtain ⟨hI84, fh82, o86, o86Z, o86E, o86K, o87, o87Z, o87E, o87K, o88, o88Z, o88E, o88K, p83⟩ := p83
      have f85 : fr S_Mod_readDebt h h82 := fr_call f79 fh82 rfl
      have g89 : 0 ≤ o86Z ∧ o86Z ≤ 160 := inv_at hI84 o86E o86K.symm rfl
      refine N_iast sk_119 z80E (by omega) d_Mod_readDebt_86 (fun h90 eh90 => ?_)
      have hI91 : Inv h90 := inv_full hI84 eh90 (st_b (by omega))
      have f92 : fr S_Mod_readDebt h h90 := fr_put f85 eh90 rfl
      refine V_aload_n 0 d_Mod_readDebt_87 rfl rfl ?_
      refine V_getR fa_Mod_17 sk_116 rfl d_Mod_readDebt_88 ?_
      refine V_bipush 86 d_Mod_readDebt_91 (by decide) ?_
      refine V_dup2 d_Mod_readDebt_93 rfl rfl ?_
      refine N_ialdK sk_119 tc_86 (by omega) d_Mod_readDebt_94 (kn_nei eh90 (kn_call fh82 (kn_nei eh77 (kn_call fh68 (kn_call fh60 (kn_call fh18 (kn_nei eh14 (kn_call fh6 mK rfl) (by omega)) rfl) rfl) rfl) (by omega)) rfl) (by omega)) ?_
      refine V_iconst 1 d_Mod_readDebt_95 (by decide) ?_
      refine V_iadd mE tc_1 (by omega) d_Mod_readDebt_96 (fun z94 z94e z94E => ?_)
      refine N_iast sk_119 tc_86 (by omega) d_Mod_readDebt_97 (fun h95 eh95 => ?_)
      have hI96 : Inv h95 := inv_put (lo := 0) (hi := 8) hI91 eh95 rfl z94E (by omega)
      have f97 : fr S_Mod_readDebt h h95 := fr_put f92 eh95 rfl
      exact V_vret rfl d_Mod_readDebt_98 ⟨rfl, ⟨hI96, f97, o86, o86Z, o86E, (kn_ne eh95 (kn_ne eh90 o86K (by decide)) (by decide)), o87, o87Z, o87E, (kn_ne eh95 (kn_ne eh90 o87K (by decide)) (by decide)), o88, o88Z, o88E, (kn_ne eh95 (kn_ne eh90 o88K (by decide)) (by decide)), (by omega)⟩⟩
    ·
      refine V_iconst 1 d_Mod_readDebt_50 (by decide) ?_
      refine V_goto 55 d_Mod_readDebt_51 (by decide) ?_
      refine V_iconst 4 d_Mod_readDebt_55 (by decide) ?_
      refine N_callVV [.int 1, .int 4] [] cv_Mod_144 sk_116 rfl d_Mod_readDebt_56 rfl (Nat.le_of_ble_eq_true rfl) (by decide) (by decide) (c_Mod_needs h18 hI20 1 1 tc_1 4 4 tc_4 o22 o22Z o22E o22K) (fun h99 p100 => ?_)
      obtain ⟨hI101, fh99, o103, o103Z, o103E, o103K, p100⟩ := p100
      have f102 : fr S_Mod_readDebt h h99 := fr_call f21 fh99 rfl
      refine V_aload_n 0 d_Mod_readDebt_59 rfl rfl ?_
      obtain ⟨z104, z104Z, z104E, z104e⟩ : ∃ (y : Int32) (Y : Int), y.toInt = Y ∧ y = h99.1 116 15 := ⟨_, _, rfl, rfl⟩
      have g105 : 0 ≤ z104Z ∧ z104Z ≤ 160 := inv_at hI101 z104E z104e rfl
      refine N_callVV [] [] cv_Mod_152 sk_116 rfl d_Mod_readDebt_60 rfl (Nat.le_of_ble_eq_true rfl) (by decide) (by decide) (c_Mod_next h99 hI101 z104 z104Z z104E z104e.symm o10 o10Z o10E (kn_call fh99 (kn_call fh18 (kn_ne eh14 o10K (by decide)) rfl) rfl) o103 o103Z o103E o103K (by omega)) (fun h107 p108 => ?_)
      obtain ⟨hI109, fh107, o111, o111Z, o111E, o111K, o112, o112Z, o112E, o112K, o113, o113Z, o113E, o113K, p108⟩ := p108
      have f110 : fr S_Mod_readDebt h h107 := fr_call f102 fh107 rfl
      have g114 : 0 ≤ o111Z ∧ o111Z ≤ 160 := inv_at hI109 o111E o111K.symm rfl
      refine V_aload_n 0 d_Mod_readDebt_63 rfl rfl ?_
      refine V_getR fa_Mod_17 sk_116 rfl d_Mod_readDebt_64 ?_
      refine V_iload_n 1 d_Mod_readDebt_67 rfl rfl ?_
      refine V_iconst 1 d_Mod_readDebt_68 (by decide) ?_
      refine V_iadd z4E tc_1 (by omega) d_Mod_readDebt_69 (fun z115 z115e z115E => ?_)
      refine V_iload_n 2 d_Mod_readDebt_70 rfl rfl ?_
      refine N_iast sk_119 z115E (by omega) d_Mod_readDebt_71 (fun h116 eh116 => ?_)
      have hI117 : Inv h116 := inv_put hI109 eh116 (st_a (by omega)) z17E (by omega)
      have f118 : fr S_Mod_readDebt h h116 := fr_put f110 eh116 rfl
      refine V_aload_n 0 d_Mod_readDebt_72 rfl rfl ?_
      refine V_getR fa_Mod_17 sk_116 rfl d_Mod_readDebt_73 ?_
      refine V_iload_n 1 d_Mod_readDebt_76 rfl rfl ?_
      refine V_iconst 2 d_Mod_readDebt_77 (by decide) ?_
      refine V_iadd z4E tc_2 (by omega) d_Mod_readDebt_78 (fun z119 z119e z119E => ?_)
      refine V_aload_n 0 d_Mod_readDebt_79 rfl rfl ?_
      refine V_iconst 1 d_Mod_readDebt_80 (by decide) ?_
      refine V_bipush 99 d_Mod_readDebt_81 (by decide) ?_
      refine N_callVI [.int 1, .int 99] [.int z119, .ref 119] cv_Mod_158 sk_116 rfl d_Mod_readDebt_83 rfl (Nat.le_of_ble_eq_true rfl) (by decide) (by decide) (c_Mod_readNumber h116 hI117 1 1 tc_1 99 99 tc_99 o111 o111Z o111E (kn_ne eh116 o111K (by decide)) o112 o112Z o112E (kn_ne eh116 o112K (by decide)) (by omega) (by omega)) (fun z120 h121 z120Z z120E p122 => ?_)
      obtain ⟨hI123, fh121, o125, o125Z, o125E, o125K, o126, o126Z, o126E, o126K, o127, o127Z, o127E, o127K, p122⟩ := p122
      have f124 : fr S_Mod_readDebt h h121 := fr_call f118 fh121 rfl
      have g128 : 0 ≤ o125Z ∧ o125Z ≤ 160 := inv_at hI123 o125E o125K.symm rfl
      refine N_iast sk_119 z119E (by omega) d_Mod_readDebt_86 (fun h129 eh129 => ?_)
      have hI130 : Inv h129 := inv_full hI123 eh129 (st_b (by omega))
      have f131 : fr S_Mod_readDebt h h129 := fr_put f124 eh129 rfl
      refine V_aload_n 0 d_Mod_readDebt_87 rfl rfl ?_
      refine V_getR fa_Mod_17 sk_116 rfl d_Mod_readDebt_88 ?_
      refine V_bipush 86 d_Mod_readDebt_91 (by decide) ?_
      refine V_dup2 d_Mod_readDebt_93 rfl rfl ?_
      refine N_ialdK sk_119 tc_86 (by omega) d_Mod_readDebt_94 (kn_nei eh129 (kn_call fh121 (kn_nei eh116 (kn_call fh107 (kn_call fh99 (kn_call fh18 (kn_nei eh14 (kn_call fh6 mK rfl) (by omega)) rfl) rfl) rfl) (by omega)) rfl) (by omega)) ?_
      refine V_iconst 1 d_Mod_readDebt_95 (by decide) ?_
      refine V_iadd mE tc_1 (by omega) d_Mod_readDebt_96 (fun z133 z133e z133E => ?_)
      refine N_iast sk_119 tc_86 (by omega) d_Mod_readDebt_97 (fun h134 eh134 => ?_)
      have hI135 : Inv h134 := inv_put (lo := 0) (hi := 8) hI130 eh134 rfl z133E (by omega)
      have f136 : fr S_Mod_readDebt h h134 := fr_put f131 eh134 rfl
      exact V_vret rfl d_Mod_readDebt_98 ⟨rfl, ⟨hI135, f136, o125, o125Z, o125E, (kn_ne eh134 (kn_ne eh129 o125K (by decide)) (by decide)), o126, o126Z, o126E, (kn_ne eh134 (kn_ne eh129 o126K (by decide)) (by decide)), o127, o127Z, o127E, (kn_ne eh134 (kn_ne eh129 o127K (by decide)) (by decide)), (by omega)⟩⟩
theorem d_Mod_readCellOf_0 : decode b_Mod_readCellOf 0 = .ok (.aload_n 0, 1) := by decide +kernel
theorem d_Mod_readCellOf_1 : decode b_Mod_readCellOf 1 = .ok (.iload_n 1, 1) := by decide +kernel
theorem d_Mod_readCellOf_2 : decode b_Mod_readCellOf 2 = .ok (.bipush 15, 2) := by decide +kernel
theorem d_Mod_readCellOf_4 : decode b_Mod_readCellOf 4 = .ok (.invokevirtual 161, 3) := by decide +kernel
theorem d_Mod_readCellOf_7 : decode b_Mod_readCellOf 7 = .ok (.istore_n 2, 1) := by decide +kernel
theorem d_Mod_readCellOf_8 : decode b_Mod_readCellOf 8 = .ok (.iload_n 1, 1) := by decide +kernel
theorem d_Mod_readCellOf_9 : decode b_Mod_readCellOf 9 = .ok (.iconst 5, 1) := by decide +kernel
theorem d_Mod_readCellOf_10 : decode b_Mod_readCellOf 10 = .ok (.if_icmp .ne 33, 3) := by decide +kernel
theorem d_Mod_readCellOf_13 : decode b_Mod_readCellOf 13 = .ok (.aload_n 0, 1) := by decide +kernel
theorem d_Mod_readCellOf_14 : decode b_Mod_readCellOf 14 = .ok (.getfield 17, 3) := by decide +kernel
theorem d_Mod_readCellOf_17 : decode b_Mod_readCellOf 17 = .ok (.bipush 16, 2) := by decide +kernel
theorem d_Mod_readCellOf_19 : decode b_Mod_readCellOf 19 = .ok (.iload_n 2, 1) := by decide +kernel
theorem d_Mod_readCellOf_20 : decode b_Mod_readCellOf 20 = .ok (.iadd, 1) := by decide +kernel
theorem d_Mod_readCellOf_21 : decode b_Mod_readCellOf 21 = .ok (.aload_n 0, 1) := by decide +kernel
theorem d_Mod_readCellOf_22 : decode b_Mod_readCellOf 22 = .ok (.getfield 102, 3) := by decide +kernel
theorem d_Mod_readCellOf_25 : decode b_Mod_readCellOf 25 = .ok (.ifCond .ne 7, 3) := by decide +kernel
theorem d_Mod_readCellOf_28 : decode b_Mod_readCellOf 28 = .ok (.iconst 1, 1) := by decide +kernel
theorem d_Mod_readCellOf_29 : decode b_Mod_readCellOf 29 = .ok (.goto 12, 3) := by decide +kernel
theorem d_Mod_readCellOf_32 : decode b_Mod_readCellOf 32 = .ok (.aload_n 0, 1) := by decide +kernel
theorem d_Mod_readCellOf_33 : decode b_Mod_readCellOf 33 = .ok (.getfield 17, 3) := by decide +kernel
theorem d_Mod_readCellOf_36 : decode b_Mod_readCellOf 36 = .ok (.bipush 16, 2) := by decide +kernel
theorem d_Mod_readCellOf_38 : decode b_Mod_readCellOf 38 = .ok (.iload_n 2, 1) := by decide +kernel
theorem d_Mod_readCellOf_39 : decode b_Mod_readCellOf 39 = .ok (.iadd, 1) := by decide +kernel
theorem d_Mod_readCellOf_40 : decode b_Mod_readCellOf 40 = .ok (.iaload, 1) := by decide +kernel
theorem d_Mod_readCellOf_41 : decode b_Mod_readCellOf 41 = .ok (.iastore, 1) := by decide +kernel
theorem d_Mod_readCellOf_42 : decode b_Mod_readCellOf 42 = .ok (.return_, 1) := by decide +kernel
theorem d_Mod_readCellOf_43 : decode b_Mod_readCellOf 43 = .ok (.aload_n 0, 1) := by decide +kernel
theorem d_Mod_readCellOf_44 : decode b_Mod_readCellOf 44 = .ok (.iload_n 1, 1) := by decide +kernel
theorem d_Mod_readCellOf_45 : decode b_Mod_readCellOf 45 = .ok (.iconst 4, 1) := by decide +kernel
theorem d_Mod_readCellOf_46 : decode b_Mod_readCellOf 46 = .ok (.if_icmp .ne 7, 3) := by decide +kernel
theorem d_Mod_readCellOf_49 : decode b_Mod_readCellOf 49 = .ok (.iconst 1, 1) := by decide +kernel
theorem d_Mod_readCellOf_50 : decode b_Mod_readCellOf 50 = .ok (.goto 4, 3) := by decide +kernel
theorem d_Mod_readCellOf_53 : decode b_Mod_readCellOf 53 = .ok (.iconst 0, 1) := by decide +kernel
theorem d_Mod_readCellOf_54 : decode b_Mod_readCellOf 54 = .ok (.iload_n 1, 1) := by decide +kernel
theorem d_Mod_readCellOf_55 : decode b_Mod_readCellOf 55 = .ok (.iconst 4, 1) := by decide +kernel
theorem d_Mod_readCellOf_56 : decode b_Mod_readCellOf 56 = .ok (.if_icmp .ne 8, 3) := by decide +kernel
theorem d_Mod_readCellOf_59 : decode b_Mod_readCellOf 59 = .ok (.bipush 9, 2) := by decide +kernel
theorem d_Mod_readCellOf_61 : decode b_Mod_readCellOf 61 = .ok (.goto 15, 3) := by decide +kernel
theorem d_Mod_readCellOf_64 : decode b_Mod_readCellOf 64 = .ok (.iload_n 1, 1) := by decide +kernel
theorem d_Mod_readCellOf_65 : decode b_Mod_readCellOf 65 = .ok (.bipush 6, 2) := by decide +kernel
theorem d_Mod_readCellOf_67 : decode b_Mod_readCellOf 67 = .ok (.if_icmp .ne 8, 3) := by decide +kernel
theorem d_Mod_readCellOf_70 : decode b_Mod_readCellOf 70 = .ok (.bipush 10, 2) := by decide +kernel
theorem d_Mod_readCellOf_72 : decode b_Mod_readCellOf 72 = .ok (.goto 4, 3) := by decide +kernel
theorem d_Mod_readCellOf_75 : decode b_Mod_readCellOf 75 = .ok (.iconst 3, 1) := by decide +kernel
theorem d_Mod_readCellOf_76 : decode b_Mod_readCellOf 76 = .ok (.invokevirtual 158, 3) := by decide +kernel
theorem d_Mod_readCellOf_79 : decode b_Mod_readCellOf 79 = .ok (.istore_n 3, 1) := by decide +kernel
theorem d_Mod_readCellOf_80 : decode b_Mod_readCellOf 80 = .ok (.iload_n 1, 1) := by decide +kernel
theorem d_Mod_readCellOf_81 : decode b_Mod_readCellOf 81 = .ok (.iconst 4, 1) := by decide +kernel
theorem d_Mod_readCellOf_82 : decode b_Mod_readCellOf 82 = .ok (.if_icmp .ne 7, 3) := by decide +kernel
theorem d_Mod_readCellOf_85 : decode b_Mod_readCellOf 85 = .ok (.iconst 0, 1) := by decide +kernel
theorem d_Mod_readCellOf_86 : decode b_Mod_readCellOf 86 = .ok (.goto 16, 3) := by decide +kernel
theorem d_Mod_readCellOf_89 : decode b_Mod_readCellOf 89 = .ok (.iload_n 1, 1) := by decide +kernel
theorem d_Mod_readCellOf_90 : decode b_Mod_readCellOf 90 = .ok (.bipush 6, 2) := by decide +kernel
theorem d_Mod_readCellOf_92 : decode b_Mod_readCellOf 92 = .ok (.if_icmp .ne 8, 3) := by decide +kernel
theorem d_Mod_readCellOf_95 : decode b_Mod_readCellOf 95 = .ok (.bipush 32, 2) := by decide +kernel
theorem d_Mod_readCellOf_97 : decode b_Mod_readCellOf 97 = .ok (.goto 5, 3) := by decide +kernel
theorem d_Mod_readCellOf_100 : decode b_Mod_readCellOf 100 = .ok (.bipush 48, 2) := by decide +kernel
theorem d_Mod_readCellOf_102 : decode b_Mod_readCellOf 102 = .ok (.istore 4, 2) := by decide +kernel
theorem d_Mod_readCellOf_104 : decode b_Mod_readCellOf 104 = .ok (.aload_n 0, 1) := by decide +kernel
theorem d_Mod_readCellOf_105 : decode b_Mod_readCellOf 105 = .ok (.getfield 17, 3) := by decide +kernel
theorem d_Mod_readCellOf_108 : decode b_Mod_readCellOf 108 = .ok (.iload 4, 2) := by decide +kernel
theorem d_Mod_readCellOf_110 : decode b_Mod_readCellOf 110 = .ok (.iload_n 2, 1) := by decide +kernel
theorem d_Mod_readCellOf_111 : decode b_Mod_readCellOf 111 = .ok (.iadd, 1) := by decide +kernel
theorem d_Mod_readCellOf_112 : decode b_Mod_readCellOf 112 = .ok (.aload_n 0, 1) := by decide +kernel
theorem d_Mod_readCellOf_113 : decode b_Mod_readCellOf 113 = .ok (.getfield 102, 3) := by decide +kernel
theorem d_Mod_readCellOf_116 : decode b_Mod_readCellOf 116 = .ok (.ifCond .ne 7, 3) := by decide +kernel
theorem d_Mod_readCellOf_119 : decode b_Mod_readCellOf 119 = .ok (.iload_n 3, 1) := by decide +kernel
theorem d_Mod_readCellOf_120 : decode b_Mod_readCellOf 120 = .ok (.goto 12, 3) := by decide +kernel
theorem d_Mod_readCellOf_123 : decode b_Mod_readCellOf 123 = .ok (.aload_n 0, 1) := by decide +kernel
theorem d_Mod_readCellOf_124 : decode b_Mod_readCellOf 124 = .ok (.getfield 17, 3) := by decide +kernel
theorem d_Mod_readCellOf_127 : decode b_Mod_readCellOf 127 = .ok (.iload 4, 2) := by decide +kernel
theorem d_Mod_readCellOf_129 : decode b_Mod_readCellOf 129 = .ok (.iload_n 2, 1) := by decide +kernel
theorem d_Mod_readCellOf_130 : decode b_Mod_readCellOf 130 = .ok (.iadd, 1) := by decide +kernel
theorem d_Mod_readCellOf_131 : decode b_Mod_readCellOf 131 = .ok (.iaload, 1) := by decide +kernel
theorem d_Mod_readCellOf_132 : decode b_Mod_readCellOf 132 = .ok (.iastore, 1) := by decide +kernel
theorem d_Mod_readCellOf_133 : decode b_Mod_readCellOf 133 = .ok (.return_, 1) := by decide +kernel
def S_Mod_readCellOf : List (Nat × Option Nat) := [(116, some 16), (116, some 17), (116, some 18), (116, some 19), (116, some 20), (116, some 21), (119, none), (120, none), (116, some 13)]
abbrev q_Mod_readCellOf (h : Hp) (k : Int32) (kZ : Int) (p : Int32) (pZ : Int) (f : Int32) (fZ : Int) : Option Value → Hp → Prop := pVd (fun h' => Inv h' ∧ fr S_Mod_readCellOf h h' ∧ ∃ (q : Int32) (qZ : Int), q.toInt = qZ ∧ h'.1 116 16 = q ∧ ∃ (u : Int32) (uZ : Int), u.toInt = uZ ∧ h'.1 116 20 = u ∧ ∃ (s : Int32) (sZ : Int), s.toInt = sZ ∧ h'.1 116 18 = s ∧ ((fZ = 0 ∨ uZ ≠ 0) ∧ 0 ≤ uZ ∧ pZ ≤ qZ ∧ (uZ ≠ 0 ∨ sZ ≠ 3 ∨ pZ + 1 ≤ qZ)))
set_option maxRecDepth 100000 in
theorem c_Mod_readCellOf (h : Hp) (hI : Inv h) (k : Int32) (kZ : Int) (kE : k.toInt = kZ) (p : Int32) (pZ : Int) (pE : p.toInt = pZ) (pK : h.1 116 16 = p) (f : Int32) (fZ : Int) (fE : f.toInt = fZ) (fK : h.1 116 20 = f) (hy0 : 4 ≤ kZ ∧ kZ ≤ 7) (hy1 : 0 ≤ fZ) : Ct y_Mod_readCellOf b_Mod_readCellOf 5 none 3 70 [.ref 116, .int k] h (q_Mod_readCellOf h k kZ p pZ f fZ) := by
  refine ct_ow R_Mod [some (.ref 116), some (.int k), none, none, none] rfl (by decide) rfl (Nat.le_of_ble_eq_true rfl) ?_
  have f0 : fr S_Mod_readCellOf h h := fr_rf
  have g1 : 0 ≤ pZ ∧ pZ ≤ 160 := inv_at hI pE pK.symm rfl
  refine V_aload_n 0 d_Mod_readCellOf_0 rfl rfl ?_
  refine V_iload_n 1 d_Mod_readCellOf_1 rfl rfl ?_
  refine V_bipush 15 d_Mod_readCellOf_2 (by decide) ?_
  refine N_callVI [.int k, .int 15] [] cv_Mod_161 sk_116 rfl d_Mod_readCellOf_4 rfl (Nat.le_of_ble_eq_true rfl) (by decide) (by decide) (c_Mod_readFresh h hI k kZ kE 15 15 tc_15 p pZ pE pK f fZ fE fK (by omega) (by omega) (by omega)) (fun z2 h3 z2Z z2E p4 => ?_)
  obtain ⟨hI5, fh3, o7, o7Z, o7E, o7K, o8, o8Z, o8E, o8K, o9, o9Z, o9E, o9K, p4⟩ := p4
  have f6 : fr S_Mod_readCellOf h h3 := fr_call f0 fh3 rfl
  have g10 : 0 ≤ o7Z ∧ o7Z ≤ 160 := inv_at hI5 o7E o7K.symm rfl
  refine V_istore_n 2 [some (.ref 116), some (.int k), some (.int z2), none, none] d_Mod_readCellOf_7 rfl (by decide) rfl rfl ?_
  refine V_iload_n 1 d_Mod_readCellOf_8 rfl rfl ?_
  refine V_iconst 5 d_Mod_readCellOf_9 (by decide) ?_
  refine V_icmp_ne 43 kE tc_5 d_Mod_readCellOf_10 (by decide) (fun c11 => ?_) (fun c11 => ?_)
  ·
    refine V_aload_n 0 d_Mod_readCellOf_43 rfl rfl ?_
    refine V_iload_n 1 d_Mod_readCellOf_44 rfl rfl ?_
    refine V_iconst 4 d_Mod_readCellOf_45 (by decide) ?_
    refine V_icmp_ne 53 kE tc_4 d_Mod_readCellOf_46 (by decide) (fun c12 => ?_) (fun c12 => ?_)
    ·
      refine V_iconst 0 d_Mod_readCellOf_53 (by decide) ?_
      refine V_iload_n 1 d_Mod_readCellOf_54 rfl rfl ?_
      refine V_iconst 4 d_Mod_readCellOf_55 (by decide) ?_
      refine V_icmp_ne 64 kE tc_4 d_Mod_readCellOf_56 (by decide) (fun c13 => ?_) (fun c13 => ?_)
      ·
        refine V_iload_n 1 d_Mod_readCellOf_64 rfl rfl ?_
        refine V_bipush 6 d_Mod_readCellOf_65 (by decide) ?_
        refine V_icmp_ne 75 kE tc_6 d_Mod_readCellOf_67 (by decide) (fun c14 => ?_) (fun c14 => ?_)
        ·
          refine V_iconst 3 d_Mod_readCellOf_75 (by decide) ?_
          refine N_callVI [.int 0, .int 3] [] cv_Mod_158 sk_116 rfl d_Mod_readCellOf_76 rfl (Nat.le_of_ble_eq_true rfl) (by decide) (by decide) (c_Mod_readNumber h3 hI5 0 0 tc_0 3 3 tc_3 o7 o7Z o7E o7K o8 o8Z o8E o8K (by omega) (by omega)) (fun z15 h16 z15Z z15E p17 => ?_)
          obtain ⟨hI18, fh16, o20, o20Z, o20E, o20K, o21, o21Z, o21E, o21K, o22, o22Z, o22E, o22K, p17⟩ := p17
          have f19 : fr S_Mod_readCellOf h h16 := fr_call f6 fh16 rfl
          have g23 : 0 ≤ o20Z ∧ o20Z ≤ 160 := inv_at hI18 o20E o20K.symm rfl
          refine V_istore_n 3 [some (.ref 116), some (.int k), some (.int z2), some (.int z15), none] d_Mod_readCellOf_79 rfl (by decide) rfl rfl ?_
          refine V_iload_n 1 d_Mod_readCellOf_80 rfl rfl ?_
          refine V_iconst 4 d_Mod_readCellOf_81 (by decide) ?_
          refine V_icmp_ne 89 kE tc_4 d_Mod_readCellOf_82 (by decide) (fun c24 => ?_) (fun c24 => ?_)
          ·
            refine V_iload_n 1 d_Mod_readCellOf_89 rfl rfl ?_
            refine V_bipush 6 d_Mod_readCellOf_90 (by decide) ?_
            refine V_icmp_ne 100 kE tc_6 d_Mod_readCellOf_92 (by decide) (fun c25 => ?_) (fun c25 => ?_)
            ·
              refine V_bipush 48 d_Mod_readCellOf_100 (by decide) ?_
              refine V_istore 4 [some (.ref 116), some (.int k), some (.int z2), some (.int z15), some (.int 48)] d_Mod_readCellOf_102 (by decide) rfl rfl ?_
              refine V_aload_n 0 d_Mod_readCellOf_104 rfl rfl ?_
              refine V_getR fa_Mod_17 sk_116 rfl d_Mod_readCellOf_105 ?_
              refine V_iload d_Mod_readCellOf_108 rfl ?_
              refine V_iload_n 2 d_Mod_readCellOf_110 rfl rfl ?_
              refine V_iadd tc_48 z2E (by omega) d_Mod_readCellOf_111 (fun z26 z26e z26E => ?_)
              refine V_aload_n 0 d_Mod_readCellOf_112 rfl rfl ?_
              refine N_getK fa_Mod_102 sk_116 rfl d_Mod_readCellOf_113 o21K ?_
              refine V_if_ne 123 o21E d_Mod_readCellOf_116 (by decide) (fun c27 => ?_) (fun c27 => ?_)
              ·
                refine V_aload_n 0 d_Mod_readCellOf_123 rfl rfl ?_
                refine V_getR fa_Mod_17 sk_116 rfl d_Mod_readCellOf_124 ?_
                refine V_iload d_Mod_readCellOf_127 rfl ?_
                refine V_iload_n 2 d_Mod_readCellOf_129 rfl rfl ?_
                refine V_iadd tc_48 z2E (by omega) d_Mod_readCellOf_130 (fun z28 z28e z28E => ?_)
                refine N_iald sk_119 z28E (by omega) d_Mod_readCellOf_131 (fun z29 z29Z z29E z29e => ?_)
                refine N_iast sk_119 z26E (by omega) d_Mod_readCellOf_132 (fun h30 eh30 => ?_)
                have hI31 : Inv h30 := inv_full hI18 eh30 (st_lo (by omega))
                have f32 : fr S_Mod_readCellOf h h30 := fr_put f19 eh30 rfl
                exact V_vret rfl d_Mod_readCellOf_133 ⟨rfl, ⟨hI31, f32, o20, o20Z, o20E, (kn_ne eh30 o20K (by decide)), o21, o21Z, o21E, (kn_ne eh30 o21K (by decide)), o22, o22Z, o22E, (kn_ne eh30 o22K (by decide)), (by omega)⟩⟩
              ·
                refine V_iload_n 3 d_Mod_readCellOf_119 rfl rfl ?_
                refine V_goto 132 d_Mod_readCellOf_120 (by decide) ?_
                refine N_iast sk_119 z26E (by omega) d_Mod_readCellOf_132 (fun h33 eh33 => ?_)
                have hI34 : Inv h33 := inv_full hI18 eh33 (st_lo (by omega))
                have f35 : fr S_Mod_readCellOf h h33 := fr_put f19 eh33 rfl
                exact V_vret rfl d_Mod_readCellOf_133 ⟨rfl, ⟨hI34, f35, o20, o20Z, o20E, (kn_ne eh33 o20K (by decide)), o21, o21Z, o21E, (kn_ne eh33 o21K (by decide)), o22, o22Z, o22E, (kn_ne eh33 o22K (by decide)), (by omega)⟩⟩
            ·
              refine V_bipush 32 d_Mod_readCellOf_95 (by decide) ?_
              refine V_goto 102 d_Mod_readCellOf_97 (by decide) ?_
              refine V_istore 4 [some (.ref 116), some (.int k), some (.int z2), some (.int z15), some (.int 32)] d_Mod_readCellOf_102 (by decide) rfl rfl ?_
              refine V_aload_n 0 d_Mod_readCellOf_104 rfl rfl ?_
              refine V_getR fa_Mod_17 sk_116 rfl d_Mod_readCellOf_105 ?_
              refine V_iload d_Mod_readCellOf_108 rfl ?_
              refine V_iload_n 2 d_Mod_readCellOf_110 rfl rfl ?_
              refine V_iadd tc_32 z2E (by omega) d_Mod_readCellOf_111 (fun z36 z36e z36E => ?_)
              refine V_aload_n 0 d_Mod_readCellOf_112 rfl rfl ?_
              refine N_getK fa_Mod_102 sk_116 rfl d_Mod_readCellOf_113 o21K ?_
              refine V_if_ne 123 o21E d_Mod_readCellOf_116 (by decide) (fun c37 => ?_) (fun c37 => ?_)
              ·
                refine V_aload_n 0 d_Mod_readCellOf_123 rfl rfl ?_
                refine V_getR fa_Mod_17 sk_116 rfl d_Mod_readCellOf_124 ?_
                refine V_iload d_Mod_readCellOf_127 rfl ?_
                refine V_iload_n 2 d_Mod_readCellOf_129 rfl rfl ?_
                refine V_iadd tc_32 z2E (by omega) d_Mod_readCellOf_130 (fun z38 z38e z38E => ?_)
                refine N_iald sk_119 z38E (by omega) d_Mod_readCellOf_131 (fun z39 z39Z z39E z39e => ?_)
                refine N_iast sk_119 z36E (by omega) d_Mod_readCellOf_132 (fun h40 eh40 => ?_)
                have hI41 : Inv h40 := inv_full hI18 eh40 (st_lo (by omega))
                have f42 : fr S_Mod_readCellOf h h40 := fr_put f19 eh40 rfl
                exact V_vret rfl d_Mod_readCellOf_133 ⟨rfl, ⟨hI41, f42, o20, o20Z, o20E, (kn_ne eh40 o20K (by decide)), o21, o21Z, o21E, (kn_ne eh40 o21K (by decide)), o22, o22Z, o22E, (kn_ne eh40 o22K (by decide)), (by omega)⟩⟩
              ·
                refine V_iload_n 3 d_Mod_readCellOf_119 rfl rfl ?_
                refine V_goto 132 d_Mod_readCellOf_120 (by decide) ?_
                refine N_iast sk_119 z36E (by omega) d_Mod_readCellOf_132 (fun h43 eh43 => ?_)
                have hI44 : Inv h43 := inv_full hI18 eh43 (st_lo (by omega))
                have f45 : fr S_Mod_readCellOf h h43 := fr_put f19 eh43 rfl
                exact V_vret rfl d_Mod_readCellOf_133 ⟨rfl, ⟨hI44, f45, o20, o20Z, o20E, (kn_ne eh43 o20K (by decide)), o21, o21Z, o21E, (kn_ne eh43 o21K (by decide)), o22, o22Z, o22E, (kn_ne eh43 o22K (by decide)), (by omega)⟩⟩
          ·
            refine V_iconst 0 d_Mod_readCellOf_85 (by decide) ?_
            refine V_goto 102 d_Mod_readCellOf_86 (by decide) ?_
            refine V_istore 4 [some (.ref 116), some (.int k), some (.int z2), some (.int z15), some (.int 0)] d_Mod_readCellOf_102 (by decide) rfl rfl ?_
            refine V_aload_n 0 d_Mod_readCellOf_104 rfl rfl ?_
            refine V_getR fa_Mod_17 sk_116 rfl d_Mod_readCellOf_105 ?_
            refine V_iload d_Mod_readCellOf_108 rfl ?_
            refine V_iload_n 2 d_Mod_readCellOf_110 rfl rfl ?_
            refine V_iadd tc_0 z2E (by omega) d_Mod_readCellOf_111 (fun z46 z46e z46E => ?_)
            refine V_aload_n 0 d_Mod_readCellOf_112 rfl rfl ?_
            refine N_getK fa_Mod_102 sk_116 rfl d_Mod_readCellOf_113 o21K ?_
            refine V_if_ne 123 o21E d_Mod_readCellOf_116 (by decide) (fun c47 => ?_) (fun c47 => ?_)
            ·
              refine V_aload_n 0 d_Mod_readCellOf_123 rfl rfl ?_
              refine V_getR fa_Mod_17 sk_116 rfl d_Mod_readCellOf_124 ?_
              refine V_iload d_Mod_readCellOf_127 rfl ?_
              refine V_iload_n 2 d_Mod_readCellOf_129 rfl rfl ?_
              refine V_iadd tc_0 z2E (by omega) d_Mod_readCellOf_130 (fun z48 z48e z48E => ?_)
              refine N_iald sk_119 z48E (by omega) d_Mod_readCellOf_131 (fun z49 z49Z z49E z49e => ?_)
              refine N_iast sk_119 z46E (by omega) d_Mod_readCellOf_132 (fun h50 eh50 => ?_)
              have hI51 : Inv h50 := inv_full hI18 eh50 (st_lo (by omega))
              have f52 : fr S_Mod_readCellOf h h50 := fr_put f19 eh50 rfl
              exact V_vret rfl d_Mod_readCellOf_133 ⟨rfl, ⟨hI51, f52, o20, o20Z, o20E, (kn_ne eh50 o20K (by decide)), o21, o21Z, o21E, (kn_ne eh50 o21K (by decide)), o22, o22Z, o22E, (kn_ne eh50 o22K (by decide)), (by omega)⟩⟩
            ·
              refine V_iload_n 3 d_Mod_readCellOf_119 rfl rfl ?_
              refine V_goto 132 d_Mod_readCellOf_120 (by decide) ?_
              refine N_iast sk_119 z46E (by omega) d_Mod_readCellOf_132 (fun h53 eh53 => ?_)
              have hI54 : Inv h53 := inv_full hI18 eh53 (st_lo (by omega))
              have f55 : fr S_Mod_readCellOf h h53 := fr_put f19 eh53 rfl
              exact V_vret rfl d_Mod_readCellOf_133 ⟨rfl, ⟨hI54, f55, o20, o20Z, o20E, (kn_ne eh53 o20K (by decide)), o21, o21Z, o21E, (kn_ne eh53 o21K (by decide)), o22, o22Z, o22E, (kn_ne eh53 o22K (by decide)), (by omega)⟩⟩
        ·
          refine V_bipush 10 d_Mod_readCellOf_70 (by decide) ?_
          refine V_goto 76 d_Mod_readCellOf_72 (by decide) ?_
          refine N_callVI [.int 0, .int 10] [] cv_Mod_158 sk_116 rfl d_Mod_readCellOf_76 rfl (Nat.le_of_ble_eq_true rfl) (by decide) (by decide) (c_Mod_readNumber h3 hI5 0 0 tc_0 10 10 tc_10 o7 o7Z o7E o7K o8 o8Z o8E o8K (by omega) (by omega)) (fun z56 h57 z56Z z56E p58 => ?_)
          obtain ⟨hI59, fh57, o61, o61Z, o61E, o61K, o62, o62Z, o62E, o62K, o63, o63Z, o63E, o63K, p58⟩ := p58
          have f60 : fr S_Mod_readCellOf h h57 := fr_call f6 fh57 rfl
          have g64 : 0 ≤ o61Z ∧ o61Z ≤ 160 := inv_at hI59 o61E o61K.symm rfl
          refine V_istore_n 3 [some (.ref 116), some (.int k), some (.int z2), some (.int z56), none] d_Mod_readCellOf_79 rfl (by decide) rfl rfl ?_
          refine V_iload_n 1 d_Mod_readCellOf_80 rfl rfl ?_
          refine V_iconst 4 d_Mod_readCellOf_81 (by decide) ?_
          refine V_icmp_ne 89 kE tc_4 d_Mod_readCellOf_82 (by decide) (fun c65 => ?_) (fun c65 => ?_)
          ·
            refine V_iload_n 1 d_Mod_readCellOf_89 rfl rfl ?_
            refine V_bipush 6 d_Mod_readCellOf_90 (by decide) ?_
            refine V_icmp_ne 100 kE tc_6 d_Mod_readCellOf_92 (by decide) (fun c66 => ?_) (fun c66 => ?_)
            ·
              refine V_bipush 48 d_Mod_readCellOf_100 (by decide) ?_
              refine V_istore 4 [some (.ref 116), some (.int k), some (.int z2), some (.int z56), some (.int 48)] d_Mod_readCellOf_102 (by decide) rfl rfl ?_
              refine V_aload_n 0 d_Mod_readCellOf_104 rfl rfl ?_
              refine V_getR fa_Mod_17 sk_116 rfl d_Mod_readCellOf_105 ?_
              refine V_iload d_Mod_readCellOf_108 rfl ?_
              refine V_iload_n 2 d_Mod_readCellOf_110 rfl rfl ?_
              refine V_iadd tc_48 z2E (by omega) d_Mod_readCellOf_111 (fun z67 z67e z67E => ?_)
              refine V_aload_n 0 d_Mod_readCellOf_112 rfl rfl ?_
              refine N_getK fa_Mod_102 sk_116 rfl d_Mod_readCellOf_113 o62K ?_
              refine V_if_ne 123 o62E d_Mod_readCellOf_116 (by decide) (fun c68 => ?_) (fun c68 => ?_)
              ·
                refine V_aload_n 0 d_Mod_readCellOf_123 rfl rfl ?_
                refine V_getR fa_Mod_17 sk_116 rfl d_Mod_readCellOf_124 ?_
                refine V_iload d_Mod_readCellOf_127 rfl ?_
                refine V_iload_n 2 d_Mod_readCellOf_129 rfl rfl ?_
                refine V_iadd tc_48 z2E (by omega) d_Mod_readCellOf_130 (fun z69 z69e z69E => ?_)
                refine N_iald sk_119 z69E (by omega) d_Mod_readCellOf_131 (fun z70 z70Z z70E z70e => ?_)
                refine N_iast sk_119 z67E (by omega) d_Mod_readCellOf_132 (fun h71 eh71 => ?_)
                have hI72 : Inv h71 := inv_full hI59 eh71 (st_lo (by omega))
                have f73 : fr S_Mod_readCellOf h h71 := fr_put f60 eh71 rfl
                exact V_vret rfl d_Mod_readCellOf_133 ⟨rfl, ⟨hI72, f73, o61, o61Z, o61E, (kn_ne eh71 o61K (by decide)), o62, o62Z, o62E, (kn_ne eh71 o62K (by decide)), o63, o63Z, o63E, (kn_ne eh71 o63K (by decide)), (by omega)⟩⟩
              ·
                refine V_iload_n 3 d_Mod_readCellOf_119 rfl rfl ?_
                refine V_goto 132 d_Mod_readCellOf_120 (by decide) ?_
                refine N_iast sk_119 z67E (by omega) d_Mod_readCellOf_132 (fun h74 eh74 => ?_)
                have hI75 : Inv h74 := inv_full hI59 eh74 (st_lo (by omega))
                have f76 : fr S_Mod_readCellOf h h74 := fr_put f60 eh74 rfl
                exact V_vret rfl d_Mod_readCellOf_133 ⟨rfl, ⟨hI75, f76, o61, o61Z, o61E, (kn_ne eh74 o61K (by decide)), o62, o62Z, o62E, (kn_ne eh74 o62K (by decide)), o63, o63Z, o63E, (kn_ne eh74 o63K (by decide)), (by omega)⟩⟩
            ·
              refine V_bipush 32 d_Mod_readCellOf_95 (by decide) ?_
              refine V_goto 102 d_Mod_readCellOf_97 (by decide) ?_
              refine V_istore 4 [some (.ref 116), some (.int k), some (.int z2), some (.int z56), some (.int 32)] d_Mod_readCellOf_102 (by decide) rfl rfl ?_
              refine V_aload_n 0 d_Mod_readCellOf_104 rfl rfl ?_
              refine V_getR fa_Mod_17 sk_116 rfl d_Mod_readCellOf_105 ?_
              refine V_iload d_Mod_readCellOf_108 rfl ?_
              refine V_iload_n 2 d_Mod_readCellOf_110 rfl rfl ?_
              refine V_iadd tc_32 z2E (by omega) d_Mod_readCellOf_111 (fun z77 z77e z77E => ?_)
              refine V_aload_n 0 d_Mod_readCellOf_112 rfl rfl ?_
              refine N_getK fa_Mod_102 sk_116 rfl d_Mod_readCellOf_113 o62K ?_
              refine V_if_ne 123 o62E d_Mod_readCellOf_116 (by decide) (fun c78 => ?_) (fun c78 => ?_)
              ·
                refine V_aload_n 0 d_Mod_readCellOf_123 rfl rfl ?_
                refine V_getR fa_Mod_17 sk_116 rfl d_Mod_readCellOf_124 ?_
                refine V_iload d_Mod_readCellOf_127 rfl ?_
                refine V_iload_n 2 d_Mod_readCellOf_129 rfl rfl ?_
                refine V_iadd tc_32 z2E (by omega) d_Mod_readCellOf_130 (fun z79 z79e z79E => ?_)
                refine N_iald sk_119 z79E (by omega) d_Mod_readCellOf_131 (fun z80 z80Z z80E z80e => ?_)
                refine N_iast sk_119 z77E (by omega) d_Mod_readCellOf_132 (fun h81 eh81 => ?_)
                have hI82 : Inv h81 := inv_full hI59 eh81 (st_lo (by omega))
                have f83 : fr S_Mod_readCellOf h h81 := fr_put f60 eh81 rfl
                exact V_vret rfl d_Mod_readCellOf_133 ⟨rfl, ⟨hI82, f83, o61, o61Z, o61E, (kn_ne eh81 o61K (by decide)), o62, o62Z, o62E, (kn_ne eh81 o62K (by decide)), o63, o63Z, o63E, (kn_ne eh81 o63K (by decide)), (by omega)⟩⟩
              ·
                refine V_iload_n 3 d_Mod_readCellOf_119 rfl rfl ?_
                refine V_goto 132 d_Mod_readCellOf_120 (by decide) ?_
                refine N_iast sk_119 z77E (by omega) d_Mod_readCellOf_132 (fun h84 eh84 => ?_)
                have hI85 : Inv h84 := inv_full hI59 eh84 (st_lo (by omega))
                have f86 : fr S_Mod_readCellOf h h84 := fr_put f60 eh84 rfl
                exact V_vret rfl d_Mod_readCellOf_133 ⟨rfl, ⟨hI85, f86, o61, o61Z, o61E, (kn_ne eh84 o61K (by decide)), o62, o62Z, o62E, (kn_ne eh84 o62K (by decide)), o63, o63Z, o63E, (kn_ne eh84 o63K (by decide)), (by omega)⟩⟩
          ·
            refine V_iconst 0 d_Mod_readCellOf_85 (by decide) ?_
            refine V_goto 102 d_Mod_readCellOf_86 (by decide) ?_
            refine V_istore 4 [some (.ref 116), some (.int k), some (.int z2), some (.int z56), some (.int 0)] d_Mod_readCellOf_102 (by decide) rfl rfl ?_
            refine V_aload_n 0 d_Mod_readCellOf_104 rfl rfl ?_
            refine V_getR fa_Mod_17 sk_116 rfl d_Mod_readCellOf_105 ?_
            refine V_iload d_Mod_readCellOf_108 rfl ?_
            refine V_iload_n 2 d_Mod_readCellOf_110 rfl rfl ?_
            refine V_iadd tc_0 z2E (by omega) d_Mod_readCellOf_111 (fun z87 z87e z87E => ?_)
            refine V_aload_n 0 d_Mod_readCellOf_112 rfl rfl ?_
            refine N_getK fa_Mod_102 sk_116 rfl d_Mod_readCellOf_113 o62K ?_
            refine V_if_ne 123 o62E d_Mod_readCellOf_116 (by decide) (fun c88 => ?_) (fun c88 => ?_)
            ·
              refine V_aload_n 0 d_Mod_readCellOf_123 rfl rfl ?_
              refine V_getR fa_Mod_17 sk_116 rfl d_Mod_readCellOf_124 ?_
              refine V_iload d_Mod_readCellOf_127 rfl ?_
              refine V_iload_n 2 d_Mod_readCellOf_129 rfl rfl ?_
              refine V_iadd tc_0 z2E (by omega) d_Mod_readCellOf_130 (fun z89 z89e z89E => ?_)
              refine N_iald sk_119 z89E (by omega) d_Mod_readCellOf_131 (fun z90 z90Z z90E z90e => ?_)
              refine N_iast sk_119 z87E (by omega) d_Mod_readCellOf_132 (fun h91 eh91 => ?_)
              have hI92 : Inv h91 := inv_full hI59 eh91 (st_lo (by omega))
              have f93 : fr S_Mod_readCellOf h h91 := fr_put f60 eh91 rfl
              exact V_vret rfl d_Mod_readCellOf_133 ⟨rfl, ⟨hI92, f93, o61, o61Z, o61E, (kn_ne eh91 o61K (by decide)), o62, o62Z, o62E, (kn_ne eh91 o62K (by decide)), o63, o63Z, o63E, (kn_ne eh91 o63K (by decide)), (by omega)⟩⟩
            ·
              refine V_iload_n 3 d_Mod_readCellOf_119 rfl rfl ?_
              refine V_goto 132 d_Mod_readCellOf_120 (by decide) ?_
              refine N_iast sk_119 z87E (by omega) d_Mod_readCellOf_132 (fun h94 eh94 => ?_)
              have hI95 : Inv h94 := inv_full hI59 eh94 (st_lo (by omega))
              have f96 : fr S_Mod_readCellOf h h94 := fr_put f60 eh94 rfl
              exact V_vret rfl d_Mod_readCellOf_133 ⟨rfl, ⟨hI95, f96, o61, o61Z, o61E, (kn_ne eh94 o61K (by decide)), o62, o62Z, o62E, (kn_ne eh94 o62K (by decide)), o63, o63Z, o63E, (kn_ne eh94 o63K (by decide)), (by omega)⟩⟩
      ·
        refine V_bipush 9 d_Mod_readCellOf_59 (by decide) ?_
        refine V_goto 76 d_Mod_readCellOf_61 (by decide) ?_
        refine N_callVI [.int 0, .int 9] [] cv_Mod_158 sk_116 rfl d_Mod_readCellOf_76 rfl (Nat.le_of_ble_eq_true rfl) (by decide) (by decide) (c_Mod_readNumber h3 hI5 0 0 tc_0 9 9 tc_9 o7 o7Z o7E o7K o8 o8Z o8E o8K (by omega) (by omega)) (fun z97 h98 z97Z z97E p99 => ?_)
        obtain ⟨hI100, fh98, o102, o102Z, o102E, o102K, o103, o103Z, o103E, o103K, o104, o104Z, o104E, o104K, p99⟩ := p99
        have f101 : fr S_Mod_readCellOf h h98 := fr_call f6 fh98 rfl
        have g105 : 0 ≤ o102Z ∧ o102Z ≤ 160 := inv_at hI100 o102E o102K.symm rfl
        refine V_istore_n 3 [some (.ref 116), some (.int k), some (.int z2), some (.int z97), none] d_Mod_readCellOf_79 rfl (by decide) rfl rfl ?_
        refine V_iload_n 1 d_Mod_readCellOf_80 rfl rfl ?_
        refine V_iconst 4 d_Mod_readCellOf_81 (by decide) ?_
        refine V_icmp_ne 89 kE tc_4 d_Mod_readCellOf_82 (by decide) (fun c106 => ?_) (fun c106 => ?_)
        ·
          refine V_iload_n 1 d_Mod_readCellOf_89 rfl rfl ?_
          refine V_bipush 6 d_Mod_readCellOf_90 (by decide) ?_
          refine V_icmp_ne 100 kE tc_6 d_Mod_readCellOf_92 (by decide) (fun c107 => ?_) (fun c107 => ?_)
          ·
            refine V_bipush 48 d_Mod_readCellOf_100 (by decide) ?_
            refine V_istore 4 [some (.ref 116), some (.int k), some (.int z2), some (.int z97), some (.int 48)] d_Mod_readCellOf_102 (by decide) rfl rfl ?_
            refine V_aload_n 0 d_Mod_readCellOf_104 rfl rfl ?_
            refine V_getR fa_Mod_17 sk_116 rfl d_Mod_readCellOf_105 ?_
            refine V_iload d_Mod_readCellOf_108 rfl ?_
            refine V_iload_n 2 d_Mod_readCellOf_110 rfl rfl ?_
            refine V_iadd tc_48 z2E (by omega) d_Mod_readCellOf_111 (fun z108 z108e z108E => ?_)
            refine V_aload_n 0 d_Mod_readCellOf_112 rfl rfl ?_
            refine N_getK fa_Mod_102 sk_116 rfl d_Mod_readCellOf_113 o103K ?_
            refine V_if_ne 123 o103E d_Mod_readCellOf_116 (by decide) (fun c109 => ?_) (fun c109 => ?_)
            ·
              refine V_aload_n 0 d_Mod_readCellOf_123 rfl rfl ?_
              refine V_getR fa_Mod_17 sk_116 rfl d_Mod_readCellOf_124 ?_
              refine V_iload d_Mod_readCellOf_127 rfl ?_
              refine V_iload_n 2 d_Mod_readCellOf_129 rfl rfl ?_
              refine V_iadd tc_48 z2E (by omega) d_Mod_readCellOf_130 (fun z110 z110e z110E => ?_)
              refine N_iald sk_119 z110E (by omega) d_Mod_readCellOf_131 (fun z111 z111Z z111E z111e => ?_)
              refine N_iast sk_119 z108E (by omega) d_Mod_readCellOf_132 (fun h112 eh112 => ?_)
              have hI113 : Inv h112 := inv_full hI100 eh112 (st_lo (by omega))
              have f114 : fr S_Mod_readCellOf h h112 := fr_put f101 eh112 rfl
              exact V_vret rfl d_Mod_readCellOf_133 ⟨rfl, ⟨hI113, f114, o102, o102Z, o102E, (kn_ne eh112 o102K (by decide)), o103, o103Z, o103E, (kn_ne eh112 o103K (by decide)), o104, o104Z, o104E, (kn_ne eh112 o104K (by decide)), (by omega)⟩⟩
            ·
              refine V_iload_n 3 d_Mod_readCellOf_119 rfl rfl ?_
              refine V_goto 132 d_Mod_readCellOf_120 (by decide) ?_
              refine N_iast sk_119 z108E (by omega) d_Mod_readCellOf_132 (fun h115 eh115 => ?_)
              have hI116 : Inv h115 := inv_full hI100 eh115 (st_lo (by omega))
              have f117 : fr S_Mod_readCellOf h h115 := fr_put f101 eh115 rfl
              exact V_vret rfl d_Mod_readCellOf_133 ⟨rfl, ⟨hI116, f117, o102, o102Z, o102E, (kn_ne eh115 o102K (by decide)), o103, o103Z, o103E, (kn_ne eh115 o103K (by decide)), o104, o104Z, o104E, (kn_ne eh115 o104K (by decide)), (by omega)⟩⟩
          ·
            refine V_bipush 32 d_Mod_readCellOf_95 (by decide) ?_
            refine V_goto 102 d_Mod_readCellOf_97 (by decide) ?_
            refine V_istore 4 [some (.ref 116), some (.int k), some (.int z2), some (.int z97), some (.int 32)] d_Mod_readCellOf_102 (by decide) rfl rfl ?_
            refine V_aload_n 0 d_Mod_readCellOf_104 rfl rfl ?_
            refine V_getR fa_Mod_17 sk_116 rfl d_Mod_readCellOf_105 ?_
            refine V_iload d_Mod_readCellOf_108 rfl ?_
            refine V_iload_n 2 d_Mod_readCellOf_110 rfl rfl ?_
            refine V_iadd tc_32 z2E (by omega) d_Mod_readCellOf_111 (fun z118 z118e z118E => ?_)
            refine V_aload_n 0 d_Mod_readCellOf_112 rfl rfl ?_
            refine N_getK fa_Mod_102 sk_116 rfl d_Mod_readCellOf_113 o103K ?_
            refine V_if_ne 123 o103E d_Mod_readCellOf_116 (by decide) (fun c119 => ?_) (fun c119 => ?_)
            ·
              refine V_aload_n 0 d_Mod_readCellOf_123 rfl rfl ?_
              refine V_getR fa_Mod_17 sk_116 rfl d_Mod_readCellOf_124 ?_
              refine V_iload d_Mod_readCellOf_127 rfl ?_
              refine V_iload_n 2 d_Mod_readCellOf_129 rfl rfl ?_
              refine V_iadd tc_32 z2E (by omega) d_Mod_readCellOf_130 (fun z120 z120e z120E => ?_)
              refine N_iald sk_119 z120E (by omega) d_Mod_readCellOf_131 (fun z121 z121Z z121E z121e => ?_)
              refine N_iast sk_119 z118E (by omega) d_Mod_readCellOf_132 (fun h122 eh122 => ?_)
              have hI123 : Inv h122 := inv_full hI100 eh122 (st_lo (by omega))
              have f124 : fr S_Mod_readCellOf h h122 := fr_put f101 eh122 rfl
              exact V_vret rfl d_Mod_readCellOf_133 ⟨rfl, ⟨hI123, f124, o102, o102Z, o102E, (kn_ne eh122 o102K (by decide)), o103, o103Z, o103E, (kn_ne eh122 o103K (by decide)), o104, o104Z, o104E, (kn_ne eh122 o104K (by decide)), (by omega)⟩⟩
            ·
              refine V_iload_n 3 d_Mod_readCellOf_119 rfl rfl ?_
              refine V_goto 132 d_Mod_readCellOf_120 (by decide) ?_
              refine N_iast sk_119 z118E (by omega) d_Mod_readCellOf_132 (fun h125 eh125 => ?_)
              have hI126 : Inv h125 := inv_full hI100 eh125 (st_lo (by omega))
              have f127 : fr S_Mod_readCellOf h h125 := fr_put f101 eh125 rfl
              exact V_vret rfl d_Mod_readCellOf_133 ⟨rfl, ⟨hI126, f127, o102, o102Z, o102E, (kn_ne eh125 o102K (by decide)), o103, o103Z, o103E, (kn_ne eh125 o103K (by decide)), o104, o104Z, o104E, (kn_ne eh125 o104K (by decide)), (by omega)⟩⟩
        ·
          refine V_iconst 0 d_Mod_readCellOf_85 (by decide) ?_
          refine V_goto 102 d_Mod_readCellOf_86 (by decide) ?_
          refine V_istore 4 [some (.ref 116), some (.int k), some (.int z2), some (.int z97), some (.int 0)] d_Mod_readCellOf_102 (by decide) rfl rfl ?_
          refine V_aload_n 0 d_Mod_readCellOf_104 rfl rfl ?_
          refine V_getR fa_Mod_17 sk_116 rfl d_Mod_readCellOf_105 ?_
          refine V_iload d_Mod_readCellOf_108 rfl ?_
          refine V_iload_n 2 d_Mod_readCellOf_110 rfl rfl ?_
          refine V_iadd tc_0 z2E (by omega) d_Mod_readCellOf_111 (fun z128 z128e z128E => ?_)
          refine V_aload_n 0 d_Mod_readCellOf_112 rfl rfl ?_
          refine N_getK fa_Mod_102 sk_116 rfl d_Mod_readCellOf_113 o103K ?_
          refine V_if_ne 123 o103E d_Mod_readCellOf_116 (by decide) (fun c129 => ?_) (fun c129 => ?_)
          ·
            refine V_aload_n 0 d_Mod_readCellOf_123 rfl rfl ?_
            refine V_getR fa_Mod_17 sk_116 rfl d_Mod_readCellOf_124 ?_
            refine V_iload d_Mod_readCellOf_127 rfl ?_
            refine V_iload_n 2 d_Mod_readCellOf_129 rfl rfl ?_
            refine V_iadd tc_0 z2E (by omega) d_Mod_readCellOf_130 (fun z130 z130e z130E => ?_)
            refine N_iald sk_119 z130E (by omega) d_Mod_readCellOf_131 (fun z131 z131Z z131E z131e => ?_)
            refine N_iast sk_119 z128E (by omega) d_Mod_readCellOf_132 (fun h132 eh132 => ?_)
            have hI133 : Inv h132 := inv_full hI100 eh132 (st_lo (by omega))
            have f134 : fr S_Mod_readCellOf h h132 := fr_put f101 eh132 rfl
            exact V_vret rfl d_Mod_readCellOf_133 ⟨rfl, ⟨hI133, f134, o102, o102Z, o102E, (kn_ne eh132 o102K (by decide)), o103, o103Z, o103E, (kn_ne eh132 o103K (by decide)), o104, o104Z, o104E, (kn_ne eh132 o104K (by decide)), (by omega)⟩⟩
          ·
            refine V_iload_n 3 d_Mod_readCellOf_119 rfl rfl ?_
            refine V_goto 132 d_Mod_readCellOf_120 (by decide) ?_
            refine N_iast sk_119 z128E (by omega) d_Mod_readCellOf_132 (fun h135 eh135 => ?_)
            have hI136 : Inv h135 := inv_full hI100 eh135 (st_lo (by omega))
            have f137 : fr S_Mod_readCellOf h h135 := fr_put f101 eh135 rfl
            exact V_vret rfl d_Mod_readCellOf_133 ⟨rfl, ⟨hI136, f137, o102, o102Z, o102E, (kn_ne eh135 o102K (by decide)), o103, o103Z, o103E, (kn_ne eh135 o103K (by decide)), o104, o104Z, o104E, (kn_ne eh135 o104K (by decide)), (by omega)⟩⟩
    ·
      refine V_iconst 1 d_Mod_readCellOf_49 (by decide) ?_
      refine V_goto 54 d_Mod_readCellOf_50 (by decide) ?_
      refine V_iload_n 1 d_Mod_readCellOf_54 rfl rfl ?_
      refine V_iconst 4 d_Mod_readCellOf_55 (by decide) ?_
      refine V_icmp_ne 64 kE tc_4 d_Mod_readCellOf_56 (by decide) (fun c138 => ?_) (fun c138 => ?_)
      ·
        refine V_iload_n 1 d_Mod_readCellOf_64 rfl rfl ?_
        refine V_bipush 6 d_Mod_readCellOf_65 (by decide) ?_
        refine V_icmp_ne 75 kE tc_6 d_Mod_readCellOf_67 (by decide) (fun c139 => ?_) (fun c139 => ?_)
        ·
          refine V_iconst 3 d_Mod_readCellOf_75 (by decide) ?_
          refine N_callVI [.int 1, .int 3] [] cv_Mod_158 sk_116 rfl d_Mod_readCellOf_76 rfl (Nat.le_of_ble_eq_true rfl) (by decide) (by decide) (c_Mod_readNumber h3 hI5 1 1 tc_1 3 3 tc_3 o7 o7Z o7E o7K o8 o8Z o8E o8K (by omega) (by omega)) (fun z140 h141 z140Z z140E p142 => ?_)
          obtain ⟨hI143, fh141, o145, o145Z, o145E, o145K, o146, o146Z, o146E, o146K, o147, o147Z, o147E, o147K, p142⟩ := p142
          have f144 : fr S_Mod_readCellOf h h141 := fr_call f6 fh141 rfl
          have g148 : 0 ≤ o145Z ∧ o145Z ≤ 160 := inv_at hI143 o145E o145K.symm rfl
          refine V_istore_n 3 [some (.ref 116), some (.int k), some (.int z2), some (.int z140), none] d_Mod_readCellOf_79 rfl (by decide) rfl rfl ?_
          refine V_iload_n 1 d_Mod_readCellOf_80 rfl rfl ?_
          refine V_iconst 4 d_Mod_readCellOf_81 (by decide) ?_
          refine V_icmp_ne 89 kE tc_4 d_Mod_readCellOf_82 (by decide) (fun c149 => ?_) (fun c149 => ?_)
          ·
            refine V_iload_n 1 d_Mod_readCellOf_89 rfl rfl ?_
            refine V_bipush 6 d_Mod_readCellOf_90 (by decide) ?_
            refine V_icmp_ne 100 kE tc_6 d_Mod_readCellOf_92 (by decide) (fun c150 => ?_) (fun c150 => ?_)
            ·
              refine V_bipush 48 d_Mod_readCellOf_100 (by decide) ?_
              refine V_istore 4 [some (.ref 116), some (.int k), some (.int z2), some (.int z140), some (.int 48)] d_Mod_readCellOf_102 (by decide) rfl rfl ?_
              refine V_aload_n 0 d_Mod_readCellOf_104 rfl rfl ?_
              refine V_getR fa_Mod_17 sk_116 rfl d_Mod_readCellOf_105 ?_
              refine V_iload d_Mod_readCellOf_108 rfl ?_
              refine V_iload_n 2 d_Mod_readCellOf_110 rfl rfl ?_
              refine V_iadd tc_48 z2E (by omega) d_Mod_readCellOf_111 (fun z151 z151e z151E => ?_)
              refine V_aload_n 0 d_Mod_readCellOf_112 rfl rfl ?_
              refine N_getK fa_Mod_102 sk_116 rfl d_Mod_readCellOf_113 o146K ?_
              refine V_if_ne 123 o146E d_Mod_readCellOf_116 (by decide) (fun c152 => ?_) (fun c152 => ?_)
              ·
                refine V_aload_n 0 d_Mod_readCellOf_123 rfl rfl ?_
                refine V_getR fa_Mod_17 sk_116 rfl d_Mod_readCellOf_124 ?_
                refine V_iload d_Mod_readCellOf_127 rfl ?_
                refine V_iload_n 2 d_Mod_readCellOf_129 rfl rfl ?_
                refine V_iadd tc_48 z2E (by omega) d_Mod_readCellOf_130 (fun z153 z153e z153E => ?_)
                refine N_iald sk_119 z153E (by omega) d_Mod_readCellOf_131 (fun z154 z154Z z154E z154e => ?_)
                refine N_iast sk_119 z151E (by omega) d_Mod_readCellOf_132 (fun h155 eh155 => ?_)
                have hI156 : Inv h155 := inv_full hI143 eh155 (st_lo (by omega))
                have f157 : fr S_Mod_readCellOf h h155 := fr_put f144 eh155 rfl
                exact V_vret rfl d_Mod_readCellOf_133 ⟨rfl, ⟨hI156, f157, o145, o145Z, o145E, (kn_ne eh155 o145K (by decide)), o146, o146Z, o146E, (kn_ne eh155 o146K (by decide)), o147, o147Z, o147E, (kn_ne eh155 o147K (by decide)), (by omega)⟩⟩
              ·
                refine V_iload_n 3 d_Mod_readCellOf_119 rfl rfl ?_
                refine V_goto 132 d_Mod_readCellOf_120 (by decide) ?_
                refine N_iast sk_119 z151E (by omega) d_Mod_readCellOf_132 (fun h158 eh158 => ?_)
                have hI159 : Inv h158 := inv_full hI143 eh158 (st_lo (by omega))
                have f160 : fr S_Mod_readCellOf h h158 := fr_put f144 eh158 rfl
                exact V_vret rfl d_Mod_readCellOf_133 ⟨rfl, ⟨hI159, f160, o145, o145Z, o145E, (kn_ne eh158 o145K (by decide)), o146, o146Z, o146E, (kn_ne eh158 o146K (by decide)), o147, o147Z, o147E, (kn_ne eh158 o147K (by decide)), (by omega)⟩⟩
            ·
              refine V_bipush 32 d_Mod_readCellOf_95 (by decide) ?_
              refine V_goto 102 d_Mod_readCellOf_97 (by decide) ?_
              refine V_istore 4 [some (.ref 116), some (.int k), some (.int z2), some (.int z140), some (.int 32)] d_Mod_readCellOf_102 (by decide) rfl rfl ?_
              refine V_aload_n 0 d_Mod_readCellOf_104 rfl rfl ?_
              refine V_getR fa_Mod_17 sk_116 rfl d_Mod_readCellOf_105 ?_
              refine V_iload d_Mod_readCellOf_108 rfl ?_
              refine V_iload_n 2 d_Mod_readCellOf_110 rfl rfl ?_
              refine V_iadd tc_32 z2E (by omega) d_Mod_readCellOf_111 (fun z161 z161e z161E => ?_)
              refine V_aload_n 0 d_Mod_readCellOf_112 rfl rfl ?_
              refine N_getK fa_Mod_102 sk_116 rfl d_Mod_readCellOf_113 o146K ?_
              refine V_if_ne 123 o146E d_Mod_readCellOf_116 (by decide) (fun c162 => ?_) (fun c162 => ?_)
              ·
                refine V_aload_n 0 d_Mod_readCellOf_123 rfl rfl ?_
                refine V_getR fa_Mod_17 sk_116 rfl d_Mod_readCellOf_124 ?_
                refine V_iload d_Mod_readCellOf_127 rfl ?_
                refine V_iload_n 2 d_Mod_readCellOf_129 rfl rfl ?_
                refine V_iadd tc_32 z2E (by omega) d_Mod_readCellOf_130 (fun z163 z163e z163E => ?_)
                refine N_iald sk_119 z163E (by omega) d_Mod_readCellOf_131 (fun z164 z164Z z164E z164e => ?_)
                refine N_iast sk_119 z161E (by omega) d_Mod_readCellOf_132 (fun h165 eh165 => ?_)
                have hI166 : Inv h165 := inv_full hI143 eh165 (st_lo (by omega))
                have f167 : fr S_Mod_readCellOf h h165 := fr_put f144 eh165 rfl
                exact V_vret rfl d_Mod_readCellOf_133 ⟨rfl, ⟨hI166, f167, o145, o145Z, o145E, (kn_ne eh165 o145K (by decide)), o146, o146Z, o146E, (kn_ne eh165 o146K (by decide)), o147, o147Z, o147E, (kn_ne eh165 o147K (by decide)), (by omega)⟩⟩
              ·
                refine V_iload_n 3 d_Mod_readCellOf_119 rfl rfl ?_
                refine V_goto 132 d_Mod_readCellOf_120 (by decide) ?_
                refine N_iast sk_119 z161E (by omega) d_Mod_readCellOf_132 (fun h168 eh168 => ?_)
                have hI169 : Inv h168 := inv_full hI143 eh168 (st_lo (by omega))
                have f170 : fr S_Mod_readCellOf h h168 := fr_put f144 eh168 rfl
                exact V_vret rfl d_Mod_readCellOf_133 ⟨rfl, ⟨hI169, f170, o145, o145Z, o145E, (kn_ne eh168 o145K (by decide)), o146, o146Z, o146E, (kn_ne eh168 o146K (by decide)), o147, o147Z, o147E, (kn_ne eh168 o147K (by decide)), (by omega)⟩⟩
          ·
            refine V_iconst 0 d_Mod_readCellOf_85 (by decide) ?_
            refine V_goto 102 d_Mod_readCellOf_86 (by decide) ?_
            refine V_istore 4 [some (.ref 116), some (.int k), some (.int z2), some (.int z140), some (.int 0)] d_Mod_readCellOf_102 (by decide) rfl rfl ?_
            refine V_aload_n 0 d_Mod_readCellOf_104 rfl rfl ?_
            refine V_getR fa_Mod_17 sk_116 rfl d_Mod_readCellOf_105 ?_
            refine V_iload d_Mod_readCellOf_108 rfl ?_
            refine V_iload_n 2 d_Mod_readCellOf_110 rfl rfl ?_
            refine V_iadd tc_0 z2E (by omega) d_Mod_readCellOf_111 (fun z171 z171e z171E => ?_)
            refine V_aload_n 0 d_Mod_readCellOf_112 rfl rfl ?_
            refine N_getK fa_Mod_102 sk_116 rfl d_Mod_readCellOf_113 o146K ?_
            refine V_if_ne 123 o146E d_Mod_readCellOf_116 (by decide) (fun c172 => ?_) (fun c172 => ?_)
            ·
              refine V_aload_n 0 d_Mod_readCellOf_123 rfl rfl ?_
              refine V_getR fa_Mod_17 sk_116 rfl d_Mod_readCellOf_124 ?_
              refine V_iload d_Mod_readCellOf_127 rfl ?_
              refine V_iload_n 2 d_Mod_readCellOf_129 rfl rfl ?_
              refine V_iadd tc_0 z2E (by omega) d_Mod_readCellOf_130 (fun z173 z173e z173E => ?_)
              refine N_iald sk_119 z173E (by omega) d_Mod_readCellOf_131 (fun z174 z174Z z174E z174e => ?_)
              refine N_iast sk_119 z171E (by omega) d_Mod_readCellOf_132 (fun h175 eh175 => ?_)
              have hI176 : Inv h175 := inv_full hI143 eh175 (st_lo (by omega))
              have f177 : fr S_Mod_readCellOf h h175 := fr_put f144 eh175 rfl
              exact V_vret rfl d_Mod_readCellOf_133 ⟨rfl, ⟨hI176, f177, o145, o145Z, o145E, (kn_ne eh175 o145K (by decide)), o146, o146Z, o146E, (kn_ne eh175 o146K (by decide)), o147, o147Z, o147E, (kn_ne eh175 o147K (by decide)), (by omega)⟩⟩
            ·
              refine V_iload_n 3 d_Mod_readCellOf_119 rfl rfl ?_
              refine V_goto 132 d_Mod_readCellOf_120 (by decide) ?_
              refine N_iast sk_119 z171E (by omega) d_Mod_readCellOf_132 (fun h178 eh178 => ?_)
              have hI179 : Inv h178 := inv_full hI143 eh178 (st_lo (by omega))
              have f180 : fr S_Mod_readCellOf h h178 := fr_put f144 eh178 rfl
              exact V_vret rfl d_Mod_readCellOf_133 ⟨rfl, ⟨hI179, f180, o145, o145Z, o145E, (kn_ne eh178 o145K (by decide)), o146, o146Z, o146E, (kn_ne eh178 o146K (by decide)), o147, o147Z, o147E, (kn_ne eh178 o147K (by decide)), (by omega)⟩⟩
        ·
          refine V_bipush 10 d_Mod_readCellOf_70 (by decide) ?_
          refine V_goto 76 d_Mod_readCellOf_72 (by decide) ?_
          refine N_callVI [.int 1, .int 10] [] cv_Mod_158 sk_116 rfl d_Mod_readCellOf_76 rfl (Nat.le_of_ble_eq_true rfl) (by decide) (by decide) (c_Mod_readNumber h3 hI5 1 1 tc_1 10 10 tc_10 o7 o7Z o7E o7K o8 o8Z o8E o8K (by omega) (by omega)) (fun z181 h182 z181Z z181E p183 => ?_)
          obtain ⟨hI184, fh182, o186, o186Z, o186E, o186K, o187, o187Z, o187E, o187K, o188, o188Z, o188E, o188K, p183⟩ := p183
          have f185 : fr S_Mod_readCellOf h h182 := fr_call f6 fh182 rfl
          have g189 : 0 ≤ o186Z ∧ o186Z ≤ 160 := inv_at hI184 o186E o186K.symm rfl
          refine V_istore_n 3 [some (.ref 116), some (.int k), some (.int z2), some (.int z181), none] d_Mod_readCellOf_79 rfl (by decide) rfl rfl ?_
          refine V_iload_n 1 d_Mod_readCellOf_80 rfl rfl ?_
          refine V_iconst 4 d_Mod_readCellOf_81 (by decide) ?_
          refine V_icmp_ne 89 kE tc_4 d_Mod_readCellOf_82 (by decide) (fun c190 => ?_) (fun c190 => ?_)
          ·
            refine V_iload_n 1 d_Mod_readCellOf_89 rfl rfl ?_
            refine V_bipush 6 d_Mod_readCellOf_90 (by decide) ?_
            refine V_icmp_ne 100 kE tc_6 d_Mod_readCellOf_92 (by decide) (fun c191 => ?_) (fun c191 => ?_)
            ·
              refine V_bipush 48 d_Mod_readCellOf_100 (by decide) ?_
              refine V_istore 4 [some (.ref 116), some (.int k), some (.int z2), some (.int z181), some (.int 48)] d_Mod_readCellOf_102 (by decide) rfl rfl ?_
              refine V_aload_n 0 d_Mod_readCellOf_104 rfl rfl ?_
              refine V_getR fa_Mod_17 sk_116 rfl d_Mod_readCellOf_105 ?_
              refine V_iload d_Mod_readCellOf_108 rfl ?_
              refine V_iload_n 2 d_Mod_readCellOf_110 rfl rfl ?_
              refine V_iadd tc_48 z2E (by omega) d_Mod_readCellOf_111 (fun z192 z192e z192E => ?_)
              refine V_aload_n 0 d_Mod_readCellOf_112 rfl rfl ?_
              refine N_getK fa_Mod_102 sk_116 rfl d_Mod_readCellOf_113 o187K ?_
              refine V_if_ne 123 o187E d_Mod_readCellOf_116 (by decide) (fun c193 => ?_) (fun c193 => ?_)
              ·
                refine V_aload_n 0 d_Mod_readCellOf_123 rfl rfl ?_
                refine V_getR fa_Mod_17 sk_116 rfl d_Mod_readCellOf_124 ?_
                refine V_iload d_Mod_readCellOf_127 rfl ?_
                refine V_iload_n 2 d_Mod_readCellOf_129 rfl rfl ?_
                refine V_iadd tc_48 z2E (by omega) d_Mod_readCellOf_130 (fun z194 z194e z194E => ?_)
                refine N_iald sk_119 z194E (by omega) d_Mod_readCellOf_131 (fun z195 z195Z z195E z195e => ?_)
                refine N_iast sk_119 z192E (by omega) d_Mod_readCellOf_132 (fun h196 eh196 => ?_)
                have hI197 : Inv h196 := inv_full hI184 eh196 (st_lo (by omega))
                have f198 : fr S_Mod_readCellOf h h196 := fr_put f185 eh196 rfl
                exact V_vret rfl d_Mod_readCellOf_133 ⟨rfl, ⟨hI197, f198, o186, o186Z, o186E, (kn_ne eh196 o186K (by decide)), o187, o187Z, o187E, (kn_ne eh196 o187K (by decide)), o188, o188Z, o188E, (kn_ne eh196 o188K (by decide)), (by omega)⟩⟩
              ·
                refine V_iload_n 3 d_Mod_readCellOf_119 rfl rfl ?_
                refine V_goto 132 d_Mod_readCellOf_120 (by decide) ?_
                refine N_iast sk_119 z192E (by omega) d_Mod_readCellOf_132 (fun h199 eh199 => ?_)
                have hI200 : Inv h199 := inv_full hI184 eh199 (st_lo (by omega))
                have f201 : fr S_Mod_readCellOf h h199 := fr_put f185 eh199 rfl
                exact V_vret rfl d_Mod_readCellOf_133 ⟨rfl, ⟨hI200, f201, o186, o186Z, o186E, (kn_ne eh199 o186K (by decide)), o187, o187Z, o187E, (kn_ne eh199 o187K (by decide)), o188, o188Z, o188E, (kn_ne eh199 o188K (by decide)), (by omega)⟩⟩
            ·
              refine V_bipush 32 d_Mod_readCellOf_95 (by decide) ?_
              refine V_goto 102 d_Mod_readCellOf_97 (by decide) ?_
              refine V_istore 4 [some (.ref 116), some (.int k), some (.int z2), some (.int z181), some (.int 32)] d_Mod_readCellOf_102 (by decide) rfl rfl ?_
              refine V_aload_n 0 d_Mod_readCellOf_104 rfl rfl ?_
              refine V_getR fa_Mod_17 sk_116 rfl d_Mod_readCellOf_105 ?_
              refine V_iload d_Mod_readCellOf_108 rfl ?_
              refine V_iload_n 2 d_Mod_readCellOf_110 rfl rfl ?_
              refine V_iadd tc_32 z2E (by omega) d_Mod_readCellOf_111 (fun z202 z202e z202E => ?_)
              refine V_aload_n 0 d_Mod_readCellOf_112 rfl rfl ?_
              refine N_getK fa_Mod_102 sk_116 rfl d_Mod_readCellOf_113 o187K ?_
              refine V_if_ne 123 o187E d_Mod_readCellOf_116 (by decide) (fun c203 => ?_) (fun c203 => ?_)
              ·
                refine V_aload_n 0 d_Mod_readCellOf_123 rfl rfl ?_
                refine V_getR fa_Mod_17 sk_116 rfl d_Mod_readCellOf_124 ?_
                refine V_iload d_Mod_readCellOf_127 rfl ?_
                refine V_iload_n 2 d_Mod_readCellOf_129 rfl rfl ?_
                refine V_iadd tc_32 z2E (by omega) d_Mod_readCellOf_130 (fun z204 z204e z204E => ?_)
                refine N_iald sk_119 z204E (by omega) d_Mod_readCellOf_131 (fun z205 z205Z z205E z205e => ?_)
                refine N_iast sk_119 z202E (by omega) d_Mod_readCellOf_132 (fun h206 eh206 => ?_)
                have hI207 : Inv h206 := inv_full hI184 eh206 (st_lo (by omega))
                have f208 : fr S_Mod_readCellOf h h206 := fr_put f185 eh206 rfl
                exact V_vret rfl d_Mod_readCellOf_133 ⟨rfl, ⟨hI207, f208, o186, o186Z, o186E, (kn_ne eh206 o186K (by decide)), o187, o187Z, o187E, (kn_ne eh206 o187K (by decide)), o188, o188Z, o188E, (kn_ne eh206 o188K (by decide)), (by omega)⟩⟩
              ·
                refine V_iload_n 3 d_Mod_readCellOf_119 rfl rfl ?_
                refine V_goto 132 d_Mod_readCellOf_120 (by decide) ?_
                refine N_iast sk_119 z202E (by omega) d_Mod_readCellOf_132 (fun h209 eh209 => ?_)
                have hI210 : Inv h209 := inv_full hI184 eh209 (st_lo (by omega))
                have f211 : fr S_Mod_readCellOf h h209 := fr_put f185 eh209 rfl
                exact V_vret rfl d_Mod_readCellOf_133 ⟨rfl, ⟨hI210, f211, o186, o186Z, o186E, (kn_ne eh209 o186K (by decide)), o187, o187Z, o187E, (kn_ne eh209 o187K (by decide)), o188, o188Z, o188E, (kn_ne eh209 o188K (by decide)), (by omega)⟩⟩
          ·
            refine V_iconst 0 d_Mod_readCellOf_85 (by decide) ?_
            refine V_goto 102 d_Mod_readCellOf_86 (by decide) ?_
            refine V_istore 4 [some (.ref 116), some (.int k), some (.int z2), some (.int z181), some (.int 0)] d_Mod_readCellOf_102 (by decide) rfl rfl ?_
            refine V_aload_n 0 d_Mod_readCellOf_104 rfl rfl ?_
            refine V_getR fa_Mod_17 sk_116 rfl d_Mod_readCellOf_105 ?_
            refine V_iload d_Mod_readCellOf_108 rfl ?_
            refine V_iload_n 2 d_Mod_readCellOf_110 rfl rfl ?_
            refine V_iadd tc_0 z2E (by omega) d_Mod_readCellOf_111 (fun z212 z212e z212E => ?_)
            refine V_aload_n 0 d_Mod_readCellOf_112 rfl rfl ?_
            refine N_getK fa_Mod_102 sk_116 rfl d_Mod_readCellOf_113 o187K ?_
            refine V_if_ne 123 o187E d_Mod_readCellOf_116 (by decide) (fun c213 => ?_) (fun c213 => ?_)
            ·
              refine V_aload_n 0 d_Mod_readCellOf_123 rfl rfl ?_
              refine V_getR fa_Mod_17 sk_116 rfl d_Mod_readCellOf_124 ?_
              refine V_iload d_Mod_readCellOf_127 rfl ?_
              refine V_iload_n 2 d_Mod_readCellOf_129 rfl rfl ?_
              refine V_iadd tc_0 z2E (by omega) d_Mod_readCellOf_130 (fun z214 z214e z214E => ?_)
              refine N_iald sk_119 z214E (by omega) d_Mod_readCellOf_131 (fun z215 z215Z z215E z215e => ?_)
              refine N_iast sk_119 z212E (by omega) d_Mod_readCellOf_132 (fun h216 eh216 => ?_)
              have hI217 : Inv h216 := inv_full hI184 eh216 (st_lo (by omega))
              have f218 : fr S_Mod_readCellOf h h216 := fr_put f185 eh216 rfl
              exact V_vret rfl d_Mod_readCellOf_133 ⟨rfl, ⟨hI217, f218, o186, o186Z, o186E, (kn_ne eh216 o186K (by decide)), o187, o187Z, o187E, (kn_ne eh216 o187K (by decide)), o188, o188Z, o188E, (kn_ne eh216 o188K (by decide)), (by omega)⟩⟩
            ·
              refine V_iload_n 3 d_Mod_readCellOf_119 rfl rfl ?_
              refine V_goto 132 d_Mod_readCellOf_120 (by decide) ?_
              refine N_iast sk_119 z212E (by omega) d_Mod_readCellOf_132 (fun h219 eh219 => ?_)
              have hI220 : Inv h219 := inv_full hI184 eh219 (st_lo (by omega))
              have f221 : fr S_Mod_readCellOf h h219 := fr_put f185 eh219 rfl
              exact V_vret rfl d_Mod_readCellOf_133 ⟨rfl, ⟨hI220, f221, o186, o186Z, o186E, (kn_ne eh219 o186K (by decide)), o187, o187Z, o187E, (kn_ne eh219 o187K (by decide)), o188, o188Z, o188E, (kn_ne eh219 o188K (by decide)), (by omega)⟩⟩
      ·
        refine V_bipush 9 d_Mod_readCellOf_59 (by decide) ?_
        refine V_goto 76 d_Mod_readCellOf_61 (by decide) ?_
        refine N_callVI [.int 1, .int 9] [] cv_Mod_158 sk_116 rfl d_Mod_readCellOf_76 rfl (Nat.le_of_ble_eq_true rfl) (by decide) (by decide) (c_Mod_readNumber h3 hI5 1 1 tc_1 9 9 tc_9 o7 o7Z o7E o7K o8 o8Z o8E o8K (by omega) (by omega)) (fun z222 h223 z222Z z222E p224 => ?_)
        obtain ⟨hI225, fh223, o227, o227Z, o227E, o227K, o228, o228Z, o228E, o228K, o229, o229Z, o229E, o229K, p224⟩ := p224
        have f226 : fr S_Mod_readCellOf h h223 := fr_call f6 fh223 rfl
        have g230 : 0 ≤ o227Z ∧ o227Z ≤ 160 := inv_at hI225 o227E o227K.symm rfl
        refine V_istore_n 3 [some (.ref 116), some (.int k), some (.int z2), some (.int z222), none] d_Mod_readCellOf_79 rfl (by decide) rfl rfl ?_
        refine V_iload_n 1 d_Mod_readCellOf_80 rfl rfl ?_
        refine V_iconst 4 d_Mod_readCellOf_81 (by decide) ?_
        refine V_icmp_ne 89 kE tc_4 d_Mod_readCellOf_82 (by decide) (fun c231 => ?_) (fun c231 => ?_)
        ·
          refine V_iload_n 1 d_Mod_readCellOf_89 rfl rfl ?_
          refine V_bipush 6 d_Mod_readCellOf_90 (by decide) ?_
          refine V_icmp_ne 100 kE tc_6 d_Mod_readCellOf_92 (by decide) (fun c232 => ?_) (fun c232 => ?_)
          ·
            refine V_bipush 48 d_Mod_readCellOf_100 (by decide) ?_
            refine V_istore 4 [some (.ref 116), some (.int k), some (.int z2), some (.int z222), some (.int 48)] d_Mod_readCellOf_102 (by decide) rfl rfl ?_
            refine V_aload_n 0 d_Mod_readCellOf_104 rfl rfl ?_
            refine V_getR fa_Mod_17 sk_116 rfl d_Mod_readCellOf_105 ?_
            refine V_iload d_Mod_readCellOf_108 rfl ?_
            refine V_iload_n 2 d_Mod_readCellOf_110 rfl rfl ?_
            refine V_iadd tc_48 z2E (by omega) d_Mod_readCellOf_111 (fun z233 z233e z233E => ?_)
            refine V_aload_n 0 d_Mod_readCellOf_112 rfl rfl ?_
            refine N_getK fa_Mod_102 sk_116 rfl d_Mod_readCellOf_113 o228K ?_
            refine V_if_ne 123 o228E d_Mod_readCellOf_116 (by decide) (fun c234 => ?_) (fun c234 => ?_)
            ·
              refine V_aload_n 0 d_Mod_readCellOf_123 rfl rfl ?_
              refine V_getR fa_Mod_17 sk_116 rfl d_Mod_readCellOf_124 ?_
              refine V_iload d_Mod_readCellOf_127 rfl ?_
              refine V_iload_n 2 d_Mod_readCellOf_129 rfl rfl ?_
              refine V_iadd tc_48 z2E (by omega) d_Mod_readCellOf_130 (fun z235 z235e z235E => ?_)
              refine N_iald sk_119 z235E (by omega) d_Mod_readCellOf_131 (fun z236 z236Z z236E z236e => ?_)
              refine N_iast sk_119 z233E (by omega) d_Mod_readCellOf_132 (fun h237 eh237 => ?_)
              have hI238 : Inv h237 := inv_full hI225 eh237 (st_lo (by omega))
              have f239 : fr S_Mod_readCellOf h h237 := fr_put f226 eh237 rfl
              exact V_vret rfl d_Mod_readCellOf_133 ⟨rfl, ⟨hI238, f239, o227, o227Z, o227E, (kn_ne eh237 o227K (by decide)), o228, o228Z, o228E, (kn_ne eh237 o228K (by decide)), o229, o229Z, o229E, (kn_ne eh237 o229K (by decide)), (by omega)⟩⟩
            ·
              refine V_iload_n 3 d_Mod_readCellOf_119 rfl rfl ?_
              refine V_goto 132 d_Mod_readCellOf_120 (by decide) ?_
              refine N_iast sk_119 z233E (by omega) d_Mod_readCellOf_132 (fun h240 eh240 => ?_)
              have hI241 : Inv h240 := inv_full hI225 eh240 (st_lo (by omega))
              have f242 : fr S_Mod_readCellOf h h240 := fr_put f226 eh240 rfl
              exact V_vret rfl d_Mod_readCellOf_133 ⟨rfl, ⟨hI241, f242, o227, o227Z, o227E, (kn_ne eh240 o227K (by decide)), o228, o228Z, o228E, (kn_ne eh240 o228K (by decide)), o229, o229Z, o229E, (kn_ne eh240 o229K (by decide)), (by omega)⟩⟩
          ·
            refine V_bipush 32 d_Mod_readCellOf_95 (by decide) ?_
            refine V_goto 102 d_Mod_readCellOf_97 (by decide) ?_
            refine V_istore 4 [some (.ref 116), some (.int k), some (.int z2), some (.int z222), some (.int 32)] d_Mod_readCellOf_102 (by decide) rfl rfl ?_
            refine V_aload_n 0 d_Mod_readCellOf_104 rfl rfl ?_
            refine V_getR fa_Mod_17 sk_116 rfl d_Mod_readCellOf_105 ?_
            refine V_iload d_Mod_readCellOf_108 rfl ?_
            refine V_iload_n 2 d_Mod_readCellOf_110 rfl rfl ?_
            refine V_iadd tc_32 z2E (by omega) d_Mod_readCellOf_111 (fun z243 z243e z243E => ?_)
            refine V_aload_n 0 d_Mod_readCellOf_112 rfl rfl ?_
            refine N_getK fa_Mod_102 sk_116 rfl d_Mod_readCellOf_113 o228K ?_
            refine V_if_ne 123 o228E d_Mod_readCellOf_116 (by decide) (fun c244 => ?_) (fun c244 => ?_)
            ·
              refine V_aload_n 0 d_Mod_readCellOf_123 rfl rfl ?_
              refine V_getR fa_Mod_17 sk_116 rfl d_Mod_readCellOf_124 ?_
              refine V_iload d_Mod_readCellOf_127 rfl ?_
              refine V_iload_n 2 d_Mod_readCellOf_129 rfl rfl ?_
              refine V_iadd tc_32 z2E (by omega) d_Mod_readCellOf_130 (fun z245 z245e z245E => ?_)
              refine N_iald sk_119 z245E (by omega) d_Mod_readCellOf_131 (fun z246 z246Z z246E z246e => ?_)
              refine N_iast sk_119 z243E (by omega) d_Mod_readCellOf_132 (fun h247 eh247 => ?_)
              have hI248 : Inv h247 := inv_full hI225 eh247 (st_lo (by omega))
              have f249 : fr S_Mod_readCellOf h h247 := fr_put f226 eh247 rfl
              exact V_vret rfl d_Mod_readCellOf_133 ⟨rfl, ⟨hI248, f249, o227, o227Z, o227E, (kn_ne eh247 o227K (by decide)), o228, o228Z, o228E, (kn_ne eh247 o228K (by decide)), o229, o229Z, o229E, (kn_ne eh247 o229K (by decide)), (by omega)⟩⟩
            ·
              refine V_iload_n 3 d_Mod_readCellOf_119 rfl rfl ?_
              refine V_goto 132 d_Mod_readCellOf_120 (by decide) ?_
              refine N_iast sk_119 z243E (by omega) d_Mod_readCellOf_132 (fun h250 eh250 => ?_)
              have hI251 : Inv h250 := inv_full hI225 eh250 (st_lo (by omega))
              have f252 : fr S_Mod_readCellOf h h250 := fr_put f226 eh250 rfl
              exact V_vret rfl d_Mod_readCellOf_133 ⟨rfl, ⟨hI251, f252, o227, o227Z, o227E, (kn_ne eh250 o227K (by decide)), o228, o228Z, o228E, (kn_ne eh250 o228K (by decide)), o229, o229Z, o229E, (kn_ne eh250 o229K (by decide)), (by omega)⟩⟩
        ·
          refine V_iconst 0 d_Mod_readCellOf_85 (by decide) ?_
          refine V_goto 102 d_Mod_readCellOf_86 (by decide) ?_
          refine V_istore 4 [some (.ref 116), some (.int k), some (.int z2), some (.int z222), some (.int 0)] d_Mod_readCellOf_102 (by decide) rfl rfl ?_
          refine V_aload_n 0 d_Mod_readCellOf_104 rfl rfl ?_
          refine V_getR fa_Mod_17 sk_116 rfl d_Mod_readCellOf_105 ?_
          refine V_iload d_Mod_readCellOf_108 rfl ?_
          refine V_iload_n 2 d_Mod_readCellOf_110 rfl rfl ?_
          refine V_iadd tc_0 z2E (by omega) d_Mod_readCellOf_111 (fun z253 z253e z253E => ?_)
          refine V_aload_n 0 d_Mod_readCellOf_112 rfl rfl ?_
          refine N_getK fa_Mod_102 sk_116 rfl d_Mod_readCellOf_113 o228K ?_
          refine V_if_ne 123 o228E d_Mod_readCellOf_116 (by decide) (fun c254 => ?_) (fun c254 => ?_)
          ·
            refine V_aload_n 0 d_Mod_readCellOf_123 rfl rfl ?_
            refine V_getR fa_Mod_17 sk_116 rfl d_Mod_readCellOf_124 ?_
            refine V_iload d_Mod_readCellOf_127 rfl ?_
            refine V_iload_n 2 d_Mod_readCellOf_129 rfl rfl ?_
            refine V_iadd tc_0 z2E (by omega) d_Mod_readCellOf_130 (fun z255 z255e z255E => ?_)
            refine N_iald sk_119 z255E (by omega) d_Mod_readCellOf_131 (fun z256 z256Z z256E z256e => ?_)
            refine N_iast sk_119 z253E (by omega) d_Mod_readCellOf_132 (fun h257 eh257 => ?_)
            have hI258 : Inv h257 := inv_full hI225 eh257 (st_lo (by omega))
            have f259 : fr S_Mod_readCellOf h h257 := fr_put f226 eh257 rfl
            exact V_vret rfl d_Mod_readCellOf_133 ⟨rfl, ⟨hI258, f259, o227, o227Z, o227E, (kn_ne eh257 o227K (by decide)), o228, o228Z, o228E, (kn_ne eh257 o228K (by decide)), o229, o229Z, o229E, (kn_ne eh257 o229K (by decide)), (by omega)⟩⟩
          ·
            refine V_iload_n 3 d_Mod_readCellOf_119 rfl rfl ?_
            refine V_goto 132 d_Mod_readCellOf_120 (by decide) ?_
            refine N_iast sk_119 z253E (by omega) d_Mod_readCellOf_132 (fun h260 eh260 => ?_)
            have hI261 : Inv h260 := inv_full hI225 eh260 (st_lo (by omega))
            have f262 : fr S_Mod_readCellOf h h260 := fr_put f226 eh260 rfl
            exact V_vret rfl d_Mod_readCellOf_133 ⟨rfl, ⟨hI261, f262, o227, o227Z, o227E, (kn_ne eh260 o227K (by decide)), o228, o228Z, o228E, (kn_ne eh260 o228K (by decide)), o229, o229Z, o229E, (kn_ne eh260 o229K (by decide)), (by omega)⟩⟩
  ·
    refine V_aload_n 0 d_Mod_readCellOf_13 rfl rfl ?_
    refine V_getR fa_Mod_17 sk_116 rfl d_Mod_readCellOf_14 ?_
    refine V_bipush 16 d_Mod_readCellOf_17 (by decide) ?_
    refine V_iload_n 2 d_Mod_readCellOf_19 rfl rfl ?_
    refine V_iadd tc_16 z2E (by omega) d_Mod_readCellOf_20 (fun z263 z263e z263E => ?_)
    refine V_aload_n 0 d_Mod_readCellOf_21 rfl rfl ?_
    refine N_getK fa_Mod_102 sk_116 rfl d_Mod_readCellOf_22 o8K ?_
    refine V_if_ne 32 o8E d_Mod_readCellOf_25 (by decide) (fun c264 => ?_) (fun c264 => ?_)
    ·
      refine V_aload_n 0 d_Mod_readCellOf_32 rfl rfl ?_
      refine V_getR fa_Mod_17 sk_116 rfl d_Mod_readCellOf_33 ?_
      refine V_bipush 16 d_Mod_readCellOf_36 (by decide) ?_
      refine V_iload_n 2 d_Mod_readCellOf_38 rfl rfl ?_
      refine V_iadd tc_16 z2E (by omega) d_Mod_readCellOf_39 (fun z265 z265e z265E => ?_)
      refine N_iald sk_119 z265E (by omega) d_Mod_readCellOf_40 (fun z266 z266Z z266E z266e => ?_)
      refine N_iast sk_119 z263E (by omega) d_Mod_readCellOf_41 (fun h267 eh267 => ?_)
      have hI268 : Inv h267 := inv_full hI5 eh267 (st_lo (by omega))
      have f269 : fr S_Mod_readCellOf h h267 := fr_put f6 eh267 rfl
      exact V_vret rfl d_Mod_readCellOf_42 ⟨rfl, ⟨hI268, f269, o7, o7Z, o7E, (kn_ne eh267 o7K (by decide)), o8, o8Z, o8E, (kn_ne eh267 o8K (by decide)), o9, o9Z, o9E, (kn_ne eh267 o9K (by decide)), (by omega)⟩⟩
    ·
      refine V_iconst 1 d_Mod_readCellOf_28 (by decide) ?_
      refine V_goto 41 d_Mod_readCellOf_29 (by decide) ?_
      refine N_iast sk_119 z263E (by omega) d_Mod_readCellOf_41 (fun h270 eh270 => ?_)
      have hI271 : Inv h270 := inv_full hI5 eh270 (st_lo (by omega))
      have f272 : fr S_Mod_readCellOf h h270 := fr_put f6 eh270 rfl
      exact V_vret rfl d_Mod_readCellOf_42 ⟨rfl, ⟨hI271, f272, o7, o7Z, o7E, (kn_ne eh270 o7K (by decide)), o8, o8Z, o8E, (kn_ne eh270 o8K (by decide)), o9, o9Z, o9E, (kn_ne eh270 o9K (by decide)), (by omega)⟩⟩
theorem d_Mod_readLineOf_0 : decode b_Mod_readLineOf 0 = .ok (.iload_n 1, 1) := by decide +kernel
theorem d_Mod_readLineOf_1 : decode b_Mod_readLineOf 1 = .ok (.tableswitch 146 0 9 #[55, 78, 92, 106, 146, 146, 146, 146, 113, 139], 55) := by decide +kernel
theorem d_Mod_readLineOf_56 : decode b_Mod_readLineOf 56 = .ok (.aload_n 0, 1) := by decide +kernel
theorem d_Mod_readLineOf_57 : decode b_Mod_readLineOf 57 = .ok (.aload_n 0, 1) := by decide +kernel
theorem d_Mod_readLineOf_58 : decode b_Mod_readLineOf 58 = .ok (.iconst 2, 1) := by decide +kernel
theorem d_Mod_readLineOf_59 : decode b_Mod_readLineOf 59 = .ok (.iconst 4, 1) := by decide +kernel
theorem d_Mod_readLineOf_60 : decode b_Mod_readLineOf 60 = .ok (.invokevirtual 158, 3) := by decide +kernel
theorem d_Mod_readLineOf_63 : decode b_Mod_readLineOf 63 = .ok (.putfield 62, 3) := by decide +kernel
theorem d_Mod_readLineOf_66 : decode b_Mod_readLineOf 66 = .ok (.aload_n 0, 1) := by decide +kernel
theorem d_Mod_readLineOf_67 : decode b_Mod_readLineOf 67 = .ok (.aload_n 0, 1) := by decide +kernel
theorem d_Mod_readLineOf_68 : decode b_Mod_readLineOf 68 = .ok (.iconst 2, 1) := by decide +kernel
theorem d_Mod_readLineOf_69 : decode b_Mod_readLineOf 69 = .ok (.iconst 4, 1) := by decide +kernel
theorem d_Mod_readLineOf_70 : decode b_Mod_readLineOf 70 = .ok (.invokevirtual 158, 3) := by decide +kernel
theorem d_Mod_readLineOf_73 : decode b_Mod_readLineOf 73 = .ok (.putfield 66, 3) := by decide +kernel
theorem d_Mod_readLineOf_76 : decode b_Mod_readLineOf 76 = .ok (.goto 76, 3) := by decide +kernel
theorem d_Mod_readLineOf_79 : decode b_Mod_readLineOf 79 = .ok (.aload_n 0, 1) := by decide +kernel
theorem d_Mod_readLineOf_80 : decode b_Mod_readLineOf 80 = .ok (.aload_n 0, 1) := by decide +kernel
theorem d_Mod_readLineOf_81 : decode b_Mod_readLineOf 81 = .ok (.iconst 1, 1) := by decide +kernel
theorem d_Mod_readLineOf_82 : decode b_Mod_readLineOf 82 = .ok (.bipush 9, 2) := by decide +kernel
theorem d_Mod_readLineOf_84 : decode b_Mod_readLineOf 84 = .ok (.invokevirtual 158, 3) := by decide +kernel
theorem d_Mod_readLineOf_87 : decode b_Mod_readLineOf 87 = .ok (.putfield 69, 3) := by decide +kernel
theorem d_Mod_readLineOf_90 : decode b_Mod_readLineOf 90 = .ok (.goto 62, 3) := by decide +kernel
theorem d_Mod_readLineOf_93 : decode b_Mod_readLineOf 93 = .ok (.aload_n 0, 1) := by decide +kernel
theorem d_Mod_readLineOf_94 : decode b_Mod_readLineOf 94 = .ok (.aload_n 0, 1) := by decide +kernel
theorem d_Mod_readLineOf_95 : decode b_Mod_readLineOf 95 = .ok (.iconst 1, 1) := by decide +kernel
theorem d_Mod_readLineOf_96 : decode b_Mod_readLineOf 96 = .ok (.bipush 99, 2) := by decide +kernel
theorem d_Mod_readLineOf_98 : decode b_Mod_readLineOf 98 = .ok (.invokevirtual 158, 3) := by decide +kernel
theorem d_Mod_readLineOf_101 : decode b_Mod_readLineOf 101 = .ok (.putfield 72, 3) := by decide +kernel
theorem d_Mod_readLineOf_104 : decode b_Mod_readLineOf 104 = .ok (.goto 48, 3) := by decide +kernel
theorem d_Mod_readLineOf_107 : decode b_Mod_readLineOf 107 = .ok (.aload_n 0, 1) := by decide +kernel
theorem d_Mod_readLineOf_108 : decode b_Mod_readLineOf 108 = .ok (.invokevirtual 164, 3) := by decide +kernel
theorem d_Mod_readLineOf_111 : decode b_Mod_readLineOf 111 = .ok (.goto 41, 3) := by decide +kernel
theorem d_Mod_readLineOf_114 : decode b_Mod_readLineOf 114 = .ok (.aload_n 0, 1) := by decide +kernel
theorem d_Mod_readLineOf_115 : decode b_Mod_readLineOf 115 = .ok (.iload_n 1, 1) := by decide +kernel
theorem d_Mod_readLineOf_116 : decode b_Mod_readLineOf 116 = .ok (.iconst 3, 1) := by decide +kernel
theorem d_Mod_readLineOf_117 : decode b_Mod_readLineOf 117 = .ok (.invokevirtual 161, 3) := by decide +kernel
theorem d_Mod_readLineOf_120 : decode b_Mod_readLineOf 120 = .ok (.istore_n 2, 1) := by decide +kernel
theorem d_Mod_readLineOf_121 : decode b_Mod_readLineOf 121 = .ok (.aload_n 0, 1) := by decide +kernel
theorem d_Mod_readLineOf_122 : decode b_Mod_readLineOf 122 = .ok (.getfield 17, 3) := by decide +kernel
theorem d_Mod_readLineOf_125 : decode b_Mod_readLineOf 125 = .ok (.bipush 80, 2) := by decide +kernel
theorem d_Mod_readLineOf_127 : decode b_Mod_readLineOf 127 = .ok (.iload_n 2, 1) := by decide +kernel
theorem d_Mod_readLineOf_128 : decode b_Mod_readLineOf 128 = .ok (.iadd, 1) := by decide +kernel
theorem d_Mod_readLineOf_129 : decode b_Mod_readLineOf 129 = .ok (.aload_n 0, 1) := by decide +kernel
theorem d_Mod_readLineOf_130 : decode b_Mod_readLineOf 130 = .ok (.iconst 0, 1) := by decide +kernel
theorem d_Mod_readLineOf_131 : decode b_Mod_readLineOf 131 = .ok (.bipush 99, 2) := by decide +kernel
theorem d_Mod_readLineOf_133 : decode b_Mod_readLineOf 133 = .ok (.invokevirtual 158, 3) := by decide +kernel
theorem d_Mod_readLineOf_136 : decode b_Mod_readLineOf 136 = .ok (.iastore, 1) := by decide +kernel
theorem d_Mod_readLineOf_137 : decode b_Mod_readLineOf 137 = .ok (.goto 15, 3) := by decide +kernel
theorem d_Mod_readLineOf_140 : decode b_Mod_readLineOf 140 = .ok (.aload_n 0, 1) := by decide +kernel
theorem d_Mod_readLineOf_141 : decode b_Mod_readLineOf 141 = .ok (.invokevirtual 167, 3) := by decide +kernel
theorem d_Mod_readLineOf_144 : decode b_Mod_readLineOf 144 = .ok (.goto 8, 3) := by decide +kernel
theorem d_Mod_readLineOf_147 : decode b_Mod_readLineOf 147 = .ok (.aload_n 0, 1) := by decide +kernel
theorem d_Mod_readLineOf_148 : decode b_Mod_readLineOf 148 = .ok (.iload_n 1, 1) := by decide +kernel
theorem d_Mod_readLineOf_149 : decode b_Mod_readLineOf 149 = .ok (.invokevirtual 170, 3) := by decide +kernel
theorem d_Mod_readLineOf_152 : decode b_Mod_readLineOf 152 = .ok (.return_, 1) := by decide +kernel
def S_Mod_readLineOf : List (Nat × Option Nat) := [(116, some 16), (116, some 17), (116, some 18), (116, some 19), (116, some 20), (116, some 21), (119, none), (120, none), (116, some 13), (116, some 7), (116, some 8), (116, some 9), (116, some 10)]
abbrev q_Mod_readLineOf (h : Hp) (k : Int32) (kZ : Int) (p : Int32) (pZ : Int) (f : Int32) (fZ : Int) (x : Int32) (xZ : Int) (y : Int32) (yZ : Int) (m : Int32) (mZ : Int) : Option Value → Hp → Prop := pVd (fun h' => Inv h' ∧ fr S_Mod_readLineOf h h' ∧ ∃ (q : Int32) (qZ : Int), q.toInt = qZ ∧ h'.1 116 16 = q ∧ ∃ (u : Int32) (uZ : Int), u.toInt = uZ ∧ h'.1 116 20 = u ∧ ∃ (s : Int32) (sZ : Int), s.toInt = sZ ∧ h'.1 116 18 = s ∧ ∃ (v : Int32) (vZ : Int), v.toInt = vZ ∧ h'.1 116 7 = v ∧ ∃ (w : Int32) (wZ : Int), w.toInt = wZ ∧ h'.1 116 8 = w ∧ (((fZ = 0 ∨ uZ ≠ 0) ∧ 0 ≤ uZ ∧ pZ ≤ qZ ∧ (uZ ≠ 0 ∨ sZ ≠ 3 ∨ pZ + 1 ≤ qZ)) ∧ (uZ ≠ 0 ∨ 2 ≤ vZ ∧ vZ ≤ 4 ∧ 2 ≤ wZ ∧ wZ ≤ 4)))
set_option maxRecDepth 100000 in
theorem c_Mod_readLineOf (h : Hp) (hI : Inv h) (k : Int32) (kZ : Int) (kE : k.toInt = kZ) (p : Int32) (pZ : Int) (pE : p.toInt = pZ) (pK : h.1 116 16 = p) (f : Int32) (fZ : Int) (fE : f.toInt = fZ) (fK : h.1 116 20 = f) (x : Int32) (xZ : Int) (xE : x.toInt = xZ) (xK : h.1 116 7 = x) (y : Int32) (yZ : Int) (yE : y.toInt = yZ) (yK : h.1 116 8 = y) (m : Int32) (mZ : Int) (mE : m.toInt = mZ) (mK : h.1 119 86 = m) (hy0 : 0 ≤ kZ ∧ kZ ≤ 9) (hy1 : 0 ≤ fZ) (hy2 : (fZ ≠ 0 ∨ 2 ≤ xZ ∧ xZ ≤ 4 ∧ 2 ≤ yZ ∧ yZ ≤ 4)) (hy3 : (kZ ≠ 9 ∨ mZ ≤ 7)) (hy4 : 0 ≤ mZ) : Ct y_Mod_readLineOf b_Mod_readLineOf 3 none 4 94 [.ref 116, .int k] h (q_Mod_readLineOf h k kZ p pZ f fZ x xZ y yZ m mZ) := by
  refine ct_ow R_Mod [some (.ref 116), some (.int k), none] rfl (by decide) rfl (Nat.le_of_ble_eq_true rfl) ?_
  have f0 : fr S_Mod_readLineOf h h := fr_rf
  have g1 : 0 ≤ pZ ∧ pZ ≤ 160 := inv_at hI pE pK.symm rfl
  have g2 : 0 ≤ xZ ∧ xZ ≤ 4 := inv_at hI xE xK.symm rfl
  have g3 : 0 ≤ yZ ∧ yZ ≤ 4 := inv_at hI yE yK.symm rfl
  refine V_iload_n 1 d_Mod_readLineOf_0 rfl rfl ?_
  rcases (by omega : (kZ < 0 ∨ 9 < kZ) ∨ kZ = 0 ∨ kZ = 1 ∨ kZ = 2 ∨ kZ = 3 ∨ kZ = 4 ∨ kZ = 5 ∨ kZ = 6 ∨ kZ = 7 ∨ kZ = 8 ∨ kZ = 9) with c4 | c4 | c4 | c4 | c4 | c4 | c4 | c4 | c4 | c4 | c4
  ·
    refine V_tabOut 147 kE d_Mod_readLineOf_1 c4 (by decide) ?_
    refine V_aload_n 0 d_Mod_readLineOf_147 rfl rfl ?_
    refine V_iload_n 1 d_Mod_readLineOf_148 rfl rfl ?_
    refine N_callVV [.int k] [] cv_Mod_170 sk_116 rfl d_Mod_readLineOf_149 rfl (Nat.le_of_ble_eq_true rfl) (by decide) (by decide) (c_Mod_readCellOf h hI k kZ kE p pZ pE pK f fZ fE fK (by omega) (by omega)) (fun h6 p7 => ?_)
    obtain ⟨hI8, fh6, o10, o10Z, o10E, o10K, o11, o11Z, o11E, o11K, o12, o12Z, o12E, o12K, p7⟩ := p7
    have f9 : fr S_Mod_readLineOf h h6 := fr_call f0 fh6 rfl
    have g13 : 0 ≤ o10Z ∧ o10Z ≤ 160 := inv_at hI8 o10E o10K.symm rfl
    exact V_vret rfl d_Mod_readLineOf_152 ⟨rfl, ⟨hI8, f9, o10, o10Z, o10E, o10K, o11, o11Z, o11E, o11K, o12, o12Z, o12E, o12K, x, xZ, xE, (kn_call fh6 xK rfl), y, yZ, yE, (kn_call fh6 yK rfl), (by omega)⟩⟩
  ·
    refine V_tabIn 56 kE d_Mod_readLineOf_1 (by omega) (by omega) (by rw [c4]; rfl) (by decide) ?_
    refine V_aload_n 0 d_Mod_readLineOf_56 rfl rfl ?_
    refine V_aload_n 0 d_Mod_readLineOf_57 rfl rfl ?_
    refine V_iconst 2 d_Mod_readLineOf_58 (by decide) ?_
    refine V_iconst 4 d_Mod_readLineOf_59 (by decide) ?_
    refine N_callVI [.int 2, .int 4] [.ref 116] cv_Mod_158 sk_116 rfl d_Mod_readLineOf_60 rfl (Nat.le_of_ble_eq_true rfl) (by decide) (by decide) (c_Mod_readNumber h hI 2 2 tc_2 4 4 tc_4 p pZ pE pK f fZ fE fK (by omega) (by omega)) (fun z14 h15 z14Z z14E p16 => ?_)
    obtain ⟨hI17, fh15, o19, o19Z, o19E, o19K, o20, o20Z, o20E, o20K, o21, o21Z, o21E, o21K, p16⟩ := p16
    have f18 : fr S_Mod_readLineOf h h15 := fr_call f0 fh15 rfl
    have g22 : 0 ≤ o19Z ∧ o19Z ≤ 160 := inv_at hI17 o19E o19K.symm rfl
    refine N_putI fp_Mod_62 sk_116 rfl d_Mod_readLineOf_63 (fun h23 eh23 => ?_)
    have hI24 : Inv h23 := inv_put (lo := 0) (hi := 4) hI17 eh23 rfl z14E (by omega)
    have f25 : fr S_Mod_readLineOf h h23 := fr_put f18 eh23 rfl
    refine V_aload_n 0 d_Mod_readLineOf_66 rfl rfl ?_
    refine V_aload_n 0 d_Mod_readLineOf_67 rfl rfl ?_
    refine V_iconst 2 d_Mod_readLineOf_68 (by decide) ?_
    refine V_iconst 4 d_Mod_readLineOf_69 (by decide) ?_
    refine N_callVI [.int 2, .int 4] [.ref 116] cv_Mod_158 sk_116 rfl d_Mod_readLineOf_70 rfl (Nat.le_of_ble_eq_true rfl) (by decide) (by decide) (c_Mod_readNumber h23 hI24 2 2 tc_2 4 4 tc_4 o19 o19Z o19E (kn_nei eh23 o19K (by decide)) o20 o20Z o20E (kn_nei eh23 o20K (by decide)) (by omega) (by omega)) (fun z26 h27 z26Z z26E p28 => ?_)
    obtain ⟨hI29, fh27, o31, o31Z, o31E, o31K, o32, o32Z, o32E, o32K, o33, o33Z, o33E, o33K, p28⟩ := p28
    have f30 : fr S_Mod_readLineOf h h27 := fr_call f25 fh27 rfl
    have g34 : 0 ≤ o31Z ∧ o31Z ≤ 160 := inv_at hI29 o31E o31K.symm rfl
    refine N_putI fp_Mod_66 sk_116 rfl d_Mod_readLineOf_73 (fun h35 eh35 => ?_)
    have hI36 : Inv h35 := inv_put (lo := 0) (hi := 4) hI29 eh35 rfl z26E (by omega)
    have f37 : fr S_Mod_readLineOf h h35 := fr_put f30 eh35 rfl
    refine V_goto 152 d_Mod_readLineOf_76 (by decide) ?_
    exact V_vret rfl d_Mod_readLineOf_152 ⟨rfl, ⟨hI36, f37, o31, o31Z, o31E, (kn_nei eh35 o31K (by decide)), o32, o32Z, o32E, (kn_nei eh35 o32K (by decide)), o33, o33Z, o33E, (kn_nei eh35 o33K (by decide)), z14, z14Z, z14E, (kn_nei eh35 (kn_call fh27 (kn_put eh23) rfl) (by decide)), z26, z26Z, z26E, (kn_put eh35), (by omega)⟩⟩
  ·
    refine V_tabIn 79 kE d_Mod_readLineOf_1 (by omega) (by omega) (by rw [c4]; rfl) (by decide) ?_
    refine V_aload_n 0 d_Mod_readLineOf_79 rfl rfl ?_
    refine V_aload_n 0 d_Mod_readLineOf_80 rfl rfl ?_
    refine V_iconst 1 d_Mod_readLineOf_81 (by decide) ?_
    refine V_bipush 9 d_Mod_readLineOf_82 (by decide) ?_
    refine N_callVI [.int 1, .int 9] [.ref 116] cv_Mod_158 sk_116 rfl d_Mod_readLineOf_84 rfl (Nat.le_of_ble_eq_true rfl) (by decide) (by decide) (c_Mod_readNumber h hI 1 1 tc_1 9 9 tc_9 p pZ pE pK f fZ fE fK (by omega) (by omega)) (fun z38 h39 z38Z z38E p40 => ?_)
    obtain ⟨hI41, fh39, o43, o43Z, o43E, o43K, o44, o44Z, o44E, o44K, o45, o45Z, o45E, o45K, p40⟩ := p40
    have f42 : fr S_Mod_readLineOf h h39 := fr_call f0 fh39 rfl
    have g46 : 0 ≤ o43Z ∧ o43Z ≤ 160 := inv_at hI41 o43E o43K.symm rfl
    refine N_putI fp_Mod_69 sk_116 rfl d_Mod_readLineOf_87 (fun h47 eh47 => ?_)
    have hI48 : Inv h47 := inv_full hI41 eh47 rfl
    have f49 : fr S_Mod_readLineOf h h47 := fr_put f42 eh47 rfl
    refine V_goto 152 d_Mod_readLineOf_90 (by decide) ?_
    exact V_vret rfl d_Mod_readLineOf_152 ⟨rfl, ⟨hI48, f49, o43, o43Z, o43E, (kn_nei eh47 o43K (by decide)), o44, o44Z, o44E, (kn_nei eh47 o44K (by decide)), o45, o45Z, o45E, (kn_nei eh47 o45K (by decide)), x, xZ, xE, (kn_nei eh47 (kn_call fh39 xK rfl) (by decide)), y, yZ, yE, (kn_nei eh47 (kn_call fh39 yK rfl) (by decide)), (by omega)⟩⟩
  ·
    refine V_tabIn 93 kE d_Mod_readLineOf_1 (by omega) (by omega) (by rw [c4]; rfl) (by decide) ?_
    refine V_aload_n 0 d_Mod_readLineOf_93 rfl rfl ?_
    refine V_aload_n 0 d_Mod_readLineOf_94 rfl rfl ?_
    refine V_iconst 1 d_Mod_readLineOf_95 (by decide) ?_
    refine V_bipush 99 d_Mod_readLineOf_96 (by decide) ?_
    refine N_callVI [.int 1, .int 99] [.ref 116] cv_Mod_158 sk_116 rfl d_Mod_readLineOf_98 rfl (Nat.le_of_ble_eq_true rfl) (by decide) (by decide) (c_Mod_readNumber h hI 1 1 tc_1 99 99 tc_99 p pZ pE pK f fZ fE fK (by omega) (by omega)) (fun z50 h51 z50Z z50E p52 => ?_)
    obtain ⟨hI53, fh51, o55, o55Z, o55E, o55K, o56, o56Z, o56E, o56K, o57, o57Z, o57E, o57K, p52⟩ := p52
    have f54 : fr S_Mod_readLineOf h h51 := fr_call f0 fh51 rfl
    have g58 : 0 ≤ o55Z ∧ o55Z ≤ 160 := inv_at hI53 o55E o55K.symm rfl
    refine N_putI fp_Mod_72 sk_116 rfl d_Mod_readLineOf_101 (fun h59 eh59 => ?_)
    have hI60 : Inv h59 := inv_full hI53 eh59 rfl
    have f61 : fr S_Mod_readLineOf h h59 := fr_put f54 eh59 rfl
    refine V_goto 152 d_Mod_readLineOf_104 (by decide) ?_
    exact V_vret rfl d_Mod_readLineOf_152 ⟨rfl, ⟨hI60, f61, o55, o55Z, o55E, (kn_nei eh59 o55K (by decide)), o56, o56Z, o56E, (kn_nei eh59 o56K (by decide)), o57, o57Z, o57E, (kn_nei eh59 o57K (by decide)), x, xZ, xE, (kn_nei eh59 (kn_call fh51 xK rfl) (by decide)), y, yZ, yE, (kn_nei eh59 (kn_call fh51 yK rfl) (by decide)), (by omega)⟩⟩
  ·
    refine V_tabIn 107 kE d_Mod_readLineOf_1 (by omega) (by omega) (by rw [c4]; rfl) (by decide) ?_
    refine V_aload_n 0 d_Mod_readLineOf_107 rfl rfl ?_
    refine N_callVV [] [] cv_Mod_164 sk_116 rfl d_Mod_readLineOf_108 rfl (Nat.le_of_ble_eq_true rfl) (by decide) (by decide) (c_Mod_readRod h hI p pZ pE pK f fZ fE fK (by omega)) (fun h63 p64 => ?_)
    obtain ⟨hI65, fh63, o67, o67Z, o67E, o67K, o68, o68Z, o68E, o68K, o69, o69Z, o69E, o69K, p64⟩ := p64
    have f66 : fr S_Mod_readLineOf h h63 := fr_call f0 fh63 rfl
    have g70 : 0 ≤ o67Z ∧ o67Z ≤ 160 := inv_at hI65 o67E o67K.symm rfl
    refine V_goto 152 d_Mod_readLineOf_111 (by decide) ?_
    exact V_vret rfl d_Mod_readLineOf_152 ⟨rfl, ⟨hI65, f66, o67, o67Z, o67E, o67K, o68, o68Z, o68E, o68K, o69, o69Z, o69E, o69K, x, xZ, xE, (kn_call fh63 xK rfl), y, yZ, yE, (kn_call fh63 yK rfl), (by omega)⟩⟩
  ·
    refine V_tabIn 147 kE d_Mod_readLineOf_1 (by omega) (by omega) (by rw [c4]; rfl) (by decide) ?_
    refine V_aload_n 0 d_Mod_readLineOf_147 rfl rfl ?_
    refine V_iload_n 1 d_Mod_readLineOf_148 rfl rfl ?_
    refine N_callVV [.int k] [] cv_Mod_170 sk_116 rfl d_Mod_readLineOf_149 rfl (Nat.le_of_ble_eq_true rfl) (by decide) (by decide) (c_Mod_readCellOf h hI k kZ kE p pZ pE pK f fZ fE fK (by omega) (by omega)) (fun h72 p73 => ?_)
    obtain ⟨hI74, fh72, o76, o76Z, o76E, o76K, o77, o77Z, o77E, o77K, o78, o78Z, o78E, o78K, p73⟩ := p73
    have f75 : fr S_Mod_readLineOf h h72 := fr_call f0 fh72 rfl
    have g79 : 0 ≤ o76Z ∧ o76Z ≤ 160 := inv_at hI74 o76E o76K.symm rfl
    exact V_vret rfl d_Mod_readLineOf_152 ⟨rfl, ⟨hI74, f75, o76, o76Z, o76E, o76K, o77, o77Z, o77E, o77K, o78, o78Z, o78E, o78K, x, xZ, xE, (kn_call fh72 xK rfl), y, yZ, yE, (kn_call fh72 yK rfl), (by omega)⟩⟩
  ·
    refine V_tabIn 147 kE d_Mod_readLineOf_1 (by omega) (by omega) (by rw [c4]; rfl) (by decide) ?_
    refine V_aload_n 0 d_Mod_readLineOf_147 rfl rfl ?_
    refine V_iload_n 1 d_Mod_readLineOf_148 rfl rfl ?_
    refine N_callVV [.int k] [] cv_Mod_170 sk_116 rfl d_Mod_readLineOf_149 rfl (Nat.le_of_ble_eq_true rfl) (by decide) (by decide) (c_Mod_readCellOf h hI k kZ kE p pZ pE pK f fZ fE fK (by omega) (by omega)) (fun h81 p82 => ?_)
    obtain ⟨hI83, fh81, o85, o85Z, o85E, o85K, o86, o86Z, o86E, o86K, o87, o87Z, o87E, o87K, p82⟩ := p82
    have f84 : fr S_Mod_readLineOf h h81 := fr_call f0 fh81 rfl
    have g88 : 0 ≤ o85Z ∧ o85Z ≤ 160 := inv_at hI83 o85E o85K.symm rfl
    exact V_vret rfl d_Mod_readLineOf_152 ⟨rfl, ⟨hI83, f84, o85, o85Z, o85E, o85K, o86, o86Z, o86E, o86K, o87, o87Z, o87E, o87K, x, xZ, xE, (kn_call fh81 xK rfl), y, yZ, yE, (kn_call fh81 yK rfl), (by omega)⟩⟩
  ·
    refine V_tabIn 147 kE d_Mod_readLineOf_1 (by omega) (by omega) (by rw [c4]; rfl) (by decide) ?_
    refine V_aload_n 0 d_Mod_readLineOf_147 rfl rfl ?_
    refine V_iload_n 1 d_Mod_readLineOf_148 rfl rfl ?_
    refine N_callVV [.int k] [] cv_Mod_170 sk_116 rfl d_Mod_readLineOf_149 rfl (Nat.le_of_ble_eq_true rfl) (by decide) (by decide) (c_Mod_readCellOf h hI k kZ kE p pZ pE pK f fZ fE fK (by omega) (by omega)) (fun h90 p91 => ?_)
    obtain ⟨hI92, fh90, o94, o94Z, o94E, o94K, o95, o95Z, o95E, o95K, o96, o96Z, o96E, o96K, p91⟩ := p91
    have f93 : fr S_Mod_readLineOf h h90 := fr_call f0 fh90 rfl
    have g97 : 0 ≤ o94Z ∧ o94Z ≤ 160 := inv_at hI92 o94E o94K.symm rfl
    exact V_vret rfl d_Mod_readLineOf_152 ⟨rfl, ⟨hI92, f93, o94, o94Z, o94E, o94K, o95, o95Z, o95E, o95K, o96, o96Z, o96E, o96K, x, xZ, xE, (kn_call fh90 xK rfl), y, yZ, yE, (kn_call fh90 yK rfl), (by omega)⟩⟩
  ·
    refine V_tabIn 147 kE d_Mod_readLineOf_1 (by omega) (by omega) (by rw [c4]; rfl) (by decide) ?_
    refine V_aload_n 0 d_Mod_readLineOf_147 rfl rfl ?_
    refine V_iload_n 1 d_Mod_readLineOf_148 rfl rfl ?_
    refine N_callVV [.int k] [] cv_Mod_170 sk_116 rfl d_Mod_readLineOf_149 rfl (Nat.le_of_ble_eq_true rfl) (by decide) (by decide) (c_Mod_readCellOf h hI k kZ kE p pZ pE pK f fZ fE fK (by omega) (by omega)) (fun h99 p100 => ?_)
    obtain ⟨hI101, fh99, o103, o103Z, o103E, o103K, o104, o104Z, o104E, o104K, o105, o105Z, o105E, o105K, p100⟩ := p100
    have f102 : fr S_Mod_readLineOf h h99 := fr_call f0 fh99 rfl
    have g106 : 0 ≤ o103Z ∧ o103Z ≤ 160 := inv_at hI101 o103E o103K.symm rfl
    exact V_vret rfl d_Mod_readLineOf_152 ⟨rfl, ⟨hI101, f102, o103, o103Z, o103E, o103K, o104, o104Z, o104E, o104K, o105, o105Z, o105E, o105K, x, xZ, xE, (kn_call fh99 xK rfl), y, yZ, yE, (kn_call fh99 yK rfl), (by omega)⟩⟩
  ·
    refine V_tabIn 114 kE d_Mod_readLineOf_1 (by omega) (by omega) (by rw [c4]; rfl) (by decide) ?_
    refine V_aload_n 0 d_Mod_readLineOf_114 rfl rfl ?_
    refine V_iload_n 1 d_Mod_readLineOf_115 rfl rfl ?_
    refine V_iconst 3 d_Mod_readLineOf_116 (by decide) ?_
    refine N_callVI [.int k, .int 3] [] cv_Mod_161 sk_116 rfl d_Mod_readLineOf_117 rfl (Nat.le_of_ble_eq_true rfl) (by decide) (by decide) (c_Mod_readFresh h hI k kZ kE 3 3 tc_3 p pZ pE pK f fZ fE fK (by omega) (by omega) (by omega)) (fun z107 h108 z107Z z107E p109 => ?_)
    obtain ⟨hI110, fh108, o112, o112Z, o112E, o112K, o113, o113Z, o113E, o113K, o114, o114Z, o114E, o114K, p109⟩ := p109
    have f111 : fr S_Mod_readLineOf h h108 := fr_call f0 fh108 rfl
    have g115 : 0 ≤ o112Z ∧ o112Z ≤ 160 := inv_at hI110 o112E o112K.symm rfl
    refine V_istore_n 2 [some (.ref 116), some (.int k), some (.int z107)] d_Mod_readLineOf_120 rfl (by decide) rfl rfl ?_
    refine V_aload_n 0 d_Mod_readLineOf_121 rfl rfl ?_
    refine V_getR fa_Mod_17 sk_116 rfl d_Mod_readLineOf_122 ?_
    refine V_bipush 80 d_Mod_readLineOf_125 (by decide) ?_
    refine V_iload_n 2 d_Mod_readLineOf_127 rfl rfl ?_
    refine V_iadd tc_80 z107E (by omega) d_Mod_readLineOf_128 (fun z116 z116e z116E => ?_)
    refine V_aload_n 0 d_Mod_readLineOf_129 rfl rfl ?_
    refine V_iconst 0 d_Mod_readLineOf_130 (by decide) ?_
    refine V_bipush 99 d_Mod_readLineOf_131 (by decide) ?_
    refine N_callVI [.int 0, .int 99] [.int z116, .ref 119] cv_Mod_158 sk_116 rfl d_Mod_readLineOf_133 rfl (Nat.le_of_ble_eq_true rfl) (by decide) (by decide) (c_Mod_readNumber h108 hI110 0 0 tc_0 99 99 tc_99 o112 o112Z o112E o112K o113 o113Z o113E o113K (by omega) (by omega)) (fun z117 h118 z117Z z117E p119 => ?_)
    obtain ⟨hI120, fh118, o122, o122Z, o122E, o122K, o123, o123Z, o123E, o123K, o124, o124Z, o124E, o124K, p119⟩ := p119
    have f121 : fr S_Mod_readLineOf h h118 := fr_call f111 fh118 rfl
    have g125 : 0 ≤ o122Z ∧ o122Z ≤ 160 := inv_at hI120 o122E o122K.symm rfl
    refine N_iast sk_119 z116E (by omega) d_Mod_readLineOf_136 (fun h126 eh126 => ?_)
    have hI127 : Inv h126 := inv_full hI120 eh126 (st_lo (by omega))
    have f128 : fr S_Mod_readLineOf h h126 := fr_put f121 eh126 rfl
    refine V_goto 152 d_Mod_readLineOf_137 (by decide) ?_
    exact V_vret rfl d_Mod_readLineOf_152 ⟨rfl, ⟨hI127, f128, o122, o122Z, o122E, (kn_ne eh126 o122K (by decide)), o123, o123Z, o123E, (kn_ne eh126 o123K (by decide)), o124, o124Z, o124E, (kn_ne eh126 o124K (by decide)), x, xZ, xE, (kn_ne eh126 (kn_call fh118 (kn_call fh108 xK rfl) rfl) (by decide)), y, yZ, yE, (kn_ne eh126 (kn_call fh118 (kn_call fh108 yK rfl) rfl) (by decide)), (by omega)⟩⟩
  ·
    refine V_tabIn 140 kE d_Mod_readLineOf_1 (by omega) (by omega) (by rw [c4]; rfl) (by decide) ?_
    refine V_aload_n 0 d_Mod_readLineOf_140 rfl rfl ?_
    refine N_callVV [] [] cv_Mod_167 sk_116 rfl d_Mod_readLineOf_141 rfl (Nat.le_of_ble_eq_true rfl) (by decide) (by decide) (c_Mod_readDebt h hI p pZ pE pK f fZ fE fK m mZ mE mK (by omega) (by omega)) (fun h130 p131 => ?_)
    obtain ⟨hI132, fh130, o134, o134Z, o134E, o134K, o135, o135Z, o135E, o135K, o136, o136Z, o136E, o136K, p131⟩ := p131
    have f133 : fr S_Mod_readLineOf h h130 := fr_call f0 fh130 rfl
    have g137 : 0 ≤ o134Z ∧ o134Z ≤ 160 := inv_at hI132 o134E o134K.symm rfl
    refine V_goto 152 d_Mod_readLineOf_144 (by decide) ?_
    exact V_vret rfl d_Mod_readLineOf_152 ⟨rfl, ⟨hI132, f133, o134, o134Z, o134E, o134K, o135, o135Z, o135E, o135K, o136, o136Z, o136E, o136K, x, xZ, xE, (kn_call fh130 xK rfl), y, yZ, yE, (kn_call fh130 yK rfl), (by omega)⟩⟩
theorem d_Mod_readLine_0 : decode b_Mod_readLine 0 = .ok (.aload_n 0, 1) := by decide +kernel
theorem d_Mod_readLine_1 : decode b_Mod_readLine 1 = .ok (.getfield 130, 3) := by decide +kernel
theorem d_Mod_readLine_4 : decode b_Mod_readLine 4 = .ok (.iconst 1, 1) := by decide +kernel
theorem d_Mod_readLine_5 : decode b_Mod_readLine 5 = .ok (.if_icmp .ne 10, 3) := by decide +kernel
theorem d_Mod_readLine_8 : decode b_Mod_readLine 8 = .ok (.aload_n 0, 1) := by decide +kernel
theorem d_Mod_readLine_9 : decode b_Mod_readLine 9 = .ok (.invokevirtual 174, 3) := by decide +kernel
theorem d_Mod_readLine_12 : decode b_Mod_readLine 12 = .ok (.goto 5, 3) := by decide +kernel
theorem d_Mod_readLine_15 : decode b_Mod_readLine 15 = .ok (.bipush (-4), 2) := by decide +kernel
theorem d_Mod_readLine_17 : decode b_Mod_readLine 17 = .ok (.istore_n 1, 1) := by decide +kernel
theorem d_Mod_readLine_18 : decode b_Mod_readLine 18 = .ok (.aload_n 0, 1) := by decide +kernel
theorem d_Mod_readLine_19 : decode b_Mod_readLine 19 = .ok (.iload_n 1, 1) := by decide +kernel
theorem d_Mod_readLine_20 : decode b_Mod_readLine 20 = .ok (.bipush (-4), 2) := by decide +kernel
theorem d_Mod_readLine_22 : decode b_Mod_readLine 22 = .ok (.if_icmp .eq 7, 3) := by decide +kernel
theorem d_Mod_readLine_25 : decode b_Mod_readLine 25 = .ok (.iconst 1, 1) := by decide +kernel
theorem d_Mod_readLine_26 : decode b_Mod_readLine 26 = .ok (.goto 4, 3) := by decide +kernel
theorem d_Mod_readLine_29 : decode b_Mod_readLine 29 = .ok (.iconst 0, 1) := by decide +kernel
theorem d_Mod_readLine_30 : decode b_Mod_readLine 30 = .ok (.iconst 2, 1) := by decide +kernel
theorem d_Mod_readLine_31 : decode b_Mod_readLine 31 = .ok (.invokevirtual 144, 3) := by decide +kernel
theorem d_Mod_readLine_34 : decode b_Mod_readLine 34 = .ok (.aload_n 0, 1) := by decide +kernel
theorem d_Mod_readLine_35 : decode b_Mod_readLine 35 = .ok (.iload_n 1, 1) := by decide +kernel
theorem d_Mod_readLine_36 : decode b_Mod_readLine 36 = .ok (.bipush 9, 2) := by decide +kernel
theorem d_Mod_readLine_38 : decode b_Mod_readLine 38 = .ok (.if_icmp .ne 15, 3) := by decide +kernel
theorem d_Mod_readLine_41 : decode b_Mod_readLine 41 = .ok (.aload_n 0, 1) := by decide +kernel
theorem d_Mod_readLine_42 : decode b_Mod_readLine 42 = .ok (.getfield 17, 3) := by decide +kernel
theorem d_Mod_readLine_45 : decode b_Mod_readLine 45 = .ok (.bipush 86, 2) := by decide +kernel
theorem d_Mod_readLine_47 : decode b_Mod_readLine 47 = .ok (.iaload, 1) := by decide +kernel
theorem d_Mod_readLine_48 : decode b_Mod_readLine 48 = .ok (.bipush 8, 2) := by decide +kernel
theorem d_Mod_readLine_50 : decode b_Mod_readLine 50 = .ok (.if_icmp .ge 7, 3) := by decide +kernel
theorem d_Mod_readLine_53 : decode b_Mod_readLine 53 = .ok (.iconst 1, 1) := by decide +kernel
theorem d_Mod_readLine_54 : decode b_Mod_readLine 54 = .ok (.goto 4, 3) := by decide +kernel
theorem d_Mod_readLine_57 : decode b_Mod_readLine 57 = .ok (.iconst 0, 1) := by decide +kernel
theorem d_Mod_readLine_58 : decode b_Mod_readLine 58 = .ok (.iconst 5, 1) := by decide +kernel
theorem d_Mod_readLine_59 : decode b_Mod_readLine 59 = .ok (.invokevirtual 144, 3) := by decide +kernel
theorem d_Mod_readLine_62 : decode b_Mod_readLine 62 = .ok (.aload_n 0, 1) := by decide +kernel
theorem d_Mod_readLine_63 : decode b_Mod_readLine 63 = .ok (.getfield 102, 3) := by decide +kernel
theorem d_Mod_readLine_66 : decode b_Mod_readLine 66 = .ok (.ifCond .ne 41, 3) := by decide +kernel
theorem d_Mod_readLine_69 : decode b_Mod_readLine 69 = .ok (.iload_n 1, 1) := by decide +kernel
theorem d_Mod_readLine_70 : decode b_Mod_readLine 70 = .ok (.iconst 3, 1) := by decide +kernel
theorem d_Mod_readLine_71 : decode b_Mod_readLine 71 = .ok (.if_icmp .gt 36, 3) := by decide +kernel
theorem d_Mod_readLine_74 : decode b_Mod_readLine 74 = .ok (.aload_n 0, 1) := by decide +kernel
theorem d_Mod_readLine_75 : decode b_Mod_readLine 75 = .ok (.aload_n 0, 1) := by decide +kernel
theorem d_Mod_readLine_76 : decode b_Mod_readLine 76 = .ok (.getfield 75, 3) := by decide +kernel
theorem d_Mod_readLine_79 : decode b_Mod_readLine 79 = .ok (.iload_n 1, 1) := by decide +kernel
theorem d_Mod_readLine_80 : decode b_Mod_readLine 80 = .ok (.ishr, 1) := by decide +kernel
theorem d_Mod_readLine_81 : decode b_Mod_readLine 81 = .ok (.iconst 1, 1) := by decide +kernel
theorem d_Mod_readLine_82 : decode b_Mod_readLine 82 = .ok (.iand, 1) := by decide +kernel
theorem d_Mod_readLine_83 : decode b_Mod_readLine 83 = .ok (.ifCond .ne 7, 3) := by decide +kernel
theorem d_Mod_readLine_86 : decode b_Mod_readLine 86 = .ok (.iconst 1, 1) := by decide +kernel
theorem d_Mod_readLine_87 : decode b_Mod_readLine 87 = .ok (.goto 4, 3) := by decide +kernel
theorem d_Mod_readLine_90 : decode b_Mod_readLine 90 = .ok (.iconst 0, 1) := by decide +kernel
theorem d_Mod_readLine_91 : decode b_Mod_readLine 91 = .ok (.iconst 4, 1) := by decide +kernel
theorem d_Mod_readLine_92 : decode b_Mod_readLine 92 = .ok (.invokevirtual 144, 3) := by decide +kernel
theorem d_Mod_readLine_95 : decode b_Mod_readLine 95 = .ok (.aload_n 0, 1) := by decide +kernel
theorem d_Mod_readLine_96 : decode b_Mod_readLine 96 = .ok (.dup, 1) := by decide +kernel
theorem d_Mod_readLine_97 : decode b_Mod_readLine 97 = .ok (.getfield 75, 3) := by decide +kernel
theorem d_Mod_readLine_100 : decode b_Mod_readLine 100 = .ok (.iconst 1, 1) := by decide +kernel
theorem d_Mod_readLine_101 : decode b_Mod_readLine 101 = .ok (.iload_n 1, 1) := by decide +kernel
theorem d_Mod_readLine_102 : decode b_Mod_readLine 102 = .ok (.ishl, 1) := by decide +kernel
theorem d_Mod_readLine_103 : decode b_Mod_readLine 103 = .ok (.ior, 1) := by decide +kernel
theorem d_Mod_readLine_104 : decode b_Mod_readLine 104 = .ok (.putfield 75, 3) := by decide +kernel
theorem d_Mod_readLine_107 : decode b_Mod_readLine 107 = .ok (.aload_n 0, 1) := by decide +kernel
theorem d_Mod_readLine_108 : decode b_Mod_readLine 108 = .ok (.invokevirtual 152, 3) := by decide +kernel
theorem d_Mod_readLine_111 : decode b_Mod_readLine 111 = .ok (.aload_n 0, 1) := by decide +kernel
theorem d_Mod_readLine_112 : decode b_Mod_readLine 112 = .ok (.getfield 102, 3) := by decide +kernel
theorem d_Mod_readLine_115 : decode b_Mod_readLine 115 = .ok (.ifCond .le 4, 3) := by decide +kernel
theorem d_Mod_readLine_118 : decode b_Mod_readLine 118 = .ok (.return_, 1) := by decide +kernel
theorem d_Mod_readLine_119 : decode b_Mod_readLine 119 = .ok (.aload_n 0, 1) := by decide +kernel
theorem d_Mod_readLine_120 : decode b_Mod_readLine 120 = .ok (.iload_n 1, 1) := by decide +kernel
theorem d_Mod_readLine_121 : decode b_Mod_readLine 121 = .ok (.invokevirtual 177, 3) := by decide +kernel
theorem d_Mod_readLine_124 : decode b_Mod_readLine 124 = .ok (.aload_n 0, 1) := by decide +kernel
theorem d_Mod_readLine_125 : decode b_Mod_readLine 125 = .ok (.getfield 102, 3) := by decide +kernel
theorem d_Mod_readLine_128 : decode b_Mod_readLine 128 = .ok (.ifCond .ne 21, 3) := by decide +kernel
theorem d_Mod_readLine_131 : decode b_Mod_readLine 131 = .ok (.aload_n 0, 1) := by decide +kernel
theorem d_Mod_readLine_132 : decode b_Mod_readLine 132 = .ok (.aload_n 0, 1) := by decide +kernel
theorem d_Mod_readLine_133 : decode b_Mod_readLine 133 = .ok (.getfield 130, 3) := by decide +kernel
theorem d_Mod_readLine_136 : decode b_Mod_readLine 136 = .ok (.iconst 3, 1) := by decide +kernel
theorem d_Mod_readLine_137 : decode b_Mod_readLine 137 = .ok (.if_icmp .ne 7, 3) := by decide +kernel
theorem d_Mod_readLine_140 : decode b_Mod_readLine 140 = .ok (.iconst 1, 1) := by decide +kernel
theorem d_Mod_readLine_141 : decode b_Mod_readLine 141 = .ok (.goto 4, 3) := by decide +kernel
theorem d_Mod_readLine_144 : decode b_Mod_readLine 144 = .ok (.iconst 0, 1) := by decide +kernel
theorem d_Mod_readLine_145 : decode b_Mod_readLine 145 = .ok (.iconst 2, 1) := by decide +kernel
theorem d_Mod_readLine_146 : decode b_Mod_readLine 146 = .ok (.invokevirtual 144, 3) := by decide +kernel
theorem d_Mod_readLine_149 : decode b_Mod_readLine 149 = .ok (.aload_n 0, 1) := by decide +kernel
theorem d_Mod_readLine_150 : decode b_Mod_readLine 150 = .ok (.invokevirtual 152, 3) := by decide +kernel
theorem d_Mod_readLine_153 : decode b_Mod_readLine 153 = .ok (.return_, 1) := by decide +kernel
def S_Mod_readLine : List (Nat × Option Nat) := [(116, some 16), (116, some 17), (116, some 18), (116, some 19), (116, some 20), (116, some 21), (119, none), (120, none), (116, some 13), (116, some 7), (116, some 8), (116, some 9), (116, some 10), (116, some 11)]
abbrev q_Mod_readLine (h : Hp) (p : Int32) (pZ : Int) (f : Int32) (fZ : Int) (x : Int32) (xZ : Int) (y : Int32) (yZ : Int) : Option Value → Hp → Prop := pVd (fun h' => Inv h' ∧ fr S_Mod_readLine h h' ∧ ∃ (q : Int32) (qZ : Int), q.toInt = qZ ∧ h'.1 116 16 = q ∧ ∃ (u : Int32) (uZ : Int), u.toInt = uZ ∧ h'.1 116 20 = u ∧ ∃ (s : Int32) (sZ : Int), s.toInt = sZ ∧ h'.1 116 18 = s ∧ ∃ (v : Int32) (vZ : Int), v.toInt = vZ ∧ h'.1 116 7 = v ∧ ∃ (w : Int32) (wZ : Int), w.toInt = wZ ∧ h'.1 116 8 = w ∧ (0 ≤ uZ ∧ pZ ≤ qZ ∧ (uZ ≠ 0 ∨ pZ + 1 ≤ qZ) ∧ (uZ ≠ 0 ∨ 2 ≤ vZ ∧ vZ ≤ 4 ∧ 2 ≤ wZ ∧ wZ ≤ 4)))
set_option maxRecDepth 100000 in
theorem c_Mod_readLine (h : Hp) (hI : Inv h) (p : Int32) (pZ : Int) (pE : p.toInt = pZ) (pK : h.1 116 16 = p) (f : Int32) (fZ : Int) (fE : f.toInt = fZ) (fK : h.1 116 20 = f) (x : Int32) (xZ : Int) (xE : x.toInt = xZ) (xK : h.1 116 7 = x) (y : Int32) (yZ : Int) (yE : y.toInt = yZ) (yK : h.1 116 8 = y) (hy0 : fZ = 0) (hy1 : (fZ ≠ 0 ∨ 2 ≤ xZ ∧ xZ ≤ 4 ∧ 2 ≤ yZ ∧ yZ ≤ 4)) : Ct y_Mod_readLine b_Mod_readLine 2 none 5 116 [.ref 116] h (q_Mod_readLine h p pZ f fZ x xZ y yZ) := by
  refine ct_ow R_Mod [some (.ref 116), none] rfl (by decide) rfl (Nat.le_of_ble_eq_true rfl) ?_
  have f0 : fr S_Mod_readLine h h := fr_rf
  have g1 : 0 ≤ pZ ∧ pZ ≤ 160 := inv_at hI pE pK.symm rfl
  have g2 : 0 ≤ xZ ∧ xZ ≤ 4 := inv_at hI xE xK.symm rfl
  have g3 : 0 ≤ yZ ∧ yZ ≤ 4 := inv_at hI yE yK.symm rfl
  have J4 : ∀ (v6 : Int32) (v6Z : Int), v6.toInt = v6Z → v6Z = -4 ∨ 0 ≤ v6Z ∧ v6Z ≤ 9 → V R_Mod b_Mod_readLine 2 none 5 116 (q_Mod_readLine h p pZ f fZ x xZ y yZ) h 18 [some (.ref 116), some (.int v6)] [] := by
    intro v6 v6Z v6E q7
    refine V_aload_n 0 d_Mod_readLine_18 rfl rfl ?_
    refine V_iload_n 1 d_Mod_readLine_19 rfl rfl ?_
    refine V_bipush (-4) d_Mod_readLine_20 (by decide) ?_
    refine V_icmp_eq 29 v6E tc_m4 d_Mod_readLine_22 (by decide) (fun c8 => ?_) (fun c8 => ?_)
    ·
      refine V_iconst 0 d_Mod_readLine_29 (by decide) ?_
      refine V_iconst 2 d_Mod_readLine_30 (by decide) ?_
      refine N_callVV [.int 0, .int 2] [] cv_Mod_144 sk_116 rfl d_Mod_readLine_31 rfl (Nat.le_of_ble_eq_true rfl) (by decide) (by decide) (c_Mod_needs h hI 0 0 tc_0 2 2 tc_2 f fZ fE fK) (fun h10 p11 => ?_)
      obtain ⟨hI12, fh10, o14, o14Z, o14E, o14K, p11⟩ := p11
      have f13 : fr S_Mod_readLine h h10 := fr_call f0 fh10 rfl
      refine V_aload_n 0 d_Mod_readLine_34 rfl rfl ?_
      refine V_iload_n 1 d_Mod_readLine_35 rfl rfl ?_
      refine V_bipush 9 d_Mod_readLine_36 (by decide) ?_
      refine V_icmp_ne 53 v6E tc_9 d_Mod_readLine_38 (by decide) (fun c15 => ?_) (fun c15 => ?_)
      ·
        refine V_iconst 1 d_Mod_readLine_53 (by decide) ?_
        refine V_goto 58 d_Mod_readLine_54 (by decide) ?_
        refine V_iconst 5 d_Mod_readLine_58 (by decide) ?_
        refine N_callVV [.int 1, .int 5] [] cv_Mod_144 sk_116 rfl d_Mod_readLine_59 rfl (Nat.le_of_ble_eq_true rfl) (by decide) (by decide) (c_Mod_needs h10 hI12 1 1 tc_1 5 5 tc_5 o14 o14Z o14E o14K) (fun h17 p18 => ?_)
        obtain ⟨hI19, fh17, o21, o21Z, o21E, o21K, p18⟩ := p18
        have f20 : fr S_Mod_readLine h h17 := fr_call f13 fh17 rfl
        obtain ⟨z28, z28Z, z28E, z28e⟩ : ∃ (y : Int32) (Y : Int), y.toInt = Y ∧ y = h17.1 119 86 := ⟨_, _, rfl, rfl⟩
        have g29 : 0 ≤ z28Z ∧ z28Z ≤ 8 := inv_at hI19 z28E z28e rfl
        have J22 : ∀ (h24 : Hp) (v31 : Int32) (v31Z : Int), Inv h24 → fr S_Mod_readLine h h24 → h24.1 116 16 = p → h24.1 116 7 = x → h24.1 116 8 = y → h24.1 119 86 = z28 → v31.toInt = v31Z → h24.1 116 20 = v31 → 0 ≤ v31Z → v31Z ≠ 0 ∨ 0 ≤ v6Z ∧ v6Z ≤ 9 ∧ (v6Z ≠ 9 ∨ z28Z ≤ 7) → V R_Mod b_Mod_readLine 2 none 5 116 (q_Mod_readLine h p pZ f fZ x xZ y yZ) h24 107 [some (.ref 116), some (.int v6)] [] := by
          intro h24 v31 v31Z Ih24 Fh24 K25 K26 K27 K30 v31E K32 q33 q34
          refine V_aload_n 0 d_Mod_readLine_107 rfl rfl ?_
          obtain ⟨z35, z35Z, z35E, z35e⟩ : ∃ (y : Int32) (Y : Int), y.toInt = Y ∧ y = h24.1 116 15 := ⟨_, _, rfl, rfl⟩
          have g36 : 0 ≤ z35Z ∧ z35Z ≤ 160 := inv_at Ih24 z35E z35e rfl
          refine N_callVV [] [] cv_Mod_152 sk_116 rfl d_Mod_readLine_108 rfl (Nat.le_of_ble_eq_true rfl) (by decide) (by decide) (c_Mod_next h24 Ih24 z35 z35Z z35E z35e.symm p pZ pE K25 v31 v31Z v31E K32 (by omega)) (fun h38 p39 => ?_)
          obtain ⟨hI40, fh38, o42, o42Z, o42E, o42K, o43, o43Z, o43E, o43K, o44, o44Z, o44E, o44K, p39⟩ := p39
          have f41 : fr S_Mod_readLine h h38 := fr_call Fh24 fh38 rfl
          have g45 : 0 ≤ o42Z ∧ o42Z ≤ 160 := inv_at hI40 o42E o42K.symm rfl
          refine V_aload_n 0 d_Mod_readLine_111 rfl rfl ?_
          refine N_getK fa_Mod_102 sk_116 rfl d_Mod_readLine_112 o43K ?_
          refine V_if_le 119 o43E d_Mod_readLine_115 (by decide) (fun c46 => ?_) (fun c46 => ?_)
          ·
            refine V_aload_n 0 d_Mod_readLine_119 rfl rfl ?_
            refine V_iload_n 1 d_Mod_readLine_120 rfl rfl ?_
            refine N_callVV [.int v6] [] cv_Mod_177 sk_116 rfl d_Mod_readLine_121 rfl (Nat.le_of_ble_eq_true rfl) (by decide) (by decide) (c_Mod_readLineOf h38 hI40 v6 v6Z v6E o42 o42Z o42E o42K o43 o43Z o43E o43K x xZ xE (kn_call fh38 K26 rfl) y yZ yE (kn_call fh38 K27 rfl) z28 z28Z z28E (kn_call fh38 K30 rfl) (by omega) (by omega) (by omega) (by omega) (by omega)) (fun h48 p49 => ?_)
            obtain ⟨hI50, fh48, o52, o52Z, o52E, o52K, o53, o53Z, o53E, o53K, o54, o54Z, o54E, o54K, o55, o55Z, o55E, o55K, o56, o56Z, o56E, o56K, p49⟩ := p49
            have f51 : fr S_Mod_readLine h h48 := fr_call f41 fh48 rfl
            have g57 : 0 ≤ o52Z ∧ o52Z ≤ 160 := inv_at hI50 o52E o52K.symm rfl
            have g58 : 0 ≤ o55Z ∧ o55Z ≤ 4 := inv_at hI50 o55E o55K.symm rfl
            have g59 : 0 ≤ o56Z ∧ o56Z ≤ 4 := inv_at hI50 o56E o56K.symm rfl
            refine V_aload_n 0 d_Mod_readLine_124 rfl rfl ?_
            refine N_getK fa_Mod_102 sk_116 rfl d_Mod_readLine_125 o53K ?_
            refine V_if_ne 149 o53E d_Mod_readLine_128 (by decide) (fun c60 => ?_) (fun c60 => ?_)
            ·
              refine V_aload_n 0 d_Mod_readLine_149 rfl rfl ?_
              refine N_callVV [] [] cv_Mod_152 sk_116 rfl d_Mod_readLine_150 rfl (Nat.le_of_ble_eq_true rfl) (by decide) (by decide) (c_Mod_next h48 hI50 z35 z35Z z35E (kn_call fh48 (kn_call fh38 z35e.symm rfl) rfl) o52 o52Z o52E o52K o53 o53Z o53E o53K (by omega)) (fun h62 p63 => ?_)
              obtain ⟨hI64, fh62, o66, o66Z, o66E, o66K, o67, o67Z, o67E, o67K, o68, o68Z, o68E, o68K, p63⟩ := p63
              have f65 : fr S_Mod_readLine h h62 := fr_call f51 fh62 rfl
              have g69 : 0 ≤ o66Z ∧ o66Z ≤ 160 := inv_at hI64 o66E o66K.symm rfl
              exact V_vret rfl d_Mod_readLine_153 ⟨rfl, ⟨hI64, f65, o66, o66Z, o66E, o66K, o67, o67Z, o67E, o67K, o68, o68Z, o68E, o68K, o55, o55Z, o55E, (kn_call fh62 o55K rfl), o56, o56Z, o56E, (kn_call fh62 o56K rfl), (by omega)⟩⟩
            ·
              refine V_aload_n 0 d_Mod_readLine_131 rfl rfl ?_
              refine V_aload_n 0 d_Mod_readLine_132 rfl rfl ?_
              refine N_getK fa_Mod_130 sk_116 rfl d_Mod_readLine_133 o54K ?_
              refine V_iconst 3 d_Mod_readLine_136 (by decide) ?_
              refine V_icmp_ne 144 o54E tc_3 d_Mod_readLine_137 (by decide) (fun c70 => ?_) (fun c70 => ?_)
              ·
                refine V_iconst 0 d_Mod_readLine_144 (by decide) ?_
                refine V_iconst 2 d_Mod_readLine_145 (by decide) ?_
                refine N_callVV [.int 0, .int 2] [] cv_Mod_144 sk_116 rfl d_Mod_readLine_146 rfl (Nat.le_of_ble_eq_true rfl) (by decide) (by decide) (c_Mod_needs h48 hI50 0 0 tc_0 2 2 tc_2 o53 o53Z o53E o53K) (fun h72 p73 => ?_)
                obtain ⟨hI74, fh72, o76, o76Z, o76E, o76K, p73⟩ := p73
                have f75 : fr S_Mod_readLine h h72 := fr_call f51 fh72 rfl
                refine V_aload_n 0 d_Mod_readLine_149 rfl rfl ?_
                refine N_callVV [] [] cv_Mod_152 sk_116 rfl d_Mod_readLine_150 rfl (Nat.le_of_ble_eq_true rfl) (by decide) (by decide) (c_Mod_next h72 hI74 z35 z35Z z35E (kn_call fh72 (kn_call fh48 (kn_call fh38 z35e.symm rfl) rfl) rfl) o52 o52Z o52E (kn_call fh72 o52K rfl) o76 o76Z o76E o76K (by omega)) (fun h78 p79 => ?_)
                obtain ⟨hI80, fh78, o82, o82Z, o82E, o82K, o83, o83Z, o83E, o83K, o84, o84Z, o84E, o84K, p79⟩ := p79
                have f81 : fr S_Mod_readLine h h78 := fr_call f75 fh78 rfl
                have g85 : 0 ≤ o82Z ∧ o82Z ≤ 160 := inv_at hI80 o82E o82K.symm rfl
                exact V_vret rfl d_Mod_readLine_153 ⟨rfl, ⟨hI80, f81, o82, o82Z, o82E, o82K, o83, o83Z, o83E, o83K, o84, o84Z, o84E, o84K, o55, o55Z, o55E, (kn_call fh78 (kn_call fh72 o55K rfl) rfl), o56, o56Z, o56E, (kn_call fh78 (kn_call fh72 o56K rfl) rfl), (by omega)⟩⟩
              ·
                refine V_iconst 1 d_Mod_readLine_140 (by decide) ?_
                refine V_goto 145 d_Mod_readLine_141 (by decide) ?_
                refine V_iconst 2 d_Mod_readLine_145 (by decide) ?_
                refine N_callVV [.int 1, .int 2] [] cv_Mod_144 sk_116 rfl d_Mod_readLine_146 rfl (Nat.le_of_ble_eq_true rfl) (by decide) (by decide) (c_Mod_needs h48 hI50 1 1 tc_1 2 2 tc_2 o53 o53Z o53E o53K) (fun h87 p88 => ?_)
                obtain ⟨hI89, fh87, o91, o91Z, o91E, o91K, p88⟩ := p88
                have f90 : fr S_Mod_readLine h h87 := fr_call f51 fh87 rfl
                refine V_aload_n 0 d_Mod_readLine_149 rfl rfl ?_
                refine N_callVV [] [] cv_Mod_152 sk_116 rfl d_Mod_readLine_150 rfl (Nat.le_of_ble_eq_true rfl) (by decide) (by decide) (c_Mod_next h87 hI89 z35 z35Z z35E (kn_call fh87 (kn_call fh48 (kn_call fh38 z35e.symm rfl) rfl) rfl) o52 o52Z o52E (kn_call fh87 o52K rfl) o91 o91Z o91E o91K (by omega)) (fun h93 p94 => ?_)
                obtain ⟨hI95, fh93, o97, o97Z, o97E, o97K, o98, o98Z, o98E, o98K, o99, o99Z, o99E, o99K, p94⟩ := p94
                have f96 : fr S_Mod_readLine h h93 := fr_call f90 fh93 rfl
                have g100 : 0 ≤ o97Z ∧ o97Z ≤ 160 := inv_at hI95 o97E o97K.symm rfl
                exact V_vret rfl d_Mod_readLine_153 ⟨rfl, ⟨hI95, f96, o97, o97Z, o97E, o97K, o98, o98Z, o98E, o98K, o99, o99Z, o99E, o99K, o55, o55Z, o55E, (kn_call fh93 (kn_call fh87 o55K rfl) rfl), o56, o56Z, o56E, (kn_call fh93 (kn_call fh87 o56K rfl) rfl), (by omega)⟩⟩
          ·
            exact V_vret rfl d_Mod_readLine_118 ⟨rfl, ⟨hI40, f41, o42, o42Z, o42E, o42K, o43, o43Z, o43E, o43K, o44, o44Z, o44E, o44K, x, xZ, xE, (kn_call fh38 K26 rfl), y, yZ, yE, (kn_call fh38 K27 rfl), (by omega)⟩⟩
        refine V_aload_n 0 d_Mod_readLine_62 rfl rfl ?_
        refine N_getK fa_Mod_102 sk_116 rfl d_Mod_readLine_63 o21K ?_
        refine V_if_ne 107 o21E d_Mod_readLine_66 (by decide) (fun c101 => ?_) (fun c101 => ?_)
        ·
          exact J22 h17 o21 o21Z hI19 f20 (kn_call fh17 (kn_call fh10 pK rfl) rfl) (kn_call fh17 (kn_call fh10 xK rfl) rfl) (kn_call fh17 (kn_call fh10 yK rfl) rfl) z28e.symm o21E o21K (by omega) (by omega)
        ·
          refine V_iload_n 1 d_Mod_readLine_69 rfl rfl ?_
          refine V_iconst 3 d_Mod_readLine_70 (by decide) ?_
          refine V_icmp_gt 107 v6E tc_3 d_Mod_readLine_71 (by decide) (fun c102 => ?_) (fun c102 => ?_)
          ·
            exact J22 h17 o21 o21Z hI19 f20 (kn_call fh17 (kn_call fh10 pK rfl) rfl) (kn_call fh17 (kn_call fh10 xK rfl) rfl) (kn_call fh17 (kn_call fh10 yK rfl) rfl) z28e.symm o21E o21K (by omega) (by omega)
          ·
            refine V_aload_n 0 d_Mod_readLine_74 rfl rfl ?_
            refine V_aload_n 0 d_Mod_readLine_75 rfl rfl ?_
            refine N_getI fa_Mod_75 sk_116 rfl d_Mod_readLine_76 (fun z103 z103Z z103E z103e => ?_)
            refine V_iload_n 1 d_Mod_readLine_79 rfl rfl ?_
            refine N_ishr d_Mod_readLine_80 (fun z104 z104Z z104E z104e => ?_)
            refine V_iconst 1 d_Mod_readLine_81 (by decide) ?_
            refine N_iand d_Mod_readLine_82 (fun z105 z105Z z105E z105e => ?_)
            refine V_if_ne 90 z105E d_Mod_readLine_83 (by decide) (fun c106 => ?_) (fun c106 => ?_)
            ·
              refine V_iconst 0 d_Mod_readLine_90 (by decide) ?_
              refine V_iconst 4 d_Mod_readLine_91 (by decide) ?_
              refine N_callVV [.int 0, .int 4] [] cv_Mod_144 sk_116 rfl d_Mod_readLine_92 rfl (Nat.le_of_ble_eq_true rfl) (by decide) (by decide) (c_Mod_needs h17 hI19 0 0 tc_0 4 4 tc_4 o21 o21Z o21E o21K) (fun h108 p109 => ?_)
              obtain ⟨hI110, fh108, o112, o112Z, o112E, o112K, p109⟩ := p109
              have f111 : fr S_Mod_readLine h h108 := fr_call f20 fh108 rfl
              refine V_aload_n 0 d_Mod_readLine_95 rfl rfl ?_
              refine V_dup d_Mod_readLine_96 rfl ?_
              refine N_getK fa_Mod_75 sk_116 rfl d_Mod_readLine_97 (kn_call fh108 z103e.symm rfl) ?_
              refine V_iconst 1 d_Mod_readLine_100 (by decide) ?_
              refine V_iload_n 1 d_Mod_readLine_101 rfl rfl ?_
              refine N_ishl d_Mod_readLine_102 (fun z113 z113Z z113E z113e => ?_)
              refine N_ior d_Mod_readLine_103 (fun z114 z114Z z114E z114e => ?_)
              refine N_putI fp_Mod_75 sk_116 rfl d_Mod_readLine_104 (fun h115 eh115 => ?_)
              have hI116 : Inv h115 := inv_full hI110 eh115 rfl
              have f117 : fr S_Mod_readLine h h115 := fr_put f111 eh115 rfl
              exact J22 h115 o112 o112Z hI116 f117 (kn_nei eh115 (kn_call fh108 (kn_call fh17 (kn_call fh10 pK rfl) rfl) rfl) (by decide)) (kn_nei eh115 (kn_call fh108 (kn_call fh17 (kn_call fh10 xK rfl) rfl) rfl) (by decide)) (kn_nei eh115 (kn_call fh108 (kn_call fh17 (kn_call fh10 yK rfl) rfl) rfl) (by decide)) (kn_ne eh115 (kn_call fh108 z28e.symm rfl) (by decide)) o112E (kn_nei eh115 o112K (by decide)) (by omega) (by omega)
            ·
              refine V_iconst 1 d_Mod_readLine_86 (by decide) ?_
              refine V_goto 91 d_Mod_readLine_87 (by decide) ?_
              refine V_iconst 4 d_Mod_readLine_91 (by decide) ?_
              refine N_callVV [.int 1, .int 4] [] cv_Mod_144 sk_116 rfl d_Mod_readLine_92 rfl (Nat.le_of_ble_eq_true rfl) (by decide) (by decide) (c_Mod_needs h17 hI19 1 1 tc_1 4 4 tc_4 o21 o21Z o21E o21K) (fun h119 p120 => ?_)
              obtain ⟨hI121, fh119, o123, o123Z, o123E, o123K, p120⟩ := p120
              have f122 : fr S_Mod_readLine h h119 := fr_call f20 fh119 rfl
              refine V_aload_n 0 d_Mod_readLine_95 rfl rfl ?_
              refine V_dup d_Mod_readLine_96 rfl ?_
              refine N_getK fa_Mod_75 sk_116 rfl d_Mod_readLine_97 (kn_call fh119 z103e.symm rfl) ?_
              refine V_iconst 1 d_Mod_readLine_100 (by decide) ?_
              refine V_iload_n 1 d_Mod_readLine_101 rfl rfl ?_
              refine N_ishl d_Mod_readLine_102 (fun z124 z124Z z124E z124e => ?_)
              refine N_ior d_Mod_readLine_103 (fun z125 z125Z z125E z125e => ?_)
              refine N_putI fp_Mod_75 sk_116 rfl d_Mod_readLine_104 (fun h126 eh126 => ?_)
              have hI127 : Inv h126 := inv_full hI121 eh126 rfl
              have f128 : fr S_Mod_readLine h h126 := fr_put f122 eh126 rfl
              exact J22 h126 o123 o123Z hI127 f128 (kn_nei eh126 (kn_call fh119 (kn_call fh17 (kn_call fh10 pK rfl) rfl) rfl) (by decide)) (kn_nei eh126 (kn_call fh119 (kn_call fh17 (kn_call fh10 xK rfl) rfl) rfl) (by decide)) (kn_nei eh126 (kn_call fh119 (kn_call fh17 (kn_call fh10 yK rfl) rfl) rfl) (by decide)) (kn_ne eh126 (kn_call fh119 z28e.symm rfl) (by decide)) o123E (kn_nei eh126 o123K (by decide)) (by omega) (by omega)
      ·
        refine V_aload_n 0 d_Mod_readLine_41 rfl rfl ?_
        refine V_getR fa_Mod_17 sk_116 rfl d_Mod_readLine_42 ?_
        refine V_bipush 86 d_Mod_readLine_45 (by decide) ?_
        refine N_iald sk_119 tc_86 (by omega) d_Mod_readLine_47 (fun z129 z129Z z129E z129e => ?_)
        have g130 : 0 ≤ z129Z ∧ z129Z ≤ 8 := inv_at hI12 z129E z129e rfl
        refine V_bipush 8 d_Mod_readLine_48 (by decide) ?_
        refine V_icmp_ge 57 z129E tc_8 d_Mod_readLine_50 (by decide) (fun c131 => ?_) (fun c131 => ?_)
        ·
          refine V_iconst 0 d_Mod_readLine_57 (by decide) ?_
          refine V_iconst 5 d_Mod_readLine_58 (by decide) ?_
          refine N_callVV [.int 0, .int 5] [] cv_Mod_144 sk_116 rfl d_Mod_readLine_59 rfl (Nat.le_of_ble_eq_true rfl) (by decide) (by decide) (c_Mod_needs h10 hI12 0 0 tc_0 5 5 tc_5 o14 o14Z o14E o14K) (fun h133 p134 => ?_)
          obtain ⟨hI135, fh133, o137, o137Z, o137E, o137K, p134⟩ := p134
          have f136 : fr S_Mod_readLine h h133 := fr_call f13 fh133 rfl
          have J138 : ∀ (h140 : Hp) (v145 : Int32) (v145Z : Int), Inv h140 → fr S_Mod_readLine h h140 → h140.1 116 16 = p → h140.1 116 7 = x → h140.1 116 8 = y → h140.1 119 86 = z129 → v145.toInt = v145Z → h140.1 116 20 = v145 → 0 ≤ v145Z → v145Z ≠ 0 ∨ 0 ≤ v6Z ∧ v6Z ≤ 9 ∧ (v6Z ≠ 9 ∨ z129Z ≤ 7) → V R_Mod b_Mod_readLine 2 none 5 116 (q_Mod_readLine h p pZ f fZ x xZ y yZ) h140 107 [some (.ref 116), some (.int v6)] [] := by
            intro h140 v145 v145Z Ih140 Fh140 K141 K142 K143 K144 v145E K146 q147 q148
            refine V_aload_n 0 d_Mod_readLine_107 rfl rfl ?_
            obtain ⟨z149, z149Z, z149E, z149e⟩ : ∃ (y : Int32) (Y : Int), y.toInt = Y ∧ y = h140.1 116 15 := ⟨_, _, rfl, rfl⟩
            have g150 : 0 ≤ z149Z ∧ z149Z ≤ 160 := inv_at Ih140 z149E z149e rfl
            refine N_callVV [] [] cv_Mod_152 sk_116 rfl d_Mod_readLine_108 rfl (Nat.le_of_ble_eq_true rfl) (by decide) (by decide) (c_Mod_next h140 Ih140 z149 z149Z z149E z149e.symm p pZ pE K141 v145 v145Z v145E K146 (by omega)) (fun h152 p153 => ?_)
            obtain ⟨hI154, fh152, o156, o156Z, o156E, o156K, o157, o157Z, o157E, o157K, o158, o158Z, o158E, o158K, p153⟩ := p153
            have f155 : fr S_Mod_readLine h h152 := fr_call Fh140 fh152 rfl
            have g159 : 0 ≤ o156Z ∧ o156Z ≤ 160 := inv_at hI154 o156E o156K.symm rfl
            refine V_aload_n 0 d_Mod_readLine_111 rfl rfl ?_
            refine N_getK fa_Mod_102 sk_116 rfl d_Mod_readLine_112 o157K ?_
            refine V_if_le 119 o157E d_Mod_readLine_115 (by decide) (fun c160 => ?_) (fun c160 => ?_)
            ·
              refine V_aload_n 0 d_Mod_readLine_119 rfl rfl ?_
              refine V_iload_n 1 d_Mod_readLine_120 rfl rfl ?_
              refine N_callVV [.int v6] [] cv_Mod_177 sk_116 rfl d_Mod_readLine_121 rfl (Nat.le_of_ble_eq_true rfl) (by decide) (by decide) (c_Mod_readLineOf h152 hI154 v6 v6Z v6E o156 o156Z o156E o156K o157 o157Z o157E o157K x xZ xE (kn_call fh152 K142 rfl) y yZ yE (kn_call fh152 K143 rfl) z129 z129Z z129E (kn_call fh152 K144 rfl) (by omega) (by omega) (by omega) (by omega) (by omega)) (fun h162 p163 => ?_)
              obtain ⟨hI164, fh162, o166, o166Z, o166E, o166K, o167, o167Z, o167E, o167K, o168, o168Z, o168E, o168K, o169, o169Z, o169E, o169K, o170, o170Z, o170E, o170K, p163⟩ := p163
              have f165 : fr S_Mod_readLine h h162 := fr_call f155 fh162 rfl
              have g171 : 0 ≤ o166Z ∧ o166Z ≤ 160 := inv_at hI164 o166E o166K.symm rfl
              have g172 : 0 ≤ o169Z ∧ o169Z ≤ 4 := inv_at hI164 o169E o169K.symm rfl
              have g173 : 0 ≤ o170Z ∧ o170Z ≤ 4 := inv_at hI164 o170E o170K.symm rfl
              refine V_aload_n 0 d_Mod_readLine_124 rfl rfl ?_
              refine N_getK fa_Mod_102 sk_116 rfl d_Mod_readLine_125 o167K ?_
              refine V_if_ne 149 o167E d_Mod_readLine_128 (by decide) (fun c174 => ?_) (fun c174 => ?_)
              ·
                refine V_aload_n 0 d_Mod_readLine_149 rfl rfl ?_
                refine N_callVV [] [] cv_Mod_152 sk_116 rfl d_Mod_readLine_150 rfl (Nat.le_of_ble_eq_true rfl) (by decide) (by decide) (c_Mod_next h162 hI164 z149 z149Z z149E (kn_call fh162 (kn_call fh152 z149e.symm rfl) rfl) o166 o166Z o166E o166K o167 o167Z o167E o167K (by omega)) (fun h176 p177 => ?_)
                obtain ⟨hI178, fh176, o180, o180Z, o180E, o180K, o181, o181Z, o181E, o181K, o182, o182Z, o182E, o182K, p177⟩ := p177
                have f179 : fr S_Mod_readLine h h176 := fr_call f165 fh176 rfl
                have g183 : 0 ≤ o180Z ∧ o180Z ≤ 160 := inv_at hI178 o180E o180K.symm rfl
                exact V_vret rfl d_Mod_readLine_153 ⟨rfl, ⟨hI178, f179, o180, o180Z, o180E, o180K, o181, o181Z, o181E, o181K, o182, o182Z, o182E, o182K, o169, o169Z, o169E, (kn_call fh176 o169K rfl), o170, o170Z, o170E, (kn_call fh176 o170K rfl), (by omega)⟩⟩
              ·
                refine V_aload_n 0 d_Mod_readLine_131 rfl rfl ?_
                refine V_aload_n 0 d_Mod_readLine_132 rfl rfl ?_
                refine N_getK fa_Mod_130 sk_116 rfl d_Mod_readLine_133 o168K ?_
                refine V_iconst 3 d_Mod_readLine_136 (by decide) ?_
                refine V_icmp_ne 144 o168E tc_3 d_Mod_readLine_137 (by decide) (fun c184 => ?_) (fun c184 => ?_)
                ·
                  refine V_iconst 0 d_Mod_readLine_144 (by decide) ?_
                  refine V_iconst 2 d_Mod_readLine_145 (by decide) ?_
                  refine N_callVV [.int 0, .int 2] [] cv_Mod_144 sk_116 rfl d_Mod_readLine_146 rfl (Nat.le_of_ble_eq_true rfl) (by decide) (by decide) (c_Mod_needs h162 hI164 0 0 tc_0 2 2 tc_2 o167 o167Z o167E o167K) (fun h186 p187 => ?_)
                  obtain ⟨hI188, fh186, o190, o190Z, o190E, o190K, p187⟩ := p187
                  have f189 : fr S_Mod_readLine h h186 := fr_call f165 fh186 rfl
                  refine V_aload_n 0 d_Mod_readLine_149 rfl rfl ?_
                  refine N_callVV [] [] cv_Mod_152 sk_116 rfl d_Mod_readLine_150 rfl (Nat.le_of_ble_eq_true rfl) (by decide) (by decide) (c_Mod_next h186 hI188 z149 z149Z z149E (kn_call fh186 (kn_call fh162 (kn_call fh152 z149e.symm rfl) rfl) rfl) o166 o166Z o166E (kn_call fh186 o166K rfl) o190 o190Z o190E o190K (by omega)) (fun h192 p193 => ?_)
                  obtain ⟨hI194, fh192, o196, o196Z, o196E, o196K, o197, o197Z, o197E, o197K, o198, o198Z, o198E, o198K, p193⟩ := p193
                  have f195 : fr S_Mod_readLine h h192 := fr_call f189 fh192 rfl
                  have g199 : 0 ≤ o196Z ∧ o196Z ≤ 160 := inv_at hI194 o196E o196K.symm rfl
                  exact V_vret rfl d_Mod_readLine_153 ⟨rfl, ⟨hI194, f195, o196, o196Z, o196E, o196K, o197, o197Z, o197E, o197K, o198, o198Z, o198E, o198K, o169, o169Z, o169E, (kn_call fh192 (kn_call fh186 o169K rfl) rfl), o170, o170Z, o170E, (kn_call fh192 (kn_call fh186 o170K rfl) rfl), (by omega)⟩⟩
                ·
                  refine V_iconst 1 d_Mod_readLine_140 (by decide) ?_
                  refine V_goto 145 d_Mod_readLine_141 (by decide) ?_
                  refine V_iconst 2 d_Mod_readLine_145 (by decide) ?_
                  refine N_callVV [.int 1, .int 2] [] cv_Mod_144 sk_116 rfl d_Mod_readLine_146 rfl (Nat.le_of_ble_eq_true rfl) (by decide) (by decide) (c_Mod_needs h162 hI164 1 1 tc_1 2 2 tc_2 o167 o167Z o167E o167K) (fun h201 p202 => ?_)
                  obtain ⟨hI203, fh201, o205, o205Z, o205E, o205K, p202⟩ := p202
                  have f204 : fr S_Mod_readLine h h201 := fr_call f165 fh201 rfl
                  refine V_aload_n 0 d_Mod_readLine_149 rfl rfl ?_
                  refine N_callVV [] [] cv_Mod_152 sk_116 rfl d_Mod_readLine_150 rfl (Nat.le_of_ble_eq_true rfl) (by decide) (by decide) (c_Mod_next h201 hI203 z149 z149Z z149E (kn_call fh201 (kn_call fh162 (kn_call fh152 z149e.symm rfl) rfl) rfl) o166 o166Z o166E (kn_call fh201 o166K rfl) o205 o205Z o205E o205K (by omega)) (fun h207 p208 => ?_)
                  obtain ⟨hI209, fh207, o211, o211Z, o211E, o211K, o212, o212Z, o212E, o212K, o213, o213Z, o213E, o213K, p208⟩ := p208
                  have f210 : fr S_Mod_readLine h h207 := fr_call f204 fh207 rfl
                  have g214 : 0 ≤ o211Z ∧ o211Z ≤ 160 := inv_at hI209 o211E o211K.symm rfl
                  exact V_vret rfl d_Mod_readLine_153 ⟨rfl, ⟨hI209, f210, o211, o211Z, o211E, o211K, o212, o212Z, o212E, o212K, o213, o213Z, o213E, o213K, o169, o169Z, o169E, (kn_call fh207 (kn_call fh201 o169K rfl) rfl), o170, o170Z, o170E, (kn_call fh207 (kn_call fh201 o170K rfl) rfl), (by omega)⟩⟩
            ·
              exact V_vret rfl d_Mod_readLine_118 ⟨rfl, ⟨hI154, f155, o156, o156Z, o156E, o156K, o157, o157Z, o157E, o157K, o158, o158Z, o158E, o158K, x, xZ, xE, (kn_call fh152 K142 rfl), y, yZ, yE, (kn_call fh152 K143 rfl), (by omega)⟩⟩
          refine V_aload_n 0 d_Mod_readLine_62 rfl rfl ?_
          refine N_getK fa_Mod_102 sk_116 rfl d_Mod_readLine_63 o137K ?_
          refine V_if_ne 107 o137E d_Mod_readLine_66 (by decide) (fun c215 => ?_) (fun c215 => ?_)
          ·
            exact J138 h133 o137 o137Z hI135 f136 (kn_call fh133 (kn_call fh10 pK rfl) rfl) (kn_call fh133 (kn_call fh10 xK rfl) rfl) (kn_call fh133 (kn_call fh10 yK rfl) rfl) (kn_call fh133 z129e.symm rfl) o137E o137K (by omega) (by omega)
          ·
            refine V_iload_n 1 d_Mod_readLine_69 rfl rfl ?_
            refine V_iconst 3 d_Mod_readLine_70 (by decide) ?_
            refine V_icmp_gt 107 v6E tc_3 d_Mod_readLine_71 (by decide) (fun c216 => ?_) (fun c216 => ?_)
            ·
              exact J138 h133 o137 o137Z hI135 f136 (kn_call fh133 (kn_call fh10 pK rfl) rfl) (kn_call fh133 (kn_call fh10 xK rfl) rfl) (kn_call fh133 (kn_call fh10 yK rfl) rfl) (kn_call fh133 z129e.symm rfl) o137E o137K (by omega) (by omega)
            ·
              refine V_aload_n 0 d_Mod_readLine_74 rfl rfl ?_
              refine V_aload_n 0 d_Mod_readLine_75 rfl rfl ?_
              refine N_getI fa_Mod_75 sk_116 rfl d_Mod_readLine_76 (fun z217 z217Z z217E z217e => ?_)
              refine V_iload_n 1 d_Mod_readLine_79 rfl rfl ?_
              refine N_ishr d_Mod_readLine_80 (fun z218 z218Z z218E z218e => ?_)
              refine V_iconst 1 d_Mod_readLine_81 (by decide) ?_
              refine N_iand d_Mod_readLine_82 (fun z219 z219Z z219E z219e => ?_)
              refine V_if_ne 90 z219E d_Mod_readLine_83 (by decide) (fun c220 => ?_) (fun c220 => ?_)
              ·
                refine V_iconst 0 d_Mod_readLine_90 (by decide) ?_
                refine V_iconst 4 d_Mod_readLine_91 (by decide) ?_
                refine N_callVV [.int 0, .int 4] [] cv_Mod_144 sk_116 rfl d_Mod_readLine_92 rfl (Nat.le_of_ble_eq_true rfl) (by decide) (by decide) (c_Mod_needs h133 hI135 0 0 tc_0 4 4 tc_4 o137 o137Z o137E o137K) (fun h222 p223 => ?_)
                obtain ⟨hI224, fh222, o226, o226Z, o226E, o226K, p223⟩ := p223
                have f225 : fr S_Mod_readLine h h222 := fr_call f136 fh222 rfl
                refine V_aload_n 0 d_Mod_readLine_95 rfl rfl ?_
                refine V_dup d_Mod_readLine_96 rfl ?_
                refine N_getK fa_Mod_75 sk_116 rfl d_Mod_readLine_97 (kn_call fh222 z217e.symm rfl) ?_
                refine V_iconst 1 d_Mod_readLine_100 (by decide) ?_
                refine V_iload_n 1 d_Mod_readLine_101 rfl rfl ?_
                refine N_ishl d_Mod_readLine_102 (fun z227 z227Z z227E z227e => ?_)
                refine N_ior d_Mod_readLine_103 (fun z228 z228Z z228E z228e => ?_)
                refine N_putI fp_Mod_75 sk_116 rfl d_Mod_readLine_104 (fun h229 eh229 => ?_)
                have hI230 : Inv h229 := inv_full hI224 eh229 rfl
                have f231 : fr S_Mod_readLine h h229 := fr_put f225 eh229 rfl
                exact J138 h229 o226 o226Z hI230 f231 (kn_nei eh229 (kn_call fh222 (kn_call fh133 (kn_call fh10 pK rfl) rfl) rfl) (by decide)) (kn_nei eh229 (kn_call fh222 (kn_call fh133 (kn_call fh10 xK rfl) rfl) rfl) (by decide)) (kn_nei eh229 (kn_call fh222 (kn_call fh133 (kn_call fh10 yK rfl) rfl) rfl) (by decide)) (kn_ne eh229 (kn_call fh222 (kn_call fh133 z129e.symm rfl) rfl) (by decide)) o226E (kn_nei eh229 o226K (by decide)) (by omega) (by omega)
              ·
                refine V_iconst 1 d_Mod_readLine_86 (by decide) ?_
                refine V_goto 91 d_Mod_readLine_87 (by decide) ?_
                refine V_iconst 4 d_Mod_readLine_91 (by decide) ?_
                refine N_callVV [.int 1, .int 4] [] cv_Mod_144 sk_116 rfl d_Mod_readLine_92 rfl (Nat.le_of_ble_eq_true rfl) (by decide) (by decide) (c_Mod_needs h133 hI135 1 1 tc_1 4 4 tc_4 o137 o137Z o137E o137K) (fun h233 p234 => ?_)
                obtain ⟨hI235, fh233, o237, o237Z, o237E, o237K, p234⟩ := p234
                have f236 : fr S_Mod_readLine h h233 := fr_call f136 fh233 rfl
                refine V_aload_n 0 d_Mod_readLine_95 rfl rfl ?_
                refine V_dup d_Mod_readLine_96 rfl ?_
                refine N_getK fa_Mod_75 sk_116 rfl d_Mod_readLine_97 (kn_call fh233 z217e.symm rfl) ?_
                refine V_iconst 1 d_Mod_readLine_100 (by decide) ?_
                refine V_iload_n 1 d_Mod_readLine_101 rfl rfl ?_
                refine N_ishl d_Mod_readLine_102 (fun z238 z238Z z238E z238e => ?_)
                refine N_ior d_Mod_readLine_103 (fun z239 z239Z z239E z239e => ?_)
                refine N_putI fp_Mod_75 sk_116 rfl d_Mod_readLine_104 (fun h240 eh240 => ?_)
                have hI241 : Inv h240 := inv_full hI235 eh240 rfl
                have f242 : fr S_Mod_readLine h h240 := fr_put f236 eh240 rfl
                exact J138 h240 o237 o237Z hI241 f242 (kn_nei eh240 (kn_call fh233 (kn_call fh133 (kn_call fh10 pK rfl) rfl) rfl) (by decide)) (kn_nei eh240 (kn_call fh233 (kn_call fh133 (kn_call fh10 xK rfl) rfl) rfl) (by decide)) (kn_nei eh240 (kn_call fh233 (kn_call fh133 (kn_call fh10 yK rfl) rfl) rfl) (by decide)) (kn_ne eh240 (kn_call fh233 (kn_call fh133 z129e.symm rfl) rfl) (by decide)) o237E (kn_nei eh240 o237K (by decide)) (by omega) (by omega)
        ·
          refine V_iconst 1 d_Mod_readLine_53 (by decide) ?_
          refine V_goto 58 d_Mod_readLine_54 (by decide) ?_
          refine V_iconst 5 d_Mod_readLine_58 (by decide) ?_
          refine N_callVV [.int 1, .int 5] [] cv_Mod_144 sk_116 rfl d_Mod_readLine_59 rfl (Nat.le_of_ble_eq_true rfl) (by decide) (by decide) (c_Mod_needs h10 hI12 1 1 tc_1 5 5 tc_5 o14 o14Z o14E o14K) (fun h244 p245 => ?_)
          obtain ⟨hI246, fh244, o248, o248Z, o248E, o248K, p245⟩ := p245
          have f247 : fr S_Mod_readLine h h244 := fr_call f13 fh244 rfl
          have J249 : ∀ (h251 : Hp) (v256 : Int32) (v256Z : Int), Inv h251 → fr S_Mod_readLine h h251 → h251.1 116 16 = p → h251.1 116 7 = x → h251.1 116 8 = y → h251.1 119 86 = z129 → v256.toInt = v256Z → h251.1 116 20 = v256 → 0 ≤ v256Z → v256Z ≠ 0 ∨ 0 ≤ v6Z ∧ v6Z ≤ 9 ∧ (v6Z ≠ 9 ∨ z129Z ≤ 7) → V R_Mod b_Mod_readLine 2 none 5 116 (q_Mod_readLine h p pZ f fZ x xZ y yZ) h251 107 [some (.ref 116), some (.int v6)] [] := by
            intro h251 v256 v256Z Ih251 Fh251 K252 K253 K254 K255 v256E K257 q258 q259
            refine V_aload_n 0 d_Mod_readLine_107 rfl rfl ?_
            obtain ⟨z260, z260Z, z260E, z260e⟩ : ∃ (y : Int32) (Y : Int), y.toInt = Y ∧ y = h251.1 116 15 := ⟨_, _, rfl, rfl⟩
            have g261 : 0 ≤ z260Z ∧ z260Z ≤ 160 := inv_at Ih251 z260E z260e rfl
            refine N_callVV [] [] cv_Mod_152 sk_116 rfl d_Mod_readLine_108 rfl (Nat.le_of_ble_eq_true rfl) (by decide) (by decide) (c_Mod_next h251 Ih251 z260 z260Z z260E z260e.symm p pZ pE K252 v256 v256Z v256E K257 (by omega)) (fun h263 p264 => ?_)
            obtain ⟨hI265, fh263, o267, o267Z, o267E, o267K, o268, o268Z, o268E, o268K, o269, o269Z, o269E, o269K, p264⟩ := p264
            have f266 : fr S_Mod_readLine h h263 := fr_call Fh251 fh263 rfl
            have g270 : 0 ≤ o267Z ∧ o267Z ≤ 160 := inv_at hI265 o267E o267K.symm rfl
            refine V_aload_n 0 d_Mod_readLine_111 rfl rfl ?_
            refine N_getK fa_Mod_102 sk_116 rfl d_Mod_readLine_112 o268K ?_
            refine V_if_le 119 o268E d_Mod_readLine_115 (by decide) (fun c271 => ?_) (fun c271 => ?_)
            ·
              refine V_aload_n 0 d_Mod_readLine_119 rfl rfl ?_
              refine V_iload_n 1 d_Mod_readLine_120 rfl rfl ?_
              refine N_callVV [.int v6] [] cv_Mod_177 sk_116 rfl d_Mod_readLine_121 rfl (Nat.le_of_ble_eq_true rfl) (by decide) (by decide) (c_Mod_readLineOf h263 hI265 v6 v6Z v6E o267 o267Z o267E o267K o268 o268Z o268E o268K x xZ xE (kn_call fh263 K253 rfl) y yZ yE (kn_call fh263 K254 rfl) z129 z129Z z129E (kn_call fh263 K255 rfl) (by omega) (by omega) (by omega) (by omega) (by omega)) (fun h273 p274 => ?_)
              obtain ⟨hI275, fh273, o277, o277Z, o277E, o277K, o278, o278Z, o278E, o278K, o279, o279Z, o279E, o279K, o280, o280Z, o280E, o280K, o281, o281Z, o281E, o281K, p274⟩ := p274
              have f276 : fr S_Mod_readLine h h273 := fr_call f266 fh273 rfl
              have g282 : 0 ≤ o277Z ∧ o277Z ≤ 160 := inv_at hI275 o277E o277K.symm rfl
              have g283 : 0 ≤ o280Z ∧ o280Z ≤ 4 := inv_at hI275 o280E o280K.symm rfl
              have g284 : 0 ≤ o281Z ∧ o281Z ≤ 4 := inv_at hI275 o281E o281K.symm rfl
              refine V_aload_n 0 d_Mod_readLine_124 rfl rfl ?_
              refine N_getK fa_Mod_102 sk_116 rfl d_Mod_readLine_125 o278K ?_
              refine V_if_ne 149 o278E d_Mod_readLine_128 (by decide) (fun c285 => ?_) (fun c285 => ?_)
              ·
                refine V_aload_n 0 d_Mod_readLine_149 rfl rfl ?_
                refine N_callVV [] [] cv_Mod_152 sk_116 rfl d_Mod_readLine_150 rfl (Nat.le_of_ble_eq_true rfl) (by decide) (by decide) (c_Mod_next h273 hI275 z260 z260Z z260E (kn_call fh273 (kn_call fh263 z260e.symm rfl) rfl) o277 o277Z o277E o277K o278 o278Z o278E o278K (by omega)) (fun h287 p288 => ?_)
                obtain ⟨hI289, fh287, o291, o291Z, o291E, o291K, o292, o292Z, o292E, o292K, o293, o293Z, o293E, o293K, p288⟩ := p288
                have f290 : fr S_Mod_readLine h h287 := fr_call f276 fh287 rfl
                have g294 : 0 ≤ o291Z ∧ o291Z ≤ 160 := inv_at hI289 o291E o291K.symm rfl
                exact V_vret rfl d_Mod_readLine_153 ⟨rfl, ⟨hI289, f290, o291, o291Z, o291E, o291K, o292, o292Z, o292E, o292K, o293, o293Z, o293E, o293K, o280, o280Z, o280E, (kn_call fh287 o280K rfl), o281, o281Z, o281E, (kn_call fh287 o281K rfl), (by omega)⟩⟩
              ·
                refine V_aload_n 0 d_Mod_readLine_131 rfl rfl ?_
                refine V_aload_n 0 d_Mod_readLine_132 rfl rfl ?_
                refine N_getK fa_Mod_130 sk_116 rfl d_Mod_readLine_133 o279K ?_
                refine V_iconst 3 d_Mod_readLine_136 (by decide) ?_
                refine V_icmp_ne 144 o279E tc_3 d_Mod_readLine_137 (by decide) (fun c295 => ?_) (fun c295 => ?_)
                ·
                  refine V_iconst 0 d_Mod_readLine_144 (by decide) ?_
                  refine V_iconst 2 d_Mod_readLine_145 (by decide) ?_
                  refine N_callVV [.int 0, .int 2] [] cv_Mod_144 sk_116 rfl d_Mod_readLine_146 rfl (Nat.le_of_ble_eq_true rfl) (by decide) (by decide) (c_Mod_needs h273 hI275 0 0 tc_0 2 2 tc_2 o278 o278Z o278E o278K) (fun h297 p298 => ?_)
                  obtain ⟨hI299, fh297, o301, o301Z, o301E, o301K, p298⟩ := p298
                  have f300 : fr S_Mod_readLine h h297 := fr_call f276 fh297 rfl
                  refine V_aload_n 0 d_Mod_readLine_149 rfl rfl ?_
                  refine N_callVV [] [] cv_Mod_152 sk_116 rfl d_Mod_readLine_150 rfl (Nat.le_of_ble_eq_true rfl) (by decide) (by decide) (c_Mod_next h297 hI299 z260 z260Z z260E (kn_call fh297 (kn_call fh273 (kn_call fh263 z260e.symm rfl) rfl) rfl) o277 o277Z o277E (kn_call fh297 o277K rfl) o301 o301Z o301E o301K (by omega)) (fun h303 p304 => ?_)
                  obtain ⟨hI305, fh303, o307, o307Z, o307E, o307K, o308, o308Z, o308E, o308K, o309, o309Z, o309E, o309K, p304⟩ := p304
                  have f306 : fr S_Mod_readLine h h303 := fr_call f300 fh303 rfl
                  have g310 : 0 ≤ o307Z ∧ o307Z ≤ 160 := inv_at hI305 o307E o307K.symm rfl
                  exact V_vret rfl d_Mod_readLine_153 ⟨rfl, ⟨hI305, f306, o307, o307Z, o307E, o307K, o308, o308Z, o308E, o308K, o309, o309Z, o309E, o309K, o280, o280Z, o280E, (kn_call fh303 (kn_call fh297 o280K rfl) rfl), o281, o281Z, o281E, (kn_call fh303 (kn_call fh297 o281K rfl) rfl), (by omega)⟩⟩
                ·
                  refine V_iconst 1 d_Mod_readLine_140 (by decide) ?_
                  refine V_goto 145 d_Mod_readLine_141 (by decide) ?_
                  refine V_iconst 2 d_Mod_readLine_145 (by decide) ?_
                  refine N_callVV [.int 1, .int 2] [] cv_Mod_144 sk_116 rfl d_Mod_readLine_146 rfl (Nat.le_of_ble_eq_true rfl) (by decide) (by decide) (c_Mod_needs h273 hI275 1 1 tc_1 2 2 tc_2 o278 o278Z o278E o278K) (fun h312 p313 => ?_)
                  obtain ⟨hI314, fh312, o316, o316Z, o316E, o316K, p313⟩ := p313
                  have f315 : fr S_Mod_readLine h h312 := fr_call f276 fh312 rfl
                  refine V_aload_n 0 d_Mod_readLine_149 rfl rfl ?_
                  refine N_callVV [] [] cv_Mod_152 sk_116 rfl d_Mod_readLine_150 rfl (Nat.le_of_ble_eq_true rfl) (by decide) (by decide) (c_Mod_next h312 hI314 z260 z260Z z260E (kn_call fh312 (kn_call fh273 (kn_call fh263 z260e.symm rfl) rfl) rfl) o277 o277Z o277E (kn_call fh312 o277K rfl) o316 o316Z o316E o316K (by omega)) (fun h318 p319 => ?_)
                  obtain ⟨hI320, fh318, o322, o322Z, o322E, o322K, o323, o323Z, o323E, o323K, o324, o324Z, o324E, o324K, p319⟩ := p319
                  have f321 : fr S_Mod_readLine h h318 := fr_call f315 fh318 rfl
                  have g325 : 0 ≤ o322Z ∧ o322Z ≤ 160 := inv_at hI320 o322E o322K.symm rfl
                  exact V_vret rfl d_Mod_readLine_153 ⟨rfl, ⟨hI320, f321, o322, o322Z, o322E, o322K, o323, o323Z, o323E, o323K, o324, o324Z, o324E, o324K, o280, o280Z, o280E, (kn_call fh318 (kn_call fh312 o280K rfl) rfl), o281, o281Z, o281E, (kn_call fh318 (kn_call fh312 o281K rfl) rfl), (by omega)⟩⟩
            ·
              exact V_vret rfl d_Mod_readLine_118 ⟨rfl, ⟨hI265, f266, o267, o267Z, o267E, o267K, o268, o268Z, o268E, o268K, o269, o269Z, o269E, o269K, x, xZ, xE, (kn_call fh263 K253 rfl), y, yZ, yE, (kn_call fh263 K254 rfl), (by omega)⟩⟩
          refine V_aload_n 0 d_Mod_readLine_62 rfl rfl ?_
          refine N_getK fa_Mod_102 sk_116 rfl d_Mod_readLine_63 o248K ?_
          refine V_if_ne 107 o248E d_Mod_readLine_66 (by decide) (fun c326 => ?_) (fun c326 => ?_)
          ·
            exact J249 h244 o248 o248Z hI246 f247 (kn_call fh244 (kn_call fh10 pK rfl) rfl) (kn_call fh244 (kn_call fh10 xK rfl) rfl) (kn_call fh244 (kn_call fh10 yK rfl) rfl) (kn_call fh244 z129e.symm rfl) o248E o248K (by omega) (by omega)
          ·
            refine V_iload_n 1 d_Mod_readLine_69 rfl rfl ?_
            refine V_iconst 3 d_Mod_readLine_70 (by decide) ?_
            refine V_icmp_gt 107 v6E tc_3 d_Mod_readLine_71 (by decide) (fun c327 => ?_) (fun c327 => ?_)
            ·
              exact J249 h244 o248 o248Z hI246 f247 (kn_call fh244 (kn_call fh10 pK rfl) rfl) (kn_call fh244 (kn_call fh10 xK rfl) rfl) (kn_call fh244 (kn_call fh10 yK rfl) rfl) (kn_call fh244 z129e.symm rfl) o248E o248K (by omega) (by omega)
            ·
              refine V_aload_n 0 d_Mod_readLine_74 rfl rfl ?_
              refine V_aload_n 0 d_Mod_readLine_75 rfl rfl ?_
              refine N_getI fa_Mod_75 sk_116 rfl d_Mod_readLine_76 (fun z328 z328Z z328E z328e => ?_)
              refine V_iload_n 1 d_Mod_readLine_79 rfl rfl ?_
              refine N_ishr d_Mod_readLine_80 (fun z329 z329Z z329E z329e => ?_)
              refine V_iconst 1 d_Mod_readLine_81 (by decide) ?_
              refine N_iand d_Mod_readLine_82 (fun z330 z330Z z330E z330e => ?_)
              refine V_if_ne 90 z330E d_Mod_readLine_83 (by decide) (fun c331 => ?_) (fun c331 => ?_)
              ·
                refine V_iconst 0 d_Mod_readLine_90 (by decide) ?_
                refine V_iconst 4 d_Mod_readLine_91 (by decide) ?_
                refine N_callVV [.int 0, .int 4] [] cv_Mod_144 sk_116 rfl d_Mod_readLine_92 rfl (Nat.le_of_ble_eq_true rfl) (by decide) (by decide) (c_Mod_needs h244 hI246 0 0 tc_0 4 4 tc_4 o248 o248Z o248E o248K) (fun h333 p334 => ?_)
                obtain ⟨hI335, fh333, o337, o337Z, o337E, o337K, p334⟩ := p334
                have f336 : fr S_Mod_readLine h h333 := fr_call f247 fh333 rfl
                refine V_aload_n 0 d_Mod_readLine_95 rfl rfl ?_
                refine V_dup d_Mod_readLine_96 rfl ?_
                refine N_getK fa_Mod_75 sk_116 rfl d_Mod_readLine_97 (kn_call fh333 z328e.symm rfl) ?_
                refine V_iconst 1 d_Mod_readLine_100 (by decide) ?_
                refine V_iload_n 1 d_Mod_readLine_101 rfl rfl ?_
                refine N_ishl d_Mod_readLine_102 (fun z338 z338Z z338E z338e => ?_)
                refine N_ior d_Mod_readLine_103 (fun z339 z339Z z339E z339e => ?_)
                refine N_putI fp_Mod_75 sk_116 rfl d_Mod_readLine_104 (fun h340 eh340 => ?_)
                have hI341 : Inv h340 := inv_full hI335 eh340 rfl
                have f342 : fr S_Mod_readLine h h340 := fr_put f336 eh340 rfl
                exact J249 h340 o337 o337Z hI341 f342 (kn_nei eh340 (kn_call fh333 (kn_call fh244 (kn_call fh10 pK rfl) rfl) rfl) (by decide)) (kn_nei eh340 (kn_call fh333 (kn_call fh244 (kn_call fh10 xK rfl) rfl) rfl) (by decide)) (kn_nei eh340 (kn_call fh333 (kn_call fh244 (kn_call fh10 yK rfl) rfl) rfl) (by decide)) (kn_ne eh340 (kn_call fh333 (kn_call fh244 z129e.symm rfl) rfl) (by decide)) o337E (kn_nei eh340 o337K (by decide)) (by omega) (by omega)
              ·
                refine V_iconst 1 d_Mod_readLine_86 (by decide) ?_
                refine V_goto 91 d_Mod_readLine_87 (by decide) ?_
                refine V_iconst 4 d_Mod_readLine_91 (by decide) ?_
                refine N_callVV [.int 1, .int 4] [] cv_Mod_144 sk_116 rfl d_Mod_readLine_92 rfl (Nat.le_of_ble_eq_true rfl) (by decide) (by decide) (c_Mod_needs h244 hI246 1 1 tc_1 4 4 tc_4 o248 o248Z o248E o248K) (fun h344 p345 => ?_)
                obtain ⟨hI346, fh344, o348, o348Z, o348E, o348K, p345⟩ := p345
                have f347 : fr S_Mod_readLine h h344 := fr_call f247 fh344 rfl
                refine V_aload_n 0 d_Mod_readLine_95 rfl rfl ?_
                refine V_dup d_Mod_readLine_96 rfl ?_
                refine N_getK fa_Mod_75 sk_116 rfl d_Mod_readLine_97 (kn_call fh344 z328e.symm rfl) ?_
                refine V_iconst 1 d_Mod_readLine_100 (by decide) ?_
                refine V_iload_n 1 d_Mod_readLine_101 rfl rfl ?_
                refine N_ishl d_Mod_readLine_102 (fun z349 z349Z z349E z349e => ?_)
                refine N_ior d_Mod_readLine_103 (fun z350 z350Z z350E z350e => ?_)
                refine N_putI fp_Mod_75 sk_116 rfl d_Mod_readLine_104 (fun h351 eh351 => ?_)
                have hI352 : Inv h351 := inv_full hI346 eh351 rfl
                have f353 : fr S_Mod_readLine h h351 := fr_put f347 eh351 rfl
                exact J249 h351 o348 o348Z hI352 f353 (kn_nei eh351 (kn_call fh344 (kn_call fh244 (kn_call fh10 pK rfl) rfl) rfl) (by decide)) (kn_nei eh351 (kn_call fh344 (kn_call fh244 (kn_call fh10 xK rfl) rfl) rfl) (by decide)) (kn_nei eh351 (kn_call fh344 (kn_call fh244 (kn_call fh10 yK rfl) rfl) rfl) (by decide)) (kn_ne eh351 (kn_call fh344 (kn_call fh244 z129e.symm rfl) rfl) (by decide)) o348E (kn_nei eh351 o348K (by decide)) (by omega) (by omega)
    ·
      refine V_iconst 1 d_Mod_readLine_25 (by decide) ?_
      refine V_goto 30 d_Mod_readLine_26 (by decide) ?_
      refine V_iconst 2 d_Mod_readLine_30 (by decide) ?_
      refine N_callVV [.int 1, .int 2] [] cv_Mod_144 sk_116 rfl d_Mod_readLine_31 rfl (Nat.le_of_ble_eq_true rfl) (by decide) (by decide) (c_Mod_needs h hI 1 1 tc_1 2 2 tc_2 f fZ fE fK) (fun h355 p356 => ?_)
      obtain ⟨hI357, fh355, o359, o359Z, o359E, o359K, p356⟩ := p356
      have f358 : fr S_Mod_readLine h h355 := fr_call f0 fh355 rfl
      refine V_aload_n 0 d_Mod_readLine_34 rfl rfl ?_
      refine V_iload_n 1 d_Mod_readLine_35 rfl rfl ?_
      refine V_bipush 9 d_Mod_readLine_36 (by decide) ?_
      refine V_icmp_ne 53 v6E tc_9 d_Mod_readLine_38 (by decide) (fun c360 => ?_) (fun c360 => ?_)
      ·
        refine V_iconst 1 d_Mod_readLine_53 (by decide) ?_
        refine V_goto 58 d_Mod_readLine_54 (by decide) ?_
        refine V_iconst 5 d_Mod_readLine_58 (by decide) ?_
        refine N_callVV [.int 1, .int 5] [] cv_Mod_144 sk_116 rfl d_Mod_readLine_59 rfl (Nat.le_of_ble_eq_true rfl) (by decide) (by decide) (c_Mod_needs h355 hI357 1 1 tc_1 5 5 tc_5 o359 o359Z o359E o359K) (fun h362 p363 => ?_)
        obtain ⟨hI364, fh362, o366, o366Z, o366E, o366K, p363⟩ := p363
        have f365 : fr S_Mod_readLine h h362 := fr_call f358 fh362 rfl
        obtain ⟨z373, z373Z, z373E, z373e⟩ : ∃ (y : Int32) (Y : Int), y.toInt = Y ∧ y = h362.1 119 86 := ⟨_, _, rfl, rfl⟩
        have g374 : 0 ≤ z373Z ∧ z373Z ≤ 8 := inv_at hI364 z373E z373e rfl
        have J367 : ∀ (h369 : Hp) (v376 : Int32) (v376Z : Int), Inv h369 → fr S_Mod_readLine h h369 → h369.1 116 16 = p → h369.1 116 7 = x → h369.1 116 8 = y → h369.1 119 86 = z373 → v376.toInt = v376Z → h369.1 116 20 = v376 → 0 ≤ v376Z → v376Z ≠ 0 ∨ 0 ≤ v6Z ∧ v6Z ≤ 9 ∧ (v6Z ≠ 9 ∨ z373Z ≤ 7) → V R_Mod b_Mod_readLine 2 none 5 116 (q_Mod_readLine h p pZ f fZ x xZ y yZ) h369 107 [some (.ref 116), some (.int v6)] [] := by
          intro h369 v376 v376Z Ih369 Fh369 K370 K371 K372 K375 v376E K377 q378 q379
          refine V_aload_n 0 d_Mod_readLine_107 rfl rfl ?_
          obtain ⟨z380, z380Z, z380E, z380e⟩ : ∃ (y : Int32) (Y : Int), y.toInt = Y ∧ y = h369.1 116 15 := ⟨_, _, rfl, rfl⟩
          have g381 : 0 ≤ z380Z ∧ z380Z ≤ 160 := inv_at Ih369 z380E z380e rfl
          refine N_callVV [] [] cv_Mod_152 sk_116 rfl d_Mod_readLine_108 rfl (Nat.le_of_ble_eq_true rfl) (by decide) (by decide) (c_Mod_next h369 Ih369 z380 z380Z z380E z380e.symm p pZ pE K370 v376 v376Z v376E K377 (by omega)) (fun h383 p384 => ?_)
          obtain ⟨hI385, fh383, o387, o387Z, o387E, o387K, o388, o388Z, o388E, o388K, o389, o389Z, o389E, o389K, p384⟩ := p384
          have f386 : fr S_Mod_readLine h h383 := fr_call Fh369 fh383 rfl
          have g390 : 0 ≤ o387Z ∧ o387Z ≤ 160 := inv_at hI385 o387E o387K.symm rfl
          refine V_aload_n 0 d_Mod_readLine_111 rfl rfl ?_
          refine N_getK fa_Mod_102 sk_116 rfl d_Mod_readLine_112 o388K ?_
          refine V_if_le 119 o388E d_Mod_readLine_115 (by decide) (fun c391 => ?_) (fun c391 => ?_)
          ·
            refine V_aload_n 0 d_Mod_readLine_119 rfl rfl ?_
            refine V_iload_n 1 d_Mod_readLine_120 rfl rfl ?_
            refine N_callVV [.int v6] [] cv_Mod_177 sk_116 rfl d_Mod_readLine_121 rfl (Nat.le_of_ble_eq_true rfl) (by decide) (by decide) (c_Mod_readLineOf h383 hI385 v6 v6Z v6E o387 o387Z o387E o387K o388 o388Z o388E o388K x xZ xE (kn_call fh383 K371 rfl) y yZ yE (kn_call fh383 K372 rfl) z373 z373Z z373E (kn_call fh383 K375 rfl) (by omega) (by omega) (by omega) (by omega) (by omega)) (fun h393 p394 => ?_)
            obtain ⟨hI395, fh393, o397, o397Z, o397E, o397K, o398, o398Z, o398E, o398K, o399, o399Z, o399E, o399K, o400, o400Z, o400E, o400K, o401, o401Z, o401E, o401K, p394⟩ := p394
            have f396 : fr S_Mod_readLine h h393 := fr_call f386 fh393 rfl
            have g402 : 0 ≤ o397Z ∧ o397Z ≤ 160 := inv_at hI395 o397E o397K.symm rfl
            have g403 : 0 ≤ o400Z ∧ o400Z ≤ 4 := inv_at hI395 o400E o400K.symm rfl
            have g404 : 0 ≤ o401Z ∧ o401Z ≤ 4 := inv_at hI395 o401E o401K.symm rfl
            refine V_aload_n 0 d_Mod_readLine_124 rfl rfl ?_
            refine N_getK fa_Mod_102 sk_116 rfl d_Mod_readLine_125 o398K ?_
            refine V_if_ne 149 o398E d_Mod_readLine_128 (by decide) (fun c405 => ?_) (fun c405 => ?_)
            ·
              refine V_aload_n 0 d_Mod_readLine_149 rfl rfl ?_
              refine N_callVV [] [] cv_Mod_152 sk_116 rfl d_Mod_readLine_150 rfl (Nat.le_of_ble_eq_true rfl) (by decide) (by decide) (c_Mod_next h393 hI395 z380 z380Z z380E (kn_call fh393 (kn_call fh383 z380e.symm rfl) rfl) o397 o397Z o397E o397K o398 o398Z o398E o398K (by omega)) (fun h407 p408 => ?_)
              obtain ⟨hI409, fh407, o411, o411Z, o411E, o411K, o412, o412Z, o412E, o412K, o413, o413Z, o413E, o413K, p408⟩ := p408
              have f410 : fr S_Mod_readLine h h407 := fr_call f396 fh407 rfl
              have g414 : 0 ≤ o411Z ∧ o411Z ≤ 160 := inv_at hI409 o411E o411K.symm rfl
              exact V_vret rfl d_Mod_readLine_153 ⟨rfl, ⟨hI409, f410, o411, o411Z, o411E, o411K, o412, o412Z, o412E, o412K, o413, o413Z, o413E, o413K, o400, o400Z, o400E, (kn_call fh407 o400K rfl), o401, o401Z, o401E, (kn_call fh407 o401K rfl), (by omega)⟩⟩
            ·
              refine V_aload_n 0 d_Mod_readLine_131 rfl rfl ?_
              refine V_aload_n 0 d_Mod_readLine_132 rfl rfl ?_
              refine N_getK fa_Mod_130 sk_116 rfl d_Mod_readLine_133 o399K ?_
              refine V_iconst 3 d_Mod_readLine_136 (by decide) ?_
              refine V_icmp_ne 144 o399E tc_3 d_Mod_readLine_137 (by decide) (fun c415 => ?_) (fun c415 => ?_)
              ·
                refine V_iconst 0 d_Mod_readLine_144 (by decide) ?_
                refine V_iconst 2 d_Mod_readLine_145 (by decide) ?_
                refine N_callVV [.int 0, .int 2] [] cv_Mod_144 sk_116 rfl d_Mod_readLine_146 rfl (Nat.le_of_ble_eq_true rfl) (by decide) (by decide) (c_Mod_needs h393 hI395 0 0 tc_0 2 2 tc_2 o398 o398Z o398E o398K) (fun h417 p418 => ?_)
                obtain ⟨hI419, fh417, o421, o421Z, o421E, o421K, p418⟩ := p418
                have f420 : fr S_Mod_readLine h h417 := fr_call f396 fh417 rfl
                refine V_aload_n 0 d_Mod_readLine_149 rfl rfl ?_
                refine N_callVV [] [] cv_Mod_152 sk_116 rfl d_Mod_readLine_150 rfl (Nat.le_of_ble_eq_true rfl) (by decide) (by decide) (c_Mod_next h417 hI419 z380 z380Z z380E (kn_call fh417 (kn_call fh393 (kn_call fh383 z380e.symm rfl) rfl) rfl) o397 o397Z o397E (kn_call fh417 o397K rfl) o421 o421Z o421E o421K (by omega)) (fun h423 p424 => ?_)
                obtain ⟨hI425, fh423, o427, o427Z, o427E, o427K, o428, o428Z, o428E, o428K, o429, o429Z, o429E, o429K, p424⟩ := p424
                have f426 : fr S_Mod_readLine h h423 := fr_call f420 fh423 rfl
                have g430 : 0 ≤ o427Z ∧ o427Z ≤ 160 := inv_at hI425 o427E o427K.symm rfl
                exact V_vret rfl d_Mod_readLine_153 ⟨rfl, ⟨hI425, f426, o427, o427Z, o427E, o427K, o428, o428Z, o428E, o428K, o429, o429Z, o429E, o429K, o400, o400Z, o400E, (kn_call fh423 (kn_call fh417 o400K rfl) rfl), o401, o401Z, o401E, (kn_call fh423 (kn_call fh417 o401K rfl) rfl), (by omega)⟩⟩
              ·
                refine V_iconst 1 d_Mod_readLine_140 (by decide) ?_
                refine V_goto 145 d_Mod_readLine_141 (by decide) ?_
                refine V_iconst 2 d_Mod_readLine_145 (by decide) ?_
                refine N_callVV [.int 1, .int 2] [] cv_Mod_144 sk_116 rfl d_Mod_readLine_146 rfl (Nat.le_of_ble_eq_true rfl) (by decide) (by decide) (c_Mod_needs h393 hI395 1 1 tc_1 2 2 tc_2 o398 o398Z o398E o398K) (fun h432 p433 => ?_)
                obtain ⟨hI434, fh432, o436, o436Z, o436E, o436K, p433⟩ := p433
                have f435 : fr S_Mod_readLine h h432 := fr_call f396 fh432 rfl
                refine V_aload_n 0 d_Mod_readLine_149 rfl rfl ?_
                refine N_callVV [] [] cv_Mod_152 sk_116 rfl d_Mod_readLine_150 rfl (Nat.le_of_ble_eq_true rfl) (by decide) (by decide) (c_Mod_next h432 hI434 z380 z380Z z380E (kn_call fh432 (kn_call fh393 (kn_call fh383 z380e.symm rfl) rfl) rfl) o397 o397Z o397E (kn_call fh432 o397K rfl) o436 o436Z o436E o436K (by omega)) (fun h438 p439 => ?_)
                obtain ⟨hI440, fh438, o442, o442Z, o442E, o442K, o443, o443Z, o443E, o443K, o444, o444Z, o444E, o444K, p439⟩ := p439
                have f441 : fr S_Mod_readLine h h438 := fr_call f435 fh438 rfl
                have g445 : 0 ≤ o442Z ∧ o442Z ≤ 160 := inv_at hI440 o442E o442K.symm rfl
                exact V_vret rfl d_Mod_readLine_153 ⟨rfl, ⟨hI440, f441, o442, o442Z, o442E, o442K, o443, o443Z, o443E, o443K, o444, o444Z, o444E, o444K, o400, o400Z, o400E, (kn_call fh438 (kn_call fh432 o400K rfl) rfl), o401, o401Z, o401E, (kn_call fh438 (kn_call fh432 o401K rfl) rfl), (by omega)⟩⟩
          ·
            exact V_vret rfl d_Mod_readLine_118 ⟨rfl, ⟨hI385, f386, o387, o387Z, o387E, o387K, o388, o388Z, o388E, o388K, o389, o389Z, o389E, o389K, x, xZ, xE, (kn_call fh383 K371 rfl), y, yZ, yE, (kn_call fh383 K372 rfl), (by omega)⟩⟩
        refine V_aload_n 0 d_Mod_readLine_62 rfl rfl ?_
        refine N_getK fa_Mod_102 sk_116 rfl d_Mod_readLine_63 o366K ?_
        refine V_if_ne 107 o366E d_Mod_readLine_66 (by decide) (fun c446 => ?_) (fun c446 => ?_)
        ·
          exact J367 h362 o366 o366Z hI364 f365 (kn_call fh362 (kn_call fh355 pK rfl) rfl) (kn_call fh362 (kn_call fh355 xK rfl) rfl) (kn_call fh362 (kn_call fh355 yK rfl) rfl) z373e.symm o366E o366K (by omega) (by omega)
        ·
          refine V_iload_n 1 d_Mod_readLine_69 rfl rfl ?_
          refine V_iconst 3 d_Mod_readLine_70 (by decide) ?_
          refine V_icmp_gt 107 v6E tc_3 d_Mod_readLine_71 (by decide) (fun c447 => ?_) (fun c447 => ?_)
          ·
            exact J367 h362 o366 o366Z hI364 f365 (kn_call fh362 (kn_call fh355 pK rfl) rfl) (kn_call fh362 (kn_call fh355 xK rfl) rfl) (kn_call fh362 (kn_call fh355 yK rfl) rfl) z373e.symm o366E o366K (by omega) (by omega)
          ·
            refine V_aload_n 0 d_Mod_readLine_74 rfl rfl ?_
            refine V_aload_n 0 d_Mod_readLine_75 rfl rfl ?_
            refine N_getI fa_Mod_75 sk_116 rfl d_Mod_readLine_76 (fun z448 z448Z z448E z448e => ?_)
            refine V_iload_n 1 d_Mod_readLine_79 rfl rfl ?_
            refine N_ishr d_Mod_readLine_80 (fun z449 z449Z z449E z449e => ?_)
            refine V_iconst 1 d_Mod_readLine_81 (by decide) ?_
            refine N_iand d_Mod_readLine_82 (fun z450 z450Z z450E z450e => ?_)
            refine V_if_ne 90 z450E d_Mod_readLine_83 (by decide) (fun c451 => ?_) (fun c451 => ?_)
            ·
              refine V_iconst 0 d_Mod_readLine_90 (by decide) ?_
              refine V_iconst 4 d_Mod_readLine_91 (by decide) ?_
              refine N_callVV [.int 0, .int 4] [] cv_Mod_144 sk_116 rfl d_Mod_readLine_92 rfl (Nat.le_of_ble_eq_true rfl) (by decide) (by decide) (c_Mod_needs h362 hI364 0 0 tc_0 4 4 tc_4 o366 o366Z o366E o366K) (fun h453 p454 => ?_)
              obtain ⟨hI455, fh453, o457, o457Z, o457E, o457K, p454⟩ := p454
              have f456 : fr S_Mod_readLine h h453 := fr_call f365 fh453 rfl
              refine V_aload_n 0 d_Mod_readLine_95 rfl rfl ?_
              refine V_dup d_Mod_readLine_96 rfl ?_
              refine N_getK fa_Mod_75 sk_116 rfl d_Mod_readLine_97 (kn_call fh453 z448e.symm rfl) ?_
              refine V_iconst 1 d_Mod_readLine_100 (by decide) ?_
              refine V_iload_n 1 d_Mod_readLine_101 rfl rfl ?_
              refine N_ishl d_Mod_readLine_102 (fun z458 z458Z z458E z458e => ?_)
              refine N_ior d_Mod_readLine_103 (fun z459 z459Z z459E z459e => ?_)
              refine N_putI fp_Mod_75 sk_116 rfl d_Mod_readLine_104 (fun h460 eh460 => ?_)
              have hI461 : Inv h460 := inv_full hI455 eh460 rfl
              have f462 : fr S_Mod_readLine h h460 := fr_put f456 eh460 rfl
              exact J367 h460 o457 o457Z hI461 f462 (kn_nei eh460 (kn_call fh453 (kn_call fh362 (kn_call fh355 pK rfl) rfl) rfl) (by decide)) (kn_nei eh460 (kn_call fh453 (kn_call fh362 (kn_call fh355 xK rfl) rfl) rfl) (by decide)) (kn_nei eh460 (kn_call fh453 (kn_call fh362 (kn_call fh355 yK rfl) rfl) rfl) (by decide)) (kn_ne eh460 (kn_call fh453 z373e.symm rfl) (by decide)) o457E (kn_nei eh460 o457K (by decide)) (by omega) (by omega)
            ·
              refine V_iconst 1 d_Mod_readLine_86 (by decide) ?_
              refine V_goto 91 d_Mod_readLine_87 (by decide) ?_
              refine V_iconst 4 d_Mod_readLine_91 (by decide) ?_
              refine N_callVV [.int 1, .int 4] [] cv_Mod_144 sk_116 rfl d_Mod_readLine_92 rfl (Nat.le_of_ble_eq_true rfl) (by decide) (by decide) (c_Mod_needs h362 hI364 1 1 tc_1 4 4 tc_4 o366 o366Z o366E o366K) (fun h464 p465 => ?_)
              obtain ⟨hI466, fh464, o468, o468Z, o468E, o468K, p465⟩ := p465
              have f467 : fr S_Mod_readLine h h464 := fr_call f365 fh464 rfl
              refine V_aload_n 0 d_Mod_readLine_95 rfl rfl ?_
              refine V_dup d_Mod_readLine_96 rfl ?_
              refine N_getK fa_Mod_75 sk_116 rfl d_Mod_readLine_97 (kn_call fh464 z448e.symm rfl) ?_
              refine V_iconst 1 d_Mod_readLine_100 (by decide) ?_
              refine V_iload_n 1 d_Mod_readLine_101 rfl rfl ?_
              refine N_ishl d_Mod_readLine_102 (fun z469 z469Z z469E z469e => ?_)
              refine N_ior d_Mod_readLine_103 (fun z470 z470Z z470E z470e => ?_)
              refine N_putI fp_Mod_75 sk_116 rfl d_Mod_readLine_104 (fun h471 eh471 => ?_)
              have hI472 : Inv h471 := inv_full hI466 eh471 rfl
              have f473 : fr S_Mod_readLine h h471 := fr_put f467 eh471 rfl
              exact J367 h471 o468 o468Z hI472 f473 (kn_nei eh471 (kn_call fh464 (kn_call fh362 (kn_call fh355 pK rfl) rfl) rfl) (by decide)) (kn_nei eh471 (kn_call fh464 (kn_call fh362 (kn_call fh355 xK rfl) rfl) rfl) (by decide)) (kn_nei eh471 (kn_call fh464 (kn_call fh362 (kn_call fh355 yK rfl) rfl) rfl) (by decide)) (kn_ne eh471 (kn_call fh464 z373e.symm rfl) (by decide)) o468E (kn_nei eh471 o468K (by decide)) (by omega) (by omega)
      ·
        refine V_aload_n 0 d_Mod_readLine_41 rfl rfl ?_
        refine V_getR fa_Mod_17 sk_116 rfl d_Mod_readLine_42 ?_
        refine V_bipush 86 d_Mod_readLine_45 (by decide) ?_
        refine N_iald sk_119 tc_86 (by omega) d_Mod_readLine_47 (fun z474 z474Z z474E z474e => ?_)
        have g475 : 0 ≤ z474Z ∧ z474Z ≤ 8 := inv_at hI357 z474E z474e rfl
        refine V_bipush 8 d_Mod_readLine_48 (by decide) ?_
        refine V_icmp_ge 57 z474E tc_8 d_Mod_readLine_50 (by decide) (fun c476 => ?_) (fun c476 => ?_)
        ·
          refine V_iconst 0 d_Mod_readLine_57 (by decide) ?_
          refine V_iconst 5 d_Mod_readLine_58 (by decide) ?_
          refine N_callVV [.int 0, .int 5] [] cv_Mod_144 sk_116 rfl d_Mod_readLine_59 rfl (Nat.le_of_ble_eq_true rfl) (by decide) (by decide) (c_Mod_needs h355 hI357 0 0 tc_0 5 5 tc_5 o359 o359Z o359E o359K) (fun h478 p479 => ?_)
          obtain ⟨hI480, fh478, o482, o482Z, o482E, o482K, p479⟩ := p479
          have f481 : fr S_Mod_readLine h h478 := fr_call f358 fh478 rfl
          have J483 : ∀ (h485 : Hp) (v490 : Int32) (v490Z : Int), Inv h485 → fr S_Mod_readLine h h485 → h485.1 116 16 = p → h485.1 116 7 = x → h485.1 116 8 = y → h485.1 119 86 = z474 → v490.toInt = v490Z → h485.1 116 20 = v490 → 0 ≤ v490Z → v490Z ≠ 0 ∨ 0 ≤ v6Z ∧ v6Z ≤ 9 ∧ (v6Z ≠ 9 ∨ z474Z ≤ 7) → V R_Mod b_Mod_readLine 2 none 5 116 (q_Mod_readLine h p pZ f fZ x xZ y yZ) h485 107 [some (.ref 116), some (.int v6)] [] := by
            intro h485 v490 v490Z Ih485 Fh485 K486 K487 K488 K489 v490E K491 q492 q493
            refine V_aload_n 0 d_Mod_readLine_107 rfl rfl ?_
            obtain ⟨z494, z494Z, z494E, z494e⟩ : ∃ (y : Int32) (Y : Int), y.toInt = Y ∧ y = h485.1 116 15 := ⟨_, _, rfl, rfl⟩
            have g495 : 0 ≤ z494Z ∧ z494Z ≤ 160 := inv_at Ih485 z494E z494e rfl
            refine N_callVV [] [] cv_Mod_152 sk_116 rfl d_Mod_readLine_108 rfl (Nat.le_of_ble_eq_true rfl) (by decide) (by decide) (c_Mod_next h485 Ih485 z494 z494Z z494E z494e.symm p pZ pE K486 v490 v490Z v490E K491 (by omega)) (fun h497 p498 => ?_)
            obtain ⟨hI499, fh497, o501, o501Z, o501E, o501K, o502, o502Z, o502E, o502K, o503, o503Z, o503E, o503K, p498⟩ := p498
            have f500 : fr S_Mod_readLine h h497 := fr_call Fh485 fh497 rfl
            have g504 : 0 ≤ o501Z ∧ o501Z ≤ 160 := inv_at hI499 o501E o501K.symm rfl
            refine V_aload_n 0 d_Mod_readLine_111 rfl rfl ?_
            refine N_getK fa_Mod_102 sk_116 rfl d_Mod_readLine_112 o502K ?_
            refine V_if_le 119 o502E d_Mod_readLine_115 (by decide) (fun c505 => ?_) (fun c505 => ?_)
            ·
              refine V_aload_n 0 d_Mod_readLine_119 rfl rfl ?_
              refine V_iload_n 1 d_Mod_readLine_120 rfl rfl ?_
              refine N_callVV [.int v6] [] cv_Mod_177 sk_116 rfl d_Mod_readLine_121 rfl (Nat.le_of_ble_eq_true rfl) (by decide) (by decide) (c_Mod_readLineOf h497 hI499 v6 v6Z v6E o501 o501Z o501E o501K o502 o502Z o502E o502K x xZ xE (kn_call fh497 K487 rfl) y yZ yE (kn_call fh497 K488 rfl) z474 z474Z z474E (kn_call fh497 K489 rfl) (by omega) (by omega) (by omega) (by omega) (by omega)) (fun h507 p508 => ?_)
              obtain ⟨hI509, fh507, o511, o511Z, o511E, o511K, o512, o512Z, o512E, o512K, o513, o513Z, o513E, o513K, o514, o514Z, o514E, o514K, o515, o515Z, o515E, o515K, p508⟩ := p508
              have f510 : fr S_Mod_readLine h h507 := fr_call f500 fh507 rfl
              have g516 : 0 ≤ o511Z ∧ o511Z ≤ 160 := inv_at hI509 o511E o511K.symm rfl
              have g517 : 0 ≤ o514Z ∧ o514Z ≤ 4 := inv_at hI509 o514E o514K.symm rfl
              have g518 : 0 ≤ o515Z ∧ o515Z ≤ 4 := inv_at hI509 o515E o515K.symm rfl
              refine V_aload_n 0 d_Mod_readLine_124 rfl rfl ?_
              refine N_getK fa_Mod_102 sk_116 rfl d_Mod_readLine_125 o512K ?_
              refine V_if_ne 149 o512E d_Mod_readLine_128 (by decide) (fun c519 => ?_) (fun c519 => ?_)
              ·
                refine V_aload_n 0 d_Mod_readLine_149 rfl rfl ?_
                refine N_callVV [] [] cv_Mod_152 sk_116 rfl d_Mod_readLine_150 rfl (Nat.le_of_ble_eq_true rfl) (by decide) (by decide) (c_Mod_next h507 hI509 z494 z494Z z494E (kn_call fh507 (kn_call fh497 z494e.symm rfl) rfl) o511 o511Z o511E o511K o512 o512Z o512E o512K (by omega)) (fun h521 p522 => ?_)
                obtain ⟨hI523, fh521, o525, o525Z, o525E, o525K, o526, o526Z, o526E, o526K, o527, o527Z, o527E, o527K, p522⟩ := p522
                have f524 : fr S_Mod_readLine h h521 := fr_call f510 fh521 rfl
                have g528 : 0 ≤ o525Z ∧ o525Z ≤ 160 := inv_at hI523 o525E o525K.symm rfl
                exact V_vret rfl d_Mod_readLine_153 ⟨rfl, ⟨hI523, f524, o525, o525Z, o525E, o525K, o526, o526Z, o526E, o526K, o527, o527Z, o527E, o527K, o514, o514Z, o514E, (kn_call fh521 o514K rfl), o515, o515Z, o515E, (kn_call fh521 o515K rfl), (by omega)⟩⟩
              ·
                refine V_aload_n 0 d_Mod_readLine_131 rfl rfl ?_
                refine V_aload_n 0 d_Mod_readLine_132 rfl rfl ?_
                refine N_getK fa_Mod_130 sk_116 rfl d_Mod_readLine_133 o513K ?_
                refine V_iconst 3 d_Mod_readLine_136 (by decide) ?_
                refine V_icmp_ne 144 o513E tc_3 d_Mod_readLine_137 (by decide) (fun c529 => ?_) (fun c529 => ?_)
                ·
                  refine V_iconst 0 d_Mod_readLine_144 (by decide) ?_
                  refine V_iconst 2 d_Mod_readLine_145 (by decide) ?_
                  refine N_callVV [.int 0, .int 2] [] cv_Mod_144 sk_116 rfl d_Mod_readLine_146 rfl (Nat.le_of_ble_eq_true rfl) (by decide) (by decide) (c_Mod_needs h507 hI509 0 0 tc_0 2 2 tc_2 o512 o512Z o512E o512K) (fun h531 p532 => ?_)
                  obtain ⟨hI533, fh531, o535, o535Z, o535E, o535K, p532⟩ := p532
                  have f534 : fr S_Mod_readLine h h531 := fr_call f510 fh531 rfl
                  refine V_aload_n 0 d_Mod_readLine_149 rfl rfl ?_
                  refine N_callVV [] [] cv_Mod_152 sk_116 rfl d_Mod_readLine_150 rfl (Nat.le_of_ble_eq_true rfl) (by decide) (by decide) (c_Mod_next h531 hI533 z494 z494Z z494E (kn_call fh531 (kn_call fh507 (kn_call fh497 z494e.symm rfl) rfl) rfl) o511 o511Z o511E (kn_call fh531 o511K rfl) o535 o535Z o535E o535K (by omega)) (fun h537 p538 => ?_)
                  obtain ⟨hI539, fh537, o541, o541Z, o541E, o541K, o542, o542Z, o542E, o542K, o543, o543Z, o543E, o543K, p538⟩ := p538
                  have f540 : fr S_Mod_readLine h h537 := fr_call f534 fh537 rfl
                  have g544 : 0 ≤ o541Z ∧ o541Z ≤ 160 := inv_at hI539 o541E o541K.symm rfl
                  exact V_vret rfl d_Mod_readLine_153 ⟨rfl, ⟨hI539, f540, o541, o541Z, o541E, o541K, o542, o542Z, o542E, o542K, o543, o543Z, o543E, o543K, o514, o514Z, o514E, (kn_call fh537 (kn_call fh531 o514K rfl) rfl), o515, o515Z, o515E, (kn_call fh537 (kn_call fh531 o515K rfl) rfl), (by omega)⟩⟩
                ·
                  refine V_iconst 1 d_Mod_readLine_140 (by decide) ?_
                  refine V_goto 145 d_Mod_readLine_141 (by decide) ?_
                  refine V_iconst 2 d_Mod_readLine_145 (by decide) ?_
                  refine N_callVV [.int 1, .int 2] [] cv_Mod_144 sk_116 rfl d_Mod_readLine_146 rfl (Nat.le_of_ble_eq_true rfl) (by decide) (by decide) (c_Mod_needs h507 hI509 1 1 tc_1 2 2 tc_2 o512 o512Z o512E o512K) (fun h546 p547 => ?_)
                  obtain ⟨hI548, fh546, o550, o550Z, o550E, o550K, p547⟩ := p547
                  have f549 : fr S_Mod_readLine h h546 := fr_call f510 fh546 rfl
                  refine V_aload_n 0 d_Mod_readLine_149 rfl rfl ?_
                  refine N_callVV [] [] cv_Mod_152 sk_116 rfl d_Mod_readLine_150 rfl (Nat.le_of_ble_eq_true rfl) (by decide) (by decide) (c_Mod_next h546 hI548 z494 z494Z z494E (kn_call fh546 (kn_call fh507 (kn_call fh497 z494e.symm rfl) rfl) rfl) o511 o511Z o511E (kn_call fh546 o511K rfl) o550 o550Z o550E o550K (by omega)) (fun h552 p553 => ?_)
                  obtain ⟨hI554, fh552, o556, o556Z, o556E, o556K, o557, o557Z, o557E, o557K, o558, o558Z, o558E, o558K, p553⟩ := p553
                  have f555 : fr S_Mod_readLine h h552 := fr_call f549 fh552 rfl
                  have g559 : 0 ≤ o556Z ∧ o556Z ≤ 160 := inv_at hI554 o556E o556K.symm rfl
                  exact V_vret rfl d_Mod_readLine_153 ⟨rfl, ⟨hI554, f555, o556, o556Z, o556E, o556K, o557, o557Z, o557E, o557K, o558, o558Z, o558E, o558K, o514, o514Z, o514E, (kn_call fh552 (kn_call fh546 o514K rfl) rfl), o515, o515Z, o515E, (kn_call fh552 (kn_call fh546 o515K rfl) rfl), (by omega)⟩⟩
            ·
              exact V_vret rfl d_Mod_readLine_118 ⟨rfl, ⟨hI499, f500, o501, o501Z, o501E, o501K, o502, o502Z, o502E, o502K, o503, o503Z, o503E, o503K, x, xZ, xE, (kn_call fh497 K487 rfl), y, yZ, yE, (kn_call fh497 K488 rfl), (by omega)⟩⟩
          refine V_aload_n 0 d_Mod_readLine_62 rfl rfl ?_
          refine N_getK fa_Mod_102 sk_116 rfl d_Mod_readLine_63 o482K ?_
          refine V_if_ne 107 o482E d_Mod_readLine_66 (by decide) (fun c560 => ?_) (fun c560 => ?_)
          ·
            exact J483 h478 o482 o482Z hI480 f481 (kn_call fh478 (kn_call fh355 pK rfl) rfl) (kn_call fh478 (kn_call fh355 xK rfl) rfl) (kn_call fh478 (kn_call fh355 yK rfl) rfl) (kn_call fh478 z474e.symm rfl) o482E o482K (by omega) (by omega)
          ·
            refine V_iload_n 1 d_Mod_readLine_69 rfl rfl ?_
            refine V_iconst 3 d_Mod_readLine_70 (by decide) ?_
            refine V_icmp_gt 107 v6E tc_3 d_Mod_readLine_71 (by decide) (fun c561 => ?_) (fun c561 => ?_)
            ·
              exact J483 h478 o482 o482Z hI480 f481 (kn_call fh478 (kn_call fh355 pK rfl) rfl) (kn_call fh478 (kn_call fh355 xK rfl) rfl) (kn_call fh478 (kn_call fh355 yK rfl) rfl) (kn_call fh478 z474e.symm rfl) o482E o482K (by omega) (by omega)
            ·
              refine V_aload_n 0 d_Mod_readLine_74 rfl rfl ?_
              refine V_aload_n 0 d_Mod_readLine_75 rfl rfl ?_
              refine N_getI fa_Mod_75 sk_116 rfl d_Mod_readLine_76 (fun z562 z562Z z562E z562e => ?_)
              refine V_iload_n 1 d_Mod_readLine_79 rfl rfl ?_
              refine N_ishr d_Mod_readLine_80 (fun z563 z563Z z563E z563e => ?_)
              refine V_iconst 1 d_Mod_readLine_81 (by decide) ?_
              refine N_iand d_Mod_readLine_82 (fun z564 z564Z z564E z564e => ?_)
              refine V_if_ne 90 z564E d_Mod_readLine_83 (by decide) (fun c565 => ?_) (fun c565 => ?_)
              ·
                refine V_iconst 0 d_Mod_readLine_90 (by decide) ?_
                refine V_iconst 4 d_Mod_readLine_91 (by decide) ?_
                refine N_callVV [.int 0, .int 4] [] cv_Mod_144 sk_116 rfl d_Mod_readLine_92 rfl (Nat.le_of_ble_eq_true rfl) (by decide) (by decide) (c_Mod_needs h478 hI480 0 0 tc_0 4 4 tc_4 o482 o482Z o482E o482K) (fun h567 p568 => ?_)
                obtain ⟨hI569, fh567, o571, o571Z, o571E, o571K, p568⟩ := p568
                have f570 : fr S_Mod_readLine h h567 := fr_call f481 fh567 rfl
                refine V_aload_n 0 d_Mod_readLine_95 rfl rfl ?_
                refine V_dup d_Mod_readLine_96 rfl ?_
                refine N_getK fa_Mod_75 sk_116 rfl d_Mod_readLine_97 (kn_call fh567 z562e.symm rfl) ?_
                refine V_iconst 1 d_Mod_readLine_100 (by decide) ?_
                refine V_iload_n 1 d_Mod_readLine_101 rfl rfl ?_
                refine N_ishl d_Mod_readLine_102 (fun z572 z572Z z572E z572e => ?_)
                refine N_ior d_Mod_readLine_103 (fun z573 z573Z z573E z573e => ?_)
                refine N_putI fp_Mod_75 sk_116 rfl d_Mod_readLine_104 (fun h574 eh574 => ?_)
                have hI575 : Inv h574 := inv_full hI569 eh574 rfl
                have f576 : fr S_Mod_readLine h h574 := fr_put f570 eh574 rfl
                exact J483 h574 o571 o571Z hI575 f576 (kn_nei eh574 (kn_call fh567 (kn_call fh478 (kn_call fh355 pK rfl) rfl) rfl) (by decide)) (kn_nei eh574 (kn_call fh567 (kn_call fh478 (kn_call fh355 xK rfl) rfl) rfl) (by decide)) (kn_nei eh574 (kn_call fh567 (kn_call fh478 (kn_call fh355 yK rfl) rfl) rfl) (by decide)) (kn_ne eh574 (kn_call fh567 (kn_call fh478 z474e.symm rfl) rfl) (by decide)) o571E (kn_nei eh574 o571K (by decide)) (by omega) (by omega)
              ·
                refine V_iconst 1 d_Mod_readLine_86 (by decide) ?_
                refine V_goto 91 d_Mod_readLine_87 (by decide) ?_
                refine V_iconst 4 d_Mod_readLine_91 (by decide) ?_
                refine N_callVV [.int 1, .int 4] [] cv_Mod_144 sk_116 rfl d_Mod_readLine_92 rfl (Nat.le_of_ble_eq_true rfl) (by decide) (by decide) (c_Mod_needs h478 hI480 1 1 tc_1 4 4 tc_4 o482 o482Z o482E o482K) (fun h578 p579 => ?_)
                obtain ⟨hI580, fh578, o582, o582Z, o582E, o582K, p579⟩ := p579
                have f581 : fr S_Mod_readLine h h578 := fr_call f481 fh578 rfl
                refine V_aload_n 0 d_Mod_readLine_95 rfl rfl ?_
                refine V_dup d_Mod_readLine_96 rfl ?_
                refine N_getK fa_Mod_75 sk_116 rfl d_Mod_readLine_97 (kn_call fh578 z562e.symm rfl) ?_
                refine V_iconst 1 d_Mod_readLine_100 (by decide) ?_
                refine V_iload_n 1 d_Mod_readLine_101 rfl rfl ?_
                refine N_ishl d_Mod_readLine_102 (fun z583 z583Z z583E z583e => ?_)
                refine N_ior d_Mod_readLine_103 (fun z584 z584Z z584E z584e => ?_)
                refine N_putI fp_Mod_75 sk_116 rfl d_Mod_readLine_104 (fun h585 eh585 => ?_)
                have hI586 : Inv h585 := inv_full hI580 eh585 rfl
                have f587 : fr S_Mod_readLine h h585 := fr_put f581 eh585 rfl
                exact J483 h585 o582 o582Z hI586 f587 (kn_nei eh585 (kn_call fh578 (kn_call fh478 (kn_call fh355 pK rfl) rfl) rfl) (by decide)) (kn_nei eh585 (kn_call fh578 (kn_call fh478 (kn_call fh355 xK rfl) rfl) rfl) (by decide)) (kn_nei eh585 (kn_call fh578 (kn_call fh478 (kn_call fh355 yK rfl) rfl) rfl) (by decide)) (kn_ne eh585 (kn_call fh578 (kn_call fh478 z474e.symm rfl) rfl) (by decide)) o582E (kn_nei eh585 o582K (by decide)) (by omega) (by omega)
        ·
          refine V_iconst 1 d_Mod_readLine_53 (by decide) ?_
          refine V_goto 58 d_Mod_readLine_54 (by decide) ?_
          refine V_iconst 5 d_Mod_readLine_58 (by decide) ?_
          refine N_callVV [.int 1, .int 5] [] cv_Mod_144 sk_116 rfl d_Mod_readLine_59 rfl (Nat.le_of_ble_eq_true rfl) (by decide) (by decide) (c_Mod_needs h355 hI357 1 1 tc_1 5 5 tc_5 o359 o359Z o359E o359K) (fun h589 p590 => ?_)
          obtain ⟨hI591, fh589, o593, o593Z, o593E, o593K, p590⟩ := p590
          have f592 : fr S_Mod_readLine h h589 := fr_call f358 fh589 rfl
          have J594 : ∀ (h596 : Hp) (v601 : Int32) (v601Z : Int), Inv h596 → fr S_Mod_readLine h h596 → h596.1 116 16 = p → h596.1 116 7 = x → h596.1 116 8 = y → h596.1 119 86 = z474 → v601.toInt = v601Z → h596.1 116 20 = v601 → 0 ≤ v601Z → v601Z ≠ 0 ∨ 0 ≤ v6Z ∧ v6Z ≤ 9 ∧ (v6Z ≠ 9 ∨ z474Z ≤ 7) → V R_Mod b_Mod_readLine 2 none 5 116 (q_Mod_readLine h p pZ f fZ x xZ y yZ) h596 107 [some (.ref 116), some (.int v6)] [] := by
            intro h596 v601 v601Z Ih596 Fh596 K597 K598 K599 K600 v601E K602 q603 q604
            refine V_aload_n 0 d_Mod_readLine_107 rfl rfl ?_
            obtain ⟨z605, z605Z, z605E, z605e⟩ : ∃ (y : Int32) (Y : Int), y.toInt = Y ∧ y = h596.1 116 15 := ⟨_, _, rfl, rfl⟩
            have g606 : 0 ≤ z605Z ∧ z605Z ≤ 160 := inv_at Ih596 z605E z605e rfl
            refine N_callVV [] [] cv_Mod_152 sk_116 rfl d_Mod_readLine_108 rfl (Nat.le_of_ble_eq_true rfl) (by decide) (by decide) (c_Mod_next h596 Ih596 z605 z605Z z605E z605e.symm p pZ pE K597 v601 v601Z v601E K602 (by omega)) (fun h608 p609 => ?_)
            obtain ⟨hI610, fh608, o612, o612Z, o612E, o612K, o613, o613Z, o613E, o613K, o614, o614Z, o614E, o614K, p609⟩ := p609
            have f611 : fr S_Mod_readLine h h608 := fr_call Fh596 fh608 rfl
            have g615 : 0 ≤ o612Z ∧ o612Z ≤ 160 := inv_at hI610 o612E o612K.symm rfl
            refine V_aload_n 0 d_Mod_readLine_111 rfl rfl ?_
            refine N_getK fa_Mod_102 sk_116 rfl d_Mod_readLine_112 o613K ?_
            refine V_if_le 119 o613E d_Mod_readLine_115 (by decide) (fun c616 => ?_) (fun c616 => ?_)
            ·
              refine V_aload_n 0 d_Mod_readLine_119 rfl rfl ?_
              refine V_iload_n 1 d_Mod_readLine_120 rfl rfl ?_
              refine N_callVV [.int v6] [] cv_Mod_177 sk_116 rfl d_Mod_readLine_121 rfl (Nat.le_of_ble_eq_true rfl) (by decide) (by decide) (c_Mod_readLineOf h608 hI610 v6 v6Z v6E o612 o612Z o612E o612K o613 o613Z o613E o613K x xZ xE (kn_call fh608 K598 rfl) y yZ yE (kn_call fh608 K599 rfl) z474 z474Z z474E (kn_call fh608 K600 rfl) (by omega) (by omega) (by omega) (by omega) (by omega)) (fun h618 p619 => ?_)
              obtain ⟨hI620, fh618, o622, o622Z, o622E, o622K, o623, o623Z, o623E, o623K, o624, o624Z, o624E, o624K, o625, o625Z, o625E, o625K, o626, o626Z, o626E, o626K, p619⟩ := p619
              have f621 : fr S_Mod_readLine h h618 := fr_call f611 fh618 rfl
              have g627 : 0 ≤ o622Z ∧ o622Z ≤ 160 := inv_at hI620 o622E o622K.symm rfl
              have g628 : 0 ≤ o625Z ∧ o625Z ≤ 4 := inv_at hI620 o625E o625K.symm rfl
              have g629 : 0 ≤ o626Z ∧ o626Z ≤ 4 := inv_at hI620 o626E o626K.symm rfl
              refine V_aload_n 0 d_Mod_readLine_124 rfl rfl ?_
              refine N_getK fa_Mod_102 sk_116 rfl d_Mod_readLine_125 o623K ?_
              refine V_if_ne 149 o623E d_Mod_readLine_128 (by decide) (fun c630 => ?_) (fun c630 => ?_)
              ·
                refine V_aload_n 0 d_Mod_readLine_149 rfl rfl ?_
                refine N_callVV [] [] cv_Mod_152 sk_116 rfl d_Mod_readLine_150 rfl (Nat.le_of_ble_eq_true rfl) (by decide) (by decide) (c_Mod_next h618 hI620 z605 z605Z z605E (kn_call fh618 (kn_call fh608 z605e.symm rfl) rfl) o622 o622Z o622E o622K o623 o623Z o623E o623K (by omega)) (fun h632 p633 => ?_)
                obtain ⟨hI634, fh632, o636, o636Z, o636E, o636K, o637, o637Z, o637E, o637K, o638, o638Z, o638E, o638K, p633⟩ := p633
                have f635 : fr S_Mod_readLine h h632 := fr_call f621 fh632 rfl
                have g639 : 0 ≤ o636Z ∧ o636Z ≤ 160 := inv_at hI634 o636E o636K.symm rfl
                exact V_vret rfl d_Mod_readLine_153 ⟨rfl, ⟨hI634, f635, o636, o636Z, o636E, o636K, o637, o637Z, o637E, o637K, o638, o638Z, o638E, o638K, o625, o625Z, o625E, (kn_call fh632 o625K rfl), o626, o626Z, o626E, (kn_call fh632 o626K rfl), (by omega)⟩⟩
              ·
                refine V_aload_n 0 d_Mod_readLine_131 rfl rfl ?_
                refine V_aload_n 0 d_Mod_readLine_132 rfl rfl ?_
                refine N_getK fa_Mod_130 sk_116 rfl d_Mod_readLine_133 o624K ?_
                refine V_iconst 3 d_Mod_readLine_136 (by decide) ?_
                refine V_icmp_ne 144 o624E tc_3 d_Mod_readLine_137 (by decide) (fun c640 => ?_) (fun c640 => ?_)
                ·
                  refine V_iconst 0 d_Mod_readLine_144 (by decide) ?_
                  refine V_iconst 2 d_Mod_readLine_145 (by decide) ?_
                  refine N_callVV [.int 0, .int 2] [] cv_Mod_144 sk_116 rfl d_Mod_readLine_146 rfl (Nat.le_of_ble_eq_true rfl) (by decide) (by decide) (c_Mod_needs h618 hI620 0 0 tc_0 2 2 tc_2 o623 o623Z o623E o623K) (fun h642 p643 => ?_)
                  obtain ⟨hI644, fh642, o646, o646Z, o646E, o646K, p643⟩ := p643
                  have f645 : fr S_Mod_readLine h h642 := fr_call f621 fh642 rfl
                  refine V_aload_n 0 d_Mod_readLine_149 rfl rfl ?_
                  refine N_callVV [] [] cv_Mod_152 sk_116 rfl d_Mod_readLine_150 rfl (Nat.le_of_ble_eq_true rfl) (by decide) (by decide) (c_Mod_next h642 hI644 z605 z605Z z605E (kn_call fh642 (kn_call fh618 (kn_call fh608 z605e.symm rfl) rfl) rfl) o622 o622Z o622E (kn_call fh642 o622K rfl) o646 o646Z o646E o646K (by omega)) (fun h648 p649 => ?_)
                  obtain ⟨hI650, fh648, o652, o652Z, o652E, o652K, o653, o653Z, o653E, o653K, o654, o654Z, o654E, o654K, p649⟩ := p649
                  have f651 : fr S_Mod_readLine h h648 := fr_call f645 fh648 rfl
                  have g655 : 0 ≤ o652Z ∧ o652Z ≤ 160 := inv_at hI650 o652E o652K.symm rfl
                  exact V_vret rfl d_Mod_readLine_153 ⟨rfl, ⟨hI650, f651, o652, o652Z, o652E, o652K, o653, o653Z, o653E, o653K, o654, o654Z, o654E, o654K, o625, o625Z, o625E, (kn_call fh648 (kn_call fh642 o625K rfl) rfl), o626, o626Z, o626E, (kn_call fh648 (kn_call fh642 o626K rfl) rfl), (by omega)⟩⟩
                ·
                  refine V_iconst 1 d_Mod_readLine_140 (by decide) ?_
                  refine V_goto 145 d_Mod_readLine_141 (by decide) ?_
                  refine V_iconst 2 d_Mod_readLine_145 (by decide) ?_
                  refine N_callVV [.int 1, .int 2] [] cv_Mod_144 sk_116 rfl d_Mod_readLine_146 rfl (Nat.le_of_ble_eq_true rfl) (by decide) (by decide) (c_Mod_needs h618 hI620 1 1 tc_1 2 2 tc_2 o623 o623Z o623E o623K) (fun h657 p658 => ?_)
                  obtain ⟨hI659, fh657, o661, o661Z, o661E, o661K, p658⟩ := p658
                  have f660 : fr S_Mod_readLine h h657 := fr_call f621 fh657 rfl
                  refine V_aload_n 0 d_Mod_readLine_149 rfl rfl ?_
                  refine N_callVV [] [] cv_Mod_152 sk_116 rfl d_Mod_readLine_150 rfl (Nat.le_of_ble_eq_true rfl) (by decide) (by decide) (c_Mod_next h657 hI659 z605 z605Z z605E (kn_call fh657 (kn_call fh618 (kn_call fh608 z605e.symm rfl) rfl) rfl) o622 o622Z o622E (kn_call fh657 o622K rfl) o661 o661Z o661E o661K (by omega)) (fun h663 p664 => ?_)
                  obtain ⟨hI665, fh663, o667, o667Z, o667E, o667K, o668, o668Z, o668E, o668K, o669, o669Z, o669E, o669K, p664⟩ := p664
                  have f666 : fr S_Mod_readLine h h663 := fr_call f660 fh663 rfl
                  have g670 : 0 ≤ o667Z ∧ o667Z ≤ 160 := inv_at hI665 o667E o667K.symm rfl
                  exact V_vret rfl d_Mod_readLine_153 ⟨rfl, ⟨hI665, f666, o667, o667Z, o667E, o667K, o668, o668Z, o668E, o668K, o669, o669Z, o669E, o669K, o625, o625Z, o625E, (kn_call fh663 (kn_call fh657 o625K rfl) rfl), o626, o626Z, o626E, (kn_call fh663 (kn_call fh657 o626K rfl) rfl), (by omega)⟩⟩
            ·
              exact V_vret rfl d_Mod_readLine_118 ⟨rfl, ⟨hI610, f611, o612, o612Z, o612E, o612K, o613, o613Z, o613E, o613K, o614, o614Z, o614E, o614K, x, xZ, xE, (kn_call fh608 K598 rfl), y, yZ, yE, (kn_call fh608 K599 rfl), (by omega)⟩⟩
          refine V_aload_n 0 d_Mod_readLine_62 rfl rfl ?_
          refine N_getK fa_Mod_102 sk_116 rfl d_Mod_readLine_63 o593K ?_
          refine V_if_ne 107 o593E d_Mod_readLine_66 (by decide) (fun c671 => ?_) (fun c671 => ?_)
          ·
            exact J594 h589 o593 o593Z hI591 f592 (kn_call fh589 (kn_call fh355 pK rfl) rfl) (kn_call fh589 (kn_call fh355 xK rfl) rfl) (kn_call fh589 (kn_call fh355 yK rfl) rfl) (kn_call fh589 z474e.symm rfl) o593E o593K (by omega) (by omega)
          ·
            refine V_iload_n 1 d_Mod_readLine_69 rfl rfl ?_
            refine V_iconst 3 d_Mod_readLine_70 (by decide) ?_
            refine V_icmp_gt 107 v6E tc_3 d_Mod_readLine_71 (by decide) (fun c672 => ?_) (fun c672 => ?_)
            ·
              exact J594 h589 o593 o593Z hI591 f592 (kn_call fh589 (kn_call fh355 pK rfl) rfl) (kn_call fh589 (kn_call fh355 xK rfl) rfl) (kn_call fh589 (kn_call fh355 yK rfl) rfl) (kn_call fh589 z474e.symm rfl) o593E o593K (by omega) (by omega)
            ·
              refine V_aload_n 0 d_Mod_readLine_74 rfl rfl ?_
              refine V_aload_n 0 d_Mod_readLine_75 rfl rfl ?_
              refine N_getI fa_Mod_75 sk_116 rfl d_Mod_readLine_76 (fun z673 z673Z z673E z673e => ?_)
              refine V_iload_n 1 d_Mod_readLine_79 rfl rfl ?_
              refine N_ishr d_Mod_readLine_80 (fun z674 z674Z z674E z674e => ?_)
              refine V_iconst 1 d_Mod_readLine_81 (by decide) ?_
              refine N_iand d_Mod_readLine_82 (fun z675 z675Z z675E z675e => ?_)
              refine V_if_ne 90 z675E d_Mod_readLine_83 (by decide) (fun c676 => ?_) (fun c676 => ?_)
              ·
                refine V_iconst 0 d_Mod_readLine_90 (by decide) ?_
                refine V_iconst 4 d_Mod_readLine_91 (by decide) ?_
                refine N_callVV [.int 0, .int 4] [] cv_Mod_144 sk_116 rfl d_Mod_readLine_92 rfl (Nat.le_of_ble_eq_true rfl) (by decide) (by decide) (c_Mod_needs h589 hI591 0 0 tc_0 4 4 tc_4 o593 o593Z o593E o593K) (fun h678 p679 => ?_)
                obtain ⟨hI680, fh678, o682, o682Z, o682E, o682K, p679⟩ := p679
                have f681 : fr S_Mod_readLine h h678 := fr_call f592 fh678 rfl
                refine V_aload_n 0 d_Mod_readLine_95 rfl rfl ?_
                refine V_dup d_Mod_readLine_96 rfl ?_
                refine N_getK fa_Mod_75 sk_116 rfl d_Mod_readLine_97 (kn_call fh678 z673e.symm rfl) ?_
                refine V_iconst 1 d_Mod_readLine_100 (by decide) ?_
                refine V_iload_n 1 d_Mod_readLine_101 rfl rfl ?_
                refine N_ishl d_Mod_readLine_102 (fun z683 z683Z z683E z683e => ?_)
                refine N_ior d_Mod_readLine_103 (fun z684 z684Z z684E z684e => ?_)
                refine N_putI fp_Mod_75 sk_116 rfl d_Mod_readLine_104 (fun h685 eh685 => ?_)
                have hI686 : Inv h685 := inv_full hI680 eh685 rfl
                have f687 : fr S_Mod_readLine h h685 := fr_put f681 eh685 rfl
                exact J594 h685 o682 o682Z hI686 f687 (kn_nei eh685 (kn_call fh678 (kn_call fh589 (kn_call fh355 pK rfl) rfl) rfl) (by decide)) (kn_nei eh685 (kn_call fh678 (kn_call fh589 (kn_call fh355 xK rfl) rfl) rfl) (by decide)) (kn_nei eh685 (kn_call fh678 (kn_call fh589 (kn_call fh355 yK rfl) rfl) rfl) (by decide)) (kn_ne eh685 (kn_call fh678 (kn_call fh589 z474e.symm rfl) rfl) (by decide)) o682E (kn_nei eh685 o682K (by decide)) (by omega) (by omega)
              ·
                refine V_iconst 1 d_Mod_readLine_86 (by decide) ?_
                refine V_goto 91 d_Mod_readLine_87 (by decide) ?_
                refine V_iconst 4 d_Mod_readLine_91 (by decide) ?_
                refine N_callVV [.int 1, .int 4] [] cv_Mod_144 sk_116 rfl d_Mod_readLine_92 rfl (Nat.le_of_ble_eq_true rfl) (by decide) (by decide) (c_Mod_needs h589 hI591 1 1 tc_1 4 4 tc_4 o593 o593Z o593E o593K) (fun h689 p690 => ?_)
                obtain ⟨hI691, fh689, o693, o693Z, o693E, o693K, p690⟩ := p690
                have f692 : fr S_Mod_readLine h h689 := fr_call f592 fh689 rfl
                refine V_aload_n 0 d_Mod_readLine_95 rfl rfl ?_
                refine V_dup d_Mod_readLine_96 rfl ?_
                refine N_getK fa_Mod_75 sk_116 rfl d_Mod_readLine_97 (kn_call fh689 z673e.symm rfl) ?_
                refine V_iconst 1 d_Mod_readLine_100 (by decide) ?_
                refine V_iload_n 1 d_Mod_readLine_101 rfl rfl ?_
                refine N_ishl d_Mod_readLine_102 (fun z694 z694Z z694E z694e => ?_)
                refine N_ior d_Mod_readLine_103 (fun z695 z695Z z695E z695e => ?_)
                refine N_putI fp_Mod_75 sk_116 rfl d_Mod_readLine_104 (fun h696 eh696 => ?_)
                have hI697 : Inv h696 := inv_full hI691 eh696 rfl
                have f698 : fr S_Mod_readLine h h696 := fr_put f692 eh696 rfl
                exact J594 h696 o693 o693Z hI697 f698 (kn_nei eh696 (kn_call fh689 (kn_call fh589 (kn_call fh355 pK rfl) rfl) rfl) (by decide)) (kn_nei eh696 (kn_call fh689 (kn_call fh589 (kn_call fh355 xK rfl) rfl) rfl) (by decide)) (kn_nei eh696 (kn_call fh689 (kn_call fh589 (kn_call fh355 yK rfl) rfl) rfl) (by decide)) (kn_ne eh696 (kn_call fh689 (kn_call fh589 z474e.symm rfl) rfl) (by decide)) o693E (kn_nei eh696 o693K (by decide)) (by omega) (by omega)
  refine V_aload_n 0 d_Mod_readLine_0 rfl rfl ?_
  refine N_getI fa_Mod_130 sk_116 rfl d_Mod_readLine_1 (fun z699 z699Z z699E z699e => ?_)
  refine V_iconst 1 d_Mod_readLine_4 (by decide) ?_
  refine V_icmp_ne 15 z699E tc_1 d_Mod_readLine_5 (by decide) (fun c700 => ?_) (fun c700 => ?_)
  ·
    refine V_bipush (-4) d_Mod_readLine_15 (by decide) ?_
    refine V_istore_n 1 [some (.ref 116), some (.int (-4))] d_Mod_readLine_17 rfl (by decide) rfl rfl ?_
    exact J4 (-4) ((-4)) tc_m4 (by omega)
  ·
    refine V_aload_n 0 d_Mod_readLine_8 rfl rfl ?_
    refine N_callVI [] [] cv_Mod_174 sk_116 rfl d_Mod_readLine_9 rfl (Nat.le_of_ble_eq_true rfl) (by decide) (by decide) (c_Mod_lineNow h hI) (fun z701 h702 z701Z z701E p703 => ?_)
    obtain ⟨eh702, p703⟩ := p703
    subst eh702
    refine V_goto 17 d_Mod_readLine_12 (by decide) ?_
    refine V_istore_n 1 [some (.ref 116), some (.int z701)] d_Mod_readLine_17 rfl (by decide) rfl rfl ?_
    exact J4 z701 z701Z z701E (by omega)
theorem d_Mod_text_0 : decode b_Mod_text 0 = .ok (.iconst 0, 1) := by decide +kernel
theorem d_Mod_text_1 : decode b_Mod_text 1 = .ok (.istore_n 1, 1) := by decide +kernel
theorem d_Mod_text_2 : decode b_Mod_text 2 = .ok (.aload_n 0, 1) := by decide +kernel
theorem d_Mod_text_3 : decode b_Mod_text 3 = .ok (.iconst 0, 1) := by decide +kernel
theorem d_Mod_text_4 : decode b_Mod_text 4 = .ok (.putfield 102, 3) := by decide +kernel
theorem d_Mod_text_7 : decode b_Mod_text 7 = .ok (.aload_n 0, 1) := by decide +kernel
theorem d_Mod_text_8 : decode b_Mod_text 8 = .ok (.iconst 0, 1) := by decide +kernel
theorem d_Mod_text_9 : decode b_Mod_text 9 = .ok (.putfield 111, 3) := by decide +kernel
theorem d_Mod_text_12 : decode b_Mod_text 12 = .ok (.aload_n 0, 1) := by decide +kernel
theorem d_Mod_text_13 : decode b_Mod_text 13 = .ok (.invokevirtual 56, 3) := by decide +kernel
theorem d_Mod_text_16 : decode b_Mod_text 16 = .ok (.aload_n 0, 1) := by decide +kernel
theorem d_Mod_text_17 : decode b_Mod_text 17 = .ok (.invokevirtual 152, 3) := by decide +kernel
theorem d_Mod_text_20 : decode b_Mod_text 20 = .ok (.aload_n 0, 1) := by decide +kernel
theorem d_Mod_text_21 : decode b_Mod_text 21 = .ok (.getfield 102, 3) := by decide +kernel
theorem d_Mod_text_24 : decode b_Mod_text 24 = .ok (.ifCond .ne 20, 3) := by decide +kernel
theorem d_Mod_text_27 : decode b_Mod_text 27 = .ok (.aload_n 0, 1) := by decide +kernel
theorem d_Mod_text_28 : decode b_Mod_text 28 = .ok (.getfield 130, 3) := by decide +kernel
theorem d_Mod_text_31 : decode b_Mod_text 31 = .ok (.ifCond .eq 13, 3) := by decide +kernel
theorem d_Mod_text_34 : decode b_Mod_text 34 = .ok (.aload_n 0, 1) := by decide +kernel
theorem d_Mod_text_35 : decode b_Mod_text 35 = .ok (.invokevirtual 180, 3) := by decide +kernel
theorem d_Mod_text_38 : decode b_Mod_text 38 = .ok (.iinc 1 1, 3) := by decide +kernel
theorem d_Mod_text_41 : decode b_Mod_text 41 = .ok (.goto (-21), 3) := by decide +kernel
theorem d_Mod_text_44 : decode b_Mod_text 44 = .ok (.aload_n 0, 1) := by decide +kernel
theorem d_Mod_text_45 : decode b_Mod_text 45 = .ok (.getfield 102, 3) := by decide +kernel
theorem d_Mod_text_48 : decode b_Mod_text 48 = .ok (.ifCond .ne 30, 3) := by decide +kernel
theorem d_Mod_text_51 : decode b_Mod_text 51 = .ok (.aload_n 0, 1) := by decide +kernel
theorem d_Mod_text_52 : decode b_Mod_text 52 = .ok (.aload_n 0, 1) := by decide +kernel
theorem d_Mod_text_53 : decode b_Mod_text 53 = .ok (.getfield 78, 3) := by decide +kernel
theorem d_Mod_text_56 : decode b_Mod_text 56 = .ok (.aload_n 0, 1) := by decide +kernel
theorem d_Mod_text_57 : decode b_Mod_text 57 = .ok (.getfield 62, 3) := by decide +kernel
theorem d_Mod_text_60 : decode b_Mod_text 60 = .ok (.aload_n 0, 1) := by decide +kernel
theorem d_Mod_text_61 : decode b_Mod_text 61 = .ok (.getfield 66, 3) := by decide +kernel
theorem d_Mod_text_64 : decode b_Mod_text 64 = .ok (.imul, 1) := by decide +kernel
theorem d_Mod_text_65 : decode b_Mod_text 65 = .ok (.if_icmp .ge 7, 3) := by decide +kernel
theorem d_Mod_text_68 : decode b_Mod_text 68 = .ok (.iconst 1, 1) := by decide +kernel
theorem d_Mod_text_69 : decode b_Mod_text 69 = .ok (.goto 4, 3) := by decide +kernel
theorem d_Mod_text_72 : decode b_Mod_text 72 = .ok (.iconst 0, 1) := by decide +kernel
theorem d_Mod_text_73 : decode b_Mod_text 73 = .ok (.bipush 6, 2) := by decide +kernel
theorem d_Mod_text_75 : decode b_Mod_text 75 = .ok (.invokevirtual 144, 3) := by decide +kernel
theorem d_Mod_text_78 : decode b_Mod_text 78 = .ok (.aload_n 0, 1) := by decide +kernel
theorem d_Mod_text_79 : decode b_Mod_text 79 = .ok (.iconst 0, 1) := by decide +kernel
theorem d_Mod_text_80 : decode b_Mod_text 80 = .ok (.putfield 99, 3) := by decide +kernel
theorem d_Mod_text_83 : decode b_Mod_text 83 = .ok (.aload_n 0, 1) := by decide +kernel
theorem d_Mod_text_84 : decode b_Mod_text 84 = .ok (.getfield 102, 3) := by decide +kernel
theorem d_Mod_text_87 : decode b_Mod_text 87 = .ok (.ifCond .le 11, 3) := by decide +kernel
theorem d_Mod_text_90 : decode b_Mod_text 90 = .ok (.bipush (-10), 2) := by decide +kernel
theorem d_Mod_text_92 : decode b_Mod_text 92 = .ok (.aload_n 0, 1) := by decide +kernel
theorem d_Mod_text_93 : decode b_Mod_text 93 = .ok (.getfield 108, 3) := by decide +kernel
theorem d_Mod_text_96 : decode b_Mod_text 96 = .ok (.isub, 1) := by decide +kernel
theorem d_Mod_text_97 : decode b_Mod_text 97 = .ok (.ireturn, 1) := by decide +kernel
theorem d_Mod_text_98 : decode b_Mod_text 98 = .ok (.aload_n 0, 1) := by decide +kernel
theorem d_Mod_text_99 : decode b_Mod_text 99 = .ok (.invokevirtual 59, 3) := by decide +kernel
theorem d_Mod_text_102 : decode b_Mod_text 102 = .ok (.iload_n 1, 1) := by decide +kernel
theorem d_Mod_text_103 : decode b_Mod_text 103 = .ok (.ireturn, 1) := by decide +kernel
def S_Mod_text : List (Nat × Option Nat) := [(117, none), (118, none), (116, some 16), (116, some 17), (116, some 18), (116, some 19), (116, some 20), (116, some 21), (119, none), (120, none), (116, some 13), (116, some 7), (116, some 8), (116, some 9), (116, some 10), (116, some 11), (116, some 15), (116, some 2), (116, some 3), (116, some 4), (116, some 5)]
abbrev q_Mod_text (h : Hp)  : Option Value → Hp → Prop := pInt (fun r h' => Inv h' ∧ fr S_Mod_text h h' ∧ ∃ (v : Int32) (vZ : Int), v.toInt = vZ ∧ h'.1 116 15 = v ∧ (vZ = 0))
set_option maxRecDepth 100000 in
theorem c_Mod_text (h : Hp) (hI : Inv h) : Ct y_Mod_text b_Mod_text 2 (some .int) 6 137 [.ref 116] h (q_Mod_text h ) := by
  refine ct_ow R_Mod [some (.ref 116), none] rfl (by decide) rfl (Nat.le_of_ble_eq_true rfl) ?_
  have f0 : fr S_Mod_text h h := fr_rf
  refine V_iconst 0 d_Mod_text_0 (by decide) ?_
  refine V_istore_n 1 [some (.ref 116), some (.int 0)] d_Mod_text_1 rfl (by decide) rfl rfl ?_
  refine V_aload_n 0 d_Mod_text_2 rfl rfl ?_
  refine V_iconst 0 d_Mod_text_3 (by decide) ?_
  refine N_putI fp_Mod_102 sk_116 rfl d_Mod_text_4 (fun h1 eh1 => ?_)
  have hI2 : Inv h1 := inv_full hI eh1 rfl
  have f3 : fr S_Mod_text h h1 := fr_put f0 eh1 rfl
  refine V_aload_n 0 d_Mod_text_7 rfl rfl ?_
  refine V_iconst 0 d_Mod_text_8 (by decide) ?_
  refine N_putI fp_Mod_111 sk_116 rfl d_Mod_text_9 (fun h4 eh4 => ?_)
  have hI5 : Inv h4 := inv_put (lo := 0) (hi := 160) hI2 eh4 rfl tc_0 (by omega)
  have f6 : fr S_Mod_text h h4 := fr_put f3 eh4 rfl
  refine V_aload_n 0 d_Mod_text_12 rfl rfl ?_
  refine N_callVV [] [] cv_Mod_56 sk_116 rfl d_Mod_text_13 rfl (Nat.le_of_ble_eq_true rfl) (by decide) (by decide) (c_Mod_firstDraft h4 hI5) (fun h8 p9 => ?_)
  obtain ⟨hI10, fh8, o12, o12Z, o12E, o12K, o13, o13Z, o13E, o13K, p9⟩ := p9
  have f11 : fr S_Mod_text h h8 := fr_call f6 fh8 rfl
  have g14 : 0 ≤ o12Z ∧ o12Z ≤ 4 := inv_at hI10 o12E o12K.symm rfl
  have g15 : 0 ≤ o13Z ∧ o13Z ≤ 4 := inv_at hI10 o13E o13K.symm rfl
  refine V_aload_n 0 d_Mod_text_16 rfl rfl ?_
  obtain ⟨z16, z16Z, z16E, z16e⟩ : ∃ (y : Int32) (Y : Int), y.toInt = Y ∧ y = h8.1 116 15 := ⟨_, _, rfl, rfl⟩
  have g17 : 0 ≤ z16Z ∧ z16Z ≤ 160 := inv_at hI10 z16E z16e rfl
  refine N_callVV [] [] cv_Mod_152 sk_116 rfl d_Mod_text_17 rfl (Nat.le_of_ble_eq_true rfl) (by decide) (by decide) (c_Mod_next h8 hI10 z16 z16Z z16E z16e.symm 0 0 tc_0 (kn_call fh8 (kn_put eh4) rfl) 0 0 tc_0 (kn_call fh8 (kn_nei eh4 (kn_put eh1) (by decide)) rfl) (by omega)) (fun h19 p20 => ?_)
  obtain ⟨hI21, fh19, o23, o23Z, o23E, o23K, o24, o24Z, o24E, o24K, o25, o25Z, o25E, o25K, p20⟩ := p20
  have f22 : fr S_Mod_text h h19 := fr_call f11 fh19 rfl
  have g26 : 0 ≤ o23Z ∧ o23Z ≤ 160 := inv_at hI21 o23E o23K.symm rfl
  have L27 : ∀ (nn : Nat) (v29 : Int32) (v29Z : Int) (h30 : Hp) (v31 : Int32) (v31Z : Int) (v33 : Int32) (v33Z : Int) (v35 : Int32) (v35Z : Int) (v37 : Int32) (v37Z : Int) (v39 : Int32) (v39Z : Int), v29.toInt = v29Z → Inv h30 → fr S_Mod_text h h30 → v31.toInt = v31Z → h30.1 116 16 = v31 → v33.toInt = v33Z → h30.1 116 20 = v33 → v35.toInt = v35Z → h30.1 116 18 = v35 → v37.toInt = v37Z → h30.1 116 7 = v37 → v39.toInt = v39Z → h30.1 116 8 = v39 → 0 ≤ v31Z ∧ v31Z ≤ 160 → 0 ≤ v33Z → (v33Z ≠ 0 ∨ 2 ≤ v37Z ∧ v37Z ≤ 4 ∧ 2 ≤ v39Z ∧ v39Z ≤ 4) → 0 ≤ zc v33Z ∧ zc v33Z ≤ 1 → 2 * (160 - v31Z) + zc v33Z < (nn : Int) → V R_Mod b_Mod_text 2 (some .int) 6 137 (q_Mod_text h ) h30 20 [some (.ref 116), some (.int v29)] [] := by
    intro nn
    induction nn with
    | zero => intro v29 v29Z h30 v31 v31Z v33 v33Z v35 v35Z v37 v37Z v39 v39Z v29E Ih30 Fh30 v31E K32 v33E K34 v35E K36 v37E K38 v39E K40 q41 q42 q43 q44 hm45; exact absurd hm45 (by omega)
    | succ nn ihL27 =>
      intro v29 v29Z h30 v31 v31Z v33 v33Z v35 v35Z v37 v37Z v39 v39Z v29E Ih30 Fh30 v31E K32 v33E K34 v35E K36 v37E K38 v39E K40 q41 q42 q43 q44 hm45
      have g46 : 0 ≤ v31Z ∧ v31Z ≤ 160 := inv_at Ih30 v31E K32.symm rfl
      have g47 : 0 ≤ v37Z ∧ v37Z ≤ 4 := inv_at Ih30 v37E K38.symm rfl
      have g48 : 0 ≤ v39Z ∧ v39Z ≤ 4 := inv_at Ih30 v39E K40.symm rfl
      refine V_aload_n 0 d_Mod_text_20 rfl rfl ?_
      refine N_getK fa_Mod_102 sk_116 rfl d_Mod_text_21 K34 ?_
      refine V_if_ne 44 v33E d_Mod_text_24 (by decide) (fun c49 => ?_) (fun c49 => ?_)
      ·
        refine V_aload_n 0 d_Mod_text_44 rfl rfl ?_
        refine N_getK fa_Mod_102 sk_116 rfl d_Mod_text_45 K34 ?_
        refine V_if_ne 78 v33E d_Mod_text_48 (by decide) (fun c50 => ?_) (fun c50 => ?_)
        ·
          refine V_aload_n 0 d_Mod_text_78 rfl rfl ?_
          refine V_iconst 0 d_Mod_text_79 (by decide) ?_
          refine N_putI fp_Mod_99 sk_116 rfl d_Mod_text_80 (fun h51 eh51 => ?_)
          have hI52 : Inv h51 := inv_put (lo := 0) (hi := 160) Ih30 eh51 rfl tc_0 (by omega)
          have f53 : fr S_Mod_text h h51 := fr_put Fh30 eh51 rfl
          refine V_aload_n 0 d_Mod_text_83 rfl rfl ?_
          refine N_getK fa_Mod_102 sk_116 rfl d_Mod_text_84 (kn_nei eh51 K34 (by decide)) ?_
          refine V_if_le 98 v33E d_Mod_text_87 (by decide) (fun c54 => ?_) (fun c54 => ?_)
          ·
            refine V_aload_n 0 d_Mod_text_98 rfl rfl ?_
            refine N_callVV [] [] cv_Mod_59 sk_116 rfl d_Mod_text_99 rfl (Nat.le_of_ble_eq_true rfl) (by decide) (by decide) (c_Mod_keepDraft h51 hI52 v37 v37Z v37E (kn_nei eh51 K38 (by decide)) v39 v39Z v39E (kn_nei eh51 K40 (by decide)) (by omega)) (fun h56 p57 => ?_)
            obtain ⟨hI58, fh56⟩ := p57
            have f59 : fr S_Mod_text h h56 := fr_call f53 fh56 rfl
            refine V_iload_n 1 d_Mod_text_102 rfl rfl ?_
            exact V_iret rfl d_Mod_text_103 ⟨v29, rfl, ⟨hI58, f59, 0, 0, tc_0, (kn_call fh56 (kn_put eh51) rfl), (by (try rw [v29E]); omega)⟩⟩
          ·
            refine V_bipush (-10) d_Mod_text_90 (by decide) ?_
            refine V_aload_n 0 d_Mod_text_92 rfl rfl ?_
            refine N_getI fa_Mod_108 sk_116 rfl d_Mod_text_93 (fun z60 z60Z z60E z60e => ?_)
            refine N_isubw d_Mod_text_96 (fun z61 z61Z z61E z61e => ?_)
            exact V_iret rfl d_Mod_text_97 ⟨z61, rfl, ⟨hI52, f53, 0, 0, tc_0, (kn_put eh51), (by (try rw [z61E]); omega)⟩⟩
        ·
          refine V_aload_n 0 d_Mod_text_51 rfl rfl ?_
          refine V_aload_n 0 d_Mod_text_52 rfl rfl ?_
          refine N_getI fa_Mod_78 sk_116 rfl d_Mod_text_53 (fun z62 z62Z z62E z62e => ?_)
          refine V_aload_n 0 d_Mod_text_56 rfl rfl ?_
          refine N_getK fa_Mod_62 sk_116 rfl d_Mod_text_57 K38 ?_
          refine V_aload_n 0 d_Mod_text_60 rfl rfl ?_
          refine N_getK fa_Mod_66 sk_116 rfl d_Mod_text_61 K40 ?_
          refine N_imulw d_Mod_text_64 (fun z63 z63Z z63E z63e => ?_)
          refine V_icmp_ge 72 z62E z63E d_Mod_text_65 (by decide) (fun c64 => ?_) (fun c64 => ?_)
          ·
            refine V_iconst 0 d_Mod_text_72 (by decide) ?_
            refine V_bipush 6 d_Mod_text_73 (by decide) ?_
            refine N_callVV [.int 0, .int 6] [] cv_Mod_144 sk_116 rfl d_Mod_text_75 rfl (Nat.le_of_ble_eq_true rfl) (by decide) (by decide) (c_Mod_needs h30 Ih30 0 0 tc_0 6 6 tc_6 v33 v33Z v33E K34) (fun h66 p67 => ?_)
            obtain ⟨hI68, fh66, o70, o70Z, o70E, o70K, p67⟩ := p67
            have f69 : fr S_Mod_text h h66 := fr_call Fh30 fh66 rfl
            refine V_aload_n 0 d_Mod_text_78 rfl rfl ?_
            refine V_iconst 0 d_Mod_text_79 (by decide) ?_
            refine N_putI fp_Mod_99 sk_116 rfl d_Mod_text_80 (fun h71 eh71 => ?_)
            have hI72 : Inv h71 := inv_put (lo := 0) (hi := 160) hI68 eh71 rfl tc_0 (by omega)
            have f73 : fr S_Mod_text h h71 := fr_put f69 eh71 rfl
            refine V_aload_n 0 d_Mod_text_83 rfl rfl ?_
            refine N_getK fa_Mod_102 sk_116 rfl d_Mod_text_84 (kn_nei eh71 o70K (by decide)) ?_
            refine V_if_le 98 o70E d_Mod_text_87 (by decide) (fun c74 => ?_) (fun c74 => ?_)
            ·
              refine V_aload_n 0 d_Mod_text_98 rfl rfl ?_
              refine N_callVV [] [] cv_Mod_59 sk_116 rfl d_Mod_text_99 rfl (Nat.le_of_ble_eq_true rfl) (by decide) (by decide) (c_Mod_keepDraft h71 hI72 v37 v37Z v37E (kn_nei eh71 (kn_call fh66 K38 rfl) (by decide)) v39 v39Z v39E (kn_nei eh71 (kn_call fh66 K40 rfl) (by decide)) (by omega)) (fun h76 p77 => ?_)
              obtain ⟨hI78, fh76⟩ := p77
              have f79 : fr S_Mod_text h h76 := fr_call f73 fh76 rfl
              refine V_iload_n 1 d_Mod_text_102 rfl rfl ?_
              exact V_iret rfl d_Mod_text_103 ⟨v29, rfl, ⟨hI78, f79, 0, 0, tc_0, (kn_call fh76 (kn_put eh71) rfl), (by (try rw [v29E]); omega)⟩⟩
            ·
              refine V_bipush (-10) d_Mod_text_90 (by decide) ?_
              refine V_aload_n 0 d_Mod_text_92 rfl rfl ?_
              refine N_getI fa_Mod_108 sk_116 rfl d_Mod_text_93 (fun z80 z80Z z80E z80e => ?_)
              refine N_isubw d_Mod_text_96 (fun z81 z81Z z81E z81e => ?_)
              exact V_iret rfl d_Mod_text_97 ⟨z81, rfl, ⟨hI72, f73, 0, 0, tc_0, (kn_put eh71), (by (try rw [z81E]); omega)⟩⟩
          ·
            refine V_iconst 1 d_Mod_text_68 (by decide) ?_
            refine V_goto 73 d_Mod_text_69 (by decide) ?_
            refine V_bipush 6 d_Mod_text_73 (by decide) ?_
            refine N_callVV [.int 1, .int 6] [] cv_Mod_144 sk_116 rfl d_Mod_text_75 rfl (Nat.le_of_ble_eq_true rfl) (by decide) (by decide) (c_Mod_needs h30 Ih30 1 1 tc_1 6 6 tc_6 v33 v33Z v33E K34) (fun h83 p84 => ?_)
            obtain ⟨hI85, fh83, o87, o87Z, o87E, o87K, p84⟩ := p84
            have f86 : fr S_Mod_text h h83 := fr_call Fh30 fh83 rfl
            refine V_aload_n 0 d_Mod_text_78 rfl rfl ?_
            refine V_iconst 0 d_Mod_text_79 (by decide) ?_
            refine N_putI fp_Mod_99 sk_116 rfl d_Mod_text_80 (fun h88 eh88 => ?_)
            have hI89 : Inv h88 := inv_put (lo := 0) (hi := 160) hI85 eh88 rfl tc_0 (by omega)
            have f90 : fr S_Mod_text h h88 := fr_put f86 eh88 rfl
            refine V_aload_n 0 d_Mod_text_83 rfl rfl ?_
            refine N_getK fa_Mod_102 sk_116 rfl d_Mod_text_84 (kn_nei eh88 o87K (by decide)) ?_
            refine V_if_le 98 o87E d_Mod_text_87 (by decide) (fun c91 => ?_) (fun c91 => ?_)
            ·
              refine V_aload_n 0 d_Mod_text_98 rfl rfl ?_
              refine N_callVV [] [] cv_Mod_59 sk_116 rfl d_Mod_text_99 rfl (Nat.le_of_ble_eq_true rfl) (by decide) (by decide) (c_Mod_keepDraft h88 hI89 v37 v37Z v37E (kn_nei eh88 (kn_call fh83 K38 rfl) (by decide)) v39 v39Z v39E (kn_nei eh88 (kn_call fh83 K40 rfl) (by decide)) (by omega)) (fun h93 p94 => ?_)
              obtain ⟨hI95, fh93⟩ := p94
              have f96 : fr S_Mod_text h h93 := fr_call f90 fh93 rfl
              refine V_iload_n 1 d_Mod_text_102 rfl rfl ?_
              exact V_iret rfl d_Mod_text_103 ⟨v29, rfl, ⟨hI95, f96, 0, 0, tc_0, (kn_call fh93 (kn_put eh88) rfl), (by (try rw [v29E]); omega)⟩⟩
            ·
              refine V_bipush (-10) d_Mod_text_90 (by decide) ?_
              refine V_aload_n 0 d_Mod_text_92 rfl rfl ?_
              refine N_getI fa_Mod_108 sk_116 rfl d_Mod_text_93 (fun z97 z97Z z97E z97e => ?_)
              refine N_isubw d_Mod_text_96 (fun z98 z98Z z98E z98e => ?_)
              exact V_iret rfl d_Mod_text_97 ⟨z98, rfl, ⟨hI89, f90, 0, 0, tc_0, (kn_put eh88), (by (try rw [z98E]); omega)⟩⟩
      ·
        refine V_aload_n 0 d_Mod_text_27 rfl rfl ?_
        refine N_getK fa_Mod_130 sk_116 rfl d_Mod_text_28 K36 ?_
        refine V_if_eq 44 v35E d_Mod_text_31 (by decide) (fun c99 => ?_) (fun c99 => ?_)
        ·
          refine V_aload_n 0 d_Mod_text_44 rfl rfl ?_
          refine N_getK fa_Mod_102 sk_116 rfl d_Mod_text_45 K34 ?_
          refine V_if_ne 78 v33E d_Mod_text_48 (by decide) (fun c100 => ?_) (fun c100 => ?_)
          ·
            refine V_aload_n 0 d_Mod_text_78 rfl rfl ?_
            refine V_iconst 0 d_Mod_text_79 (by decide) ?_
            refine N_putI fp_Mod_99 sk_116 rfl d_Mod_text_80 (fun h101 eh101 => ?_)
            have hI102 : Inv h101 := inv_put (lo := 0) (hi := 160) Ih30 eh101 rfl tc_0 (by omega)
            have f103 : fr S_Mod_text h h101 := fr_put Fh30 eh101 rfl
            refine V_aload_n 0 d_Mod_text_83 rfl rfl ?_
            refine N_getK fa_Mod_102 sk_116 rfl d_Mod_text_84 (kn_nei eh101 K34 (by decide)) ?_
            refine V_if_le 98 v33E d_Mod_text_87 (by decide) (fun c104 => ?_) (fun c104 => ?_)
            ·
              refine V_aload_n 0 d_Mod_text_98 rfl rfl ?_
              refine N_callVV [] [] cv_Mod_59 sk_116 rfl d_Mod_text_99 rfl (Nat.le_of_ble_eq_true rfl) (by decide) (by decide) (c_Mod_keepDraft h101 hI102 v37 v37Z v37E (kn_nei eh101 K38 (by decide)) v39 v39Z v39E (kn_nei eh101 K40 (by decide)) (by omega)) (fun h106 p107 => ?_)
              obtain ⟨hI108, fh106⟩ := p107
              have f109 : fr S_Mod_text h h106 := fr_call f103 fh106 rfl
              refine V_iload_n 1 d_Mod_text_102 rfl rfl ?_
              exact V_iret rfl d_Mod_text_103 ⟨v29, rfl, ⟨hI108, f109, 0, 0, tc_0, (kn_call fh106 (kn_put eh101) rfl), (by (try rw [v29E]); omega)⟩⟩
            ·
              refine V_bipush (-10) d_Mod_text_90 (by decide) ?_
              refine V_aload_n 0 d_Mod_text_92 rfl rfl ?_
              refine N_getI fa_Mod_108 sk_116 rfl d_Mod_text_93 (fun z110 z110Z z110E z110e => ?_)
              refine N_isubw d_Mod_text_96 (fun z111 z111Z z111E z111e => ?_)
              exact V_iret rfl d_Mod_text_97 ⟨z111, rfl, ⟨hI102, f103, 0, 0, tc_0, (kn_put eh101), (by (try rw [z111E]); omega)⟩⟩
          ·
            refine V_aload_n 0 d_Mod_text_51 rfl rfl ?_
            refine V_aload_n 0 d_Mod_text_52 rfl rfl ?_
            refine N_getI fa_Mod_78 sk_116 rfl d_Mod_text_53 (fun z112 z112Z z112E z112e => ?_)
            refine V_aload_n 0 d_Mod_text_56 rfl rfl ?_
            refine N_getK fa_Mod_62 sk_116 rfl d_Mod_text_57 K38 ?_
            refine V_aload_n 0 d_Mod_text_60 rfl rfl ?_
            refine N_getK fa_Mod_66 sk_116 rfl d_Mod_text_61 K40 ?_
            refine N_imulw d_Mod_text_64 (fun z113 z113Z z113E z113e => ?_)
            refine V_icmp_ge 72 z112E z113E d_Mod_text_65 (by decide) (fun c114 => ?_) (fun c114 => ?_)
            ·
              refine V_iconst 0 d_Mod_text_72 (by decide) ?_
              refine V_bipush 6 d_Mod_text_73 (by decide) ?_
              refine N_callVV [.int 0, .int 6] [] cv_Mod_144 sk_116 rfl d_Mod_text_75 rfl (Nat.le_of_ble_eq_true rfl) (by decide) (by decide) (c_Mod_needs h30 Ih30 0 0 tc_0 6 6 tc_6 v33 v33Z v33E K34) (fun h116 p117 => ?_)
              obtain ⟨hI118, fh116, o120, o120Z, o120E, o120K, p117⟩ := p117
              have f119 : fr S_Mod_text h h116 := fr_call Fh30 fh116 rfl
              refine V_aload_n 0 d_Mod_text_78 rfl rfl ?_
              refine V_iconst 0 d_Mod_text_79 (by decide) ?_
              refine N_putI fp_Mod_99 sk_116 rfl d_Mod_text_80 (fun h121 eh121 => ?_)
              have hI122 : Inv h121 := inv_put (lo := 0) (hi := 160) hI118 eh121 rfl tc_0 (by omega)
              have f123 : fr S_Mod_text h h121 := fr_put f119 eh121 rfl
              refine V_aload_n 0 d_Mod_text_83 rfl rfl ?_
              refine N_getK fa_Mod_102 sk_116 rfl d_Mod_text_84 (kn_nei eh121 o120K (by decide)) ?_
              refine V_if_le 98 o120E d_Mod_text_87 (by decide) (fun c124 => ?_) (fun c124 => ?_)
              ·
                refine V_aload_n 0 d_Mod_text_98 rfl rfl ?_
                refine N_callVV [] [] cv_Mod_59 sk_116 rfl d_Mod_text_99 rfl (Nat.le_of_ble_eq_true rfl) (by decide) (by decide) (c_Mod_keepDraft h121 hI122 v37 v37Z v37E (kn_nei eh121 (kn_call fh116 K38 rfl) (by decide)) v39 v39Z v39E (kn_nei eh121 (kn_call fh116 K40 rfl) (by decide)) (by omega)) (fun h126 p127 => ?_)
                obtain ⟨hI128, fh126⟩ := p127
                have f129 : fr S_Mod_text h h126 := fr_call f123 fh126 rfl
                refine V_iload_n 1 d_Mod_text_102 rfl rfl ?_
                exact V_iret rfl d_Mod_text_103 ⟨v29, rfl, ⟨hI128, f129, 0, 0, tc_0, (kn_call fh126 (kn_put eh121) rfl), (by (try rw [v29E]); omega)⟩⟩
              ·
                refine V_bipush (-10) d_Mod_text_90 (by decide) ?_
                refine V_aload_n 0 d_Mod_text_92 rfl rfl ?_
                refine N_getI fa_Mod_108 sk_116 rfl d_Mod_text_93 (fun z130 z130Z z130E z130e => ?_)
                refine N_isubw d_Mod_text_96 (fun z131 z131Z z131E z131e => ?_)
                exact V_iret rfl d_Mod_text_97 ⟨z131, rfl, ⟨hI122, f123, 0, 0, tc_0, (kn_put eh121), (by (try rw [z131E]); omega)⟩⟩
            ·
              refine V_iconst 1 d_Mod_text_68 (by decide) ?_
              refine V_goto 73 d_Mod_text_69 (by decide) ?_
              refine V_bipush 6 d_Mod_text_73 (by decide) ?_
              refine N_callVV [.int 1, .int 6] [] cv_Mod_144 sk_116 rfl d_Mod_text_75 rfl (Nat.le_of_ble_eq_true rfl) (by decide) (by decide) (c_Mod_needs h30 Ih30 1 1 tc_1 6 6 tc_6 v33 v33Z v33E K34) (fun h133 p134 => ?_)
              obtain ⟨hI135, fh133, o137, o137Z, o137E, o137K, p134⟩ := p134
              have f136 : fr S_Mod_text h h133 := fr_call Fh30 fh133 rfl
              refine V_aload_n 0 d_Mod_text_78 rfl rfl ?_
              refine V_iconst 0 d_Mod_text_79 (by decide) ?_
              refine N_putI fp_Mod_99 sk_116 rfl d_Mod_text_80 (fun h138 eh138 => ?_)
              have hI139 : Inv h138 := inv_put (lo := 0) (hi := 160) hI135 eh138 rfl tc_0 (by omega)
              have f140 : fr S_Mod_text h h138 := fr_put f136 eh138 rfl
              refine V_aload_n 0 d_Mod_text_83 rfl rfl ?_
              refine N_getK fa_Mod_102 sk_116 rfl d_Mod_text_84 (kn_nei eh138 o137K (by decide)) ?_
              refine V_if_le 98 o137E d_Mod_text_87 (by decide) (fun c141 => ?_) (fun c141 => ?_)
              ·
                refine V_aload_n 0 d_Mod_text_98 rfl rfl ?_
                refine N_callVV [] [] cv_Mod_59 sk_116 rfl d_Mod_text_99 rfl (Nat.le_of_ble_eq_true rfl) (by decide) (by decide) (c_Mod_keepDraft h138 hI139 v37 v37Z v37E (kn_nei eh138 (kn_call fh133 K38 rfl) (by decide)) v39 v39Z v39E (kn_nei eh138 (kn_call fh133 K40 rfl) (by decide)) (by omega)) (fun h143 p144 => ?_)
                obtain ⟨hI145, fh143⟩ := p144
                have f146 : fr S_Mod_text h h143 := fr_call f140 fh143 rfl
                refine V_iload_n 1 d_Mod_text_102 rfl rfl ?_
                exact V_iret rfl d_Mod_text_103 ⟨v29, rfl, ⟨hI145, f146, 0, 0, tc_0, (kn_call fh143 (kn_put eh138) rfl), (by (try rw [v29E]); omega)⟩⟩
              ·
                refine V_bipush (-10) d_Mod_text_90 (by decide) ?_
                refine V_aload_n 0 d_Mod_text_92 rfl rfl ?_
                refine N_getI fa_Mod_108 sk_116 rfl d_Mod_text_93 (fun z147 z147Z z147E z147e => ?_)
                refine N_isubw d_Mod_text_96 (fun z148 z148Z z148E z148e => ?_)
                exact V_iret rfl d_Mod_text_97 ⟨z148, rfl, ⟨hI139, f140, 0, 0, tc_0, (kn_put eh138), (by (try rw [z148E]); omega)⟩⟩
        ·
          have zn := zc_or v33Z
          refine V_aload_n 0 d_Mod_text_34 rfl rfl ?_
          refine N_callVV [] [] cv_Mod_180 sk_116 rfl d_Mod_text_35 rfl (Nat.le_of_ble_eq_true rfl) (by decide) (by decide) (c_Mod_readLine h30 Ih30 v31 v31Z v31E K32 v33 v33Z v33E K34 v37 v37Z v37E K38 v39 v39Z v39E K40 (by omega) (by omega)) (fun h150 p151 => ?_)
          obtain ⟨hI152, fh150, o154, o154Z, o154E, o154K, o155, o155Z, o155E, o155K, o156, o156Z, o156E, o156K, o157, o157Z, o157E, o157K, o158, o158Z, o158E, o158K, p151⟩ := p151
          have f153 : fr S_Mod_text h h150 := fr_call Fh30 fh150 rfl
          have g159 : 0 ≤ o154Z ∧ o154Z ≤ 160 := inv_at hI152 o154E o154K.symm rfl
          have g160 : 0 ≤ o157Z ∧ o157Z ≤ 4 := inv_at hI152 o157E o157K.symm rfl
          have g161 : 0 ≤ o158Z ∧ o158Z ≤ 4 := inv_at hI152 o158E o158K.symm rfl
          have zo := zc_or o155Z
          obtain ⟨z162, z162Z, z162E, z162e⟩ : ∃ (y : Int32) (Y : Int), y.toInt = Y ∧ y = v29 + Int32.ofInt 1 := ⟨_, _, rfl, rfl⟩
          refine V_iinc 1 [some (.ref 116), some (.int z162)] d_Mod_text_38 rfl z162e.symm (by decide) rfl rfl ?_
          refine V_goto 20 d_Mod_text_41 (by decide) ?_
          exact ihL27 z162 z162Z h150 o154 o154Z o155 o155Z o156 o156Z o157 o157Z o158 o158Z z162E hI152 f153 o154E o154K o155E o155K o156E o156K o157E o157K o158E o158K (by omega) (by omega) (by omega) (zc_b _) (by omega)
  exact L27 (Int.toNat ((2 * (160 - o23Z) + zc o24Z : Int) + 1)) 0 0 h19 o23 o23Z o24 o24Z o25 o25Z o12 o12Z o13 o13Z tc_0 hI21 f22 o23E o23K o24E o24K o25E o25K o12E (kn_call fh19 o12K rfl) o13E (kn_call fh19 o13K rfl) (by omega) (by omega) (by omega) (zc_b _) (by omega)
