section
theorem fa_Mod_17 : FA R_Mod 17 11 6 := ⟨_, _, _, rfl, i_Mod, by decide, vv_Gin (List.mem_append_right _ (List.mem_append_right _ (List.mem_append_right _ (List.mem_append_right _ (List.mem_append_left _ (List.mem_of_getElem? (i := 229) rfl)))))) rfl⟩
theorem fp_Mod_62 : FP R_Mod 62 11 7 .int := ⟨_, _, _, t_Mod, rfl, i_Mod, by decide, vv_Gin (List.mem_append_right _ (List.mem_append_right _ (List.mem_append_right _ (List.mem_append_right _ (List.mem_append_left _ (List.mem_of_getElem? (i := 230) rfl)))))) rfl, t_Mod_ok, n_Mod, rfl, t_Mod_ok 7 (by decide)⟩
theorem fp_Mod_66 : FP R_Mod 66 11 8 .int := ⟨_, _, _, t_Mod, rfl, i_Mod, by decide, vv_Gin (List.mem_append_right _ (List.mem_append_right _ (List.mem_append_right _ (List.mem_append_right _ (List.mem_append_left _ (List.mem_of_getElem? (i := 231) rfl)))))) rfl, t_Mod_ok, n_Mod, rfl, t_Mod_ok 8 (by decide)⟩
theorem fp_Mod_69 : FP R_Mod 69 11 9 .int := ⟨_, _, _, t_Mod, rfl, i_Mod, by decide, vv_Gin (List.mem_append_right _ (List.mem_append_right _ (List.mem_append_right _ (List.mem_append_right _ (List.mem_append_left _ (List.mem_of_getElem? (i := 232) rfl)))))) rfl, t_Mod_ok, n_Mod, rfl, t_Mod_ok 9 (by decide)⟩
theorem fp_Mod_72 : FP R_Mod 72 11 10 .int := ⟨_, _, _, t_Mod, rfl, i_Mod, by decide, vv_Gin (List.mem_append_right _ (List.mem_append_right _ (List.mem_append_right _ (List.mem_append_right _ (List.mem_append_left _ (List.mem_of_getElem? (i := 233) rfl)))))) rfl, t_Mod_ok, n_Mod, rfl, t_Mod_ok 10 (by decide)⟩
theorem fp_Mod_75 : FP R_Mod 75 11 11 .int := ⟨_, _, _, t_Mod, rfl, i_Mod, by decide, vv_Gin (List.mem_append_right _ (List.mem_append_right _ (List.mem_append_right _ (List.mem_append_right _ (List.mem_append_left _ (List.mem_of_getElem? (i := 234) rfl)))))) rfl, t_Mod_ok, n_Mod, rfl, t_Mod_ok 11 (by decide)⟩
theorem tc_6 : (6 : Int32).toInt = 6 := rfl
theorem fp_Mod_78 : FP R_Mod 78 11 13 .int := ⟨_, _, _, t_Mod, rfl, i_Mod, by decide, vv_Gin (List.mem_append_right _ (List.mem_append_right _ (List.mem_append_right _ (List.mem_append_right _ (List.mem_append_left _ (List.mem_of_getElem? (i := 236) rfl)))))) rfl, t_Mod_ok, n_Mod, rfl, t_Mod_ok 13 (by decide)⟩
theorem fa_Mod_20 : FA R_Mod 20 11 12 := ⟨_, _, _, rfl, i_Mod, by decide, vv_Gin (List.mem_append_right _ (List.mem_append_right _ (List.mem_append_right _ (List.mem_append_right _ (List.mem_append_left _ (List.mem_of_getElem? (i := 235) rfl)))))) rfl⟩
theorem fa_Mod_62 : FA R_Mod 62 11 7 := ⟨_, _, _, rfl, i_Mod, by decide, vv_Gin (List.mem_append_right _ (List.mem_append_right _ (List.mem_append_right _ (List.mem_append_right _ (List.mem_append_left _ (List.mem_of_getElem? (i := 230) rfl)))))) rfl⟩
theorem fp_Mod_81 : FP R_Mod 81 11 2 .int := ⟨_, _, _, t_Mod, rfl, i_Mod, by decide, vv_Gin (List.mem_append_right _ (List.mem_append_right _ (List.mem_append_right _ (List.mem_append_right _ (List.mem_append_left _ (List.mem_of_getElem? (i := 225) rfl)))))) rfl, t_Mod_ok, n_Mod, rfl, t_Mod_ok 2 (by decide)⟩
theorem fa_Mod_66 : FA R_Mod 66 11 8 := ⟨_, _, _, rfl, i_Mod, by decide, vv_Gin (List.mem_append_right _ (List.mem_append_right _ (List.mem_append_right _ (List.mem_append_right _ (List.mem_append_left _ (List.mem_of_getElem? (i := 231) rfl)))))) rfl⟩
theorem fp_Mod_84 : FP R_Mod 84 11 3 .int := ⟨_, _, _, t_Mod, rfl, i_Mod, by decide, vv_Gin (List.mem_append_right _ (List.mem_append_right _ (List.mem_append_right _ (List.mem_append_right _ (List.mem_append_left _ (List.mem_of_getElem? (i := 226) rfl)))))) rfl, t_Mod_ok, n_Mod, rfl, t_Mod_ok 3 (by decide)⟩
theorem fa_Mod_69 : FA R_Mod 69 11 9 := ⟨_, _, _, rfl, i_Mod, by decide, vv_Gin (List.mem_append_right _ (List.mem_append_right _ (List.mem_append_right _ (List.mem_append_right _ (List.mem_append_left _ (List.mem_of_getElem? (i := 232) rfl)))))) rfl⟩
theorem fp_Mod_87 : FP R_Mod 87 11 4 .int := ⟨_, _, _, t_Mod, rfl, i_Mod, by decide, vv_Gin (List.mem_append_right _ (List.mem_append_right _ (List.mem_append_right _ (List.mem_append_right _ (List.mem_append_left _ (List.mem_of_getElem? (i := 227) rfl)))))) rfl, t_Mod_ok, n_Mod, rfl, t_Mod_ok 4 (by decide)⟩
theorem fa_Mod_72 : FA R_Mod 72 11 10 := ⟨_, _, _, rfl, i_Mod, by decide, vv_Gin (List.mem_append_right _ (List.mem_append_right _ (List.mem_append_right _ (List.mem_append_right _ (List.mem_append_left _ (List.mem_of_getElem? (i := 233) rfl)))))) rfl⟩
theorem fp_Mod_90 : FP R_Mod 90 11 5 .int := ⟨_, _, _, t_Mod, rfl, i_Mod, by decide, vv_Gin (List.mem_append_right _ (List.mem_append_right _ (List.mem_append_right _ (List.mem_append_right _ (List.mem_append_left _ (List.mem_of_getElem? (i := 228) rfl)))))) rfl, t_Mod_ok, n_Mod, rfl, t_Mod_ok 5 (by decide)⟩
theorem fp_Mod_102 : FP R_Mod 102 11 20 .int := ⟨_, _, _, t_Mod, rfl, i_Mod, by decide, vv_Gin (List.mem_append_right _ (List.mem_append_right _ (List.mem_append_right _ (List.mem_append_right _ (List.mem_append_right _ (List.mem_append_left _ (List.mem_of_getElem? (i := 3) rfl))))))) rfl, t_Mod_ok, n_Mod, rfl, t_Mod_ok 20 (by decide)⟩
theorem fa_Mod_105 : FA R_Mod 105 11 17 := ⟨_, _, _, rfl, i_Mod, by decide, vv_Gin (List.mem_append_right _ (List.mem_append_right _ (List.mem_append_right _ (List.mem_append_right _ (List.mem_append_right _ (List.mem_append_left _ (List.mem_of_getElem? (i := 0) rfl))))))) rfl⟩
theorem fp_Mod_108 : FP R_Mod 108 11 21 .int := ⟨_, _, _, t_Mod, rfl, i_Mod, by decide, vv_Gin (List.mem_append_right _ (List.mem_append_right _ (List.mem_append_right _ (List.mem_append_right _ (List.mem_append_right _ (List.mem_append_left _ (List.mem_of_getElem? (i := 4) rfl))))))) rfl, t_Mod_ok, n_Mod, rfl, t_Mod_ok 21 (by decide)⟩
theorem fa_Mod_111 : FA R_Mod 111 11 16 := ⟨_, _, _, rfl, i_Mod, by decide, vv_Gin (List.mem_append_right _ (List.mem_append_right _ (List.mem_append_right _ (List.mem_append_right _ (List.mem_append_left _ (List.mem_of_getElem? (i := 239) rfl)))))) rfl⟩
theorem cb_Mod_look : CB y_Mod_look b_Mod_look 2 (some .int) 1 := ⟨vv_Gin (List.mem_append_right _ (List.mem_append_right _ (List.mem_append_right _ (List.mem_append_right _ (List.mem_append_right _ (List.mem_append_left _ (List.mem_of_getElem? (i := 118) rfl))))))) rfl, by decide +kernel, vv_Gin (List.mem_append_right _ (List.mem_append_left _ (List.mem_of_getElem? (i := 13) rfl))) rfl⟩
theorem im_Mod_look : Cond.instanceMethod y_Mod_look ∈ vv_G := vv_Gin (List.mem_append_right _ (List.mem_append_right _ (List.mem_append_right _ (List.mem_append_right _ (List.mem_append_right _ (List.mem_append_left _ (List.mem_of_getElem? (i := 117) rfl))))))) rfl
theorem se_Mod_look : Cond.selects y_Mod_look.cls y_Mod_look y_Mod_look ∈ vv_G := vv_Gin (List.mem_append_left _ (List.mem_of_getElem? (i := 20) rfl)) rfl
theorem cv_Mod_114 : CV R_Mod 114 y_Mod_look b_Mod_look 2 (some .int) 1 := ⟨cb_Mod_look, im_Mod_look, se_Mod_look, vv_Gin (List.mem_append_right _ (List.mem_append_right _ (List.mem_append_right _ (List.mem_append_right _ (List.mem_append_right _ (List.mem_append_left _ (List.mem_of_getElem? (i := 115) rfl))))))) rfl⟩
theorem tc_99 : (99 : Int32).toInt = 99 := rfl
theorem tc_117 : (117 : Int32).toInt = 117 := rfl
theorem cb_Mod_is : CB y_Mod_is b_Mod_is 5 (some .boolean) 4 := ⟨vv_Gin (List.mem_append_right _ (List.mem_append_right _ (List.mem_append_right _ (List.mem_append_right _ (List.mem_append_right _ (List.mem_append_left _ (List.mem_of_getElem? (i := 138) rfl))))))) rfl, by decide +kernel, vv_Gin (List.mem_append_right _ (List.mem_append_left _ (List.mem_of_getElem? (i := 13) rfl))) rfl⟩
theorem im_Mod_is : Cond.instanceMethod y_Mod_is ∈ vv_G := vv_Gin (List.mem_append_right _ (List.mem_append_right _ (List.mem_append_right _ (List.mem_append_right _ (List.mem_append_right _ (List.mem_append_left _ (List.mem_of_getElem? (i := 137) rfl))))))) rfl
theorem se_Mod_is : Cond.selects y_Mod_is.cls y_Mod_is y_Mod_is ∈ vv_G := vv_Gin (List.mem_append_left _ (List.mem_of_getElem? (i := 24) rfl)) rfl
theorem cv_Mod_118 : CV R_Mod 118 y_Mod_is b_Mod_is 5 (some .boolean) 4 := ⟨cb_Mod_is, im_Mod_is, se_Mod_is, vv_Gin (List.mem_append_right _ (List.mem_append_right _ (List.mem_append_right _ (List.mem_append_right _ (List.mem_append_right _ (List.mem_append_left _ (List.mem_of_getElem? (i := 135) rfl))))))) rfl⟩
theorem tc_115 : (115 : Int32).toInt = 115 := rfl
theorem tc_114 : (114 : Int32).toInt = 114 := rfl
theorem tc_105 : (105 : Int32).toInt = 105 := rfl
theorem tc_100 : (100 : Int32).toInt = 100 := rfl
theorem tc_101 : (101 : Int32).toInt = 101 := rfl
theorem cb_Mod_ends : CB y_Mod_ends b_Mod_ends 4 (some .boolean) 3 := ⟨vv_Gin (List.mem_append_right _ (List.mem_append_right _ (List.mem_append_right _ (List.mem_append_right _ (List.mem_append_right _ (List.mem_append_left _ (List.mem_of_getElem? (i := 142) rfl))))))) rfl, by decide +kernel, vv_Gin (List.mem_append_right _ (List.mem_append_left _ (List.mem_of_getElem? (i := 13) rfl))) rfl⟩
theorem im_Mod_ends : Cond.instanceMethod y_Mod_ends ∈ vv_G := vv_Gin (List.mem_append_right _ (List.mem_append_right _ (List.mem_append_right _ (List.mem_append_right _ (List.mem_append_right _ (List.mem_append_left _ (List.mem_of_getElem? (i := 141) rfl))))))) rfl
theorem se_Mod_ends : Cond.selects y_Mod_ends.cls y_Mod_ends y_Mod_ends ∈ vv_G := vv_Gin (List.mem_append_left _ (List.mem_of_getElem? (i := 25) rfl)) rfl
theorem cv_Mod_122 : CV R_Mod 122 y_Mod_ends b_Mod_ends 4 (some .boolean) 3 := ⟨cb_Mod_ends, im_Mod_ends, se_Mod_ends, vv_Gin (List.mem_append_right _ (List.mem_append_right _ (List.mem_append_right _ (List.mem_append_right _ (List.mem_append_right _ (List.mem_append_left _ (List.mem_of_getElem? (i := 139) rfl))))))) rfl⟩
theorem tc_116 : (116 : Int32).toInt = 116 := rfl
theorem tc_110 : (110 : Int32).toInt = 110 := rfl
theorem tc_121 : (121 : Int32).toInt = 121 := rfl
theorem tc_119 : (119 : Int32).toInt = 119 := rfl
theorem tc_108 : (108 : Int32).toInt = 108 := rfl
theorem tc_97 : (97 : Int32).toInt = 97 := rfl
theorem cb_Mod_ruleLine : CB y_Mod_ruleLine b_Mod_ruleLine 1 (some .int) 0 := ⟨vv_Gin (List.mem_append_right _ (List.mem_append_right _ (List.mem_append_right _ (List.mem_append_right _ (List.mem_append_right _ (List.mem_append_left _ (List.mem_of_getElem? (i := 146) rfl))))))) rfl, by decide +kernel, vv_Gin (List.mem_append_right _ (List.mem_append_left _ (List.mem_of_getElem? (i := 13) rfl))) rfl⟩
theorem im_Mod_ruleLine : Cond.instanceMethod y_Mod_ruleLine ∈ vv_G := vv_Gin (List.mem_append_right _ (List.mem_append_right _ (List.mem_append_right _ (List.mem_append_right _ (List.mem_append_right _ (List.mem_append_left _ (List.mem_of_getElem? (i := 145) rfl))))))) rfl
theorem se_Mod_ruleLine : Cond.selects y_Mod_ruleLine.cls y_Mod_ruleLine y_Mod_ruleLine ∈ vv_G := vv_Gin (List.mem_append_left _ (List.mem_of_getElem? (i := 26) rfl)) rfl
theorem cv_Mod_126 : CV R_Mod 126 y_Mod_ruleLine b_Mod_ruleLine 1 (some .int) 0 := ⟨cb_Mod_ruleLine, im_Mod_ruleLine, se_Mod_ruleLine, vv_Gin (List.mem_append_right _ (List.mem_append_right _ (List.mem_append_right _ (List.mem_append_right _ (List.mem_append_right _ (List.mem_append_left _ (List.mem_of_getElem? (i := 143) rfl))))))) rfl⟩
theorem tc_109 : (109 : Int32).toInt = 109 := rfl
theorem tc_7 : (7 : Int32).toInt = 7 := rfl
theorem tc_98 : (98 : Int32).toInt = 98 := rfl
theorem tc_104 : (104 : Int32).toInt = 104 := rfl
theorem fp_Mod_105 : FP R_Mod 105 11 17 .int := ⟨_, _, _, t_Mod, rfl, i_Mod, by decide, vv_Gin (List.mem_append_right _ (List.mem_append_right _ (List.mem_append_right _ (List.mem_append_right _ (List.mem_append_right _ (List.mem_append_left _ (List.mem_of_getElem? (i := 0) rfl))))))) rfl, t_Mod_ok, n_Mod, rfl, t_Mod_ok 17 (by decide)⟩
theorem wl_Mod_133 : Cond.constantLong R_Mod 133 97 ∈ vv_G := vv_Gin (List.mem_append_right _ (List.mem_append_right _ (List.mem_append_right _ (List.mem_append_right _ (List.mem_append_right _ (List.mem_append_left _ (List.mem_of_getElem? (i := 119) (by decide +kernel)))))))) (by decide +kernel)
theorem tl_97 : (97 : Int64).toInt = 97 := rfl
theorem wl_Mod_135 : Cond.constantLong R_Mod 135 122 ∈ vv_G := vv_Gin (List.mem_append_right _ (List.mem_append_right _ (List.mem_append_right _ (List.mem_append_right _ (List.mem_append_right _ (List.mem_append_left _ (List.mem_of_getElem? (i := 120) (by decide +kernel)))))))) (by decide +kernel)
theorem tl_122 : (122 : Int64).toInt = 122 := rfl
theorem wl_Mod_137 : Cond.constantLong R_Mod 137 48 ∈ vv_G := vv_Gin (List.mem_append_right _ (List.mem_append_right _ (List.mem_append_right _ (List.mem_append_right _ (List.mem_append_right _ (List.mem_append_left _ (List.mem_of_getElem? (i := 121) (by decide +kernel)))))))) (by decide +kernel)
theorem tl_48 : (48 : Int64).toInt = 48 := rfl
theorem wl_Mod_139 : Cond.constantLong R_Mod 139 57 ∈ vv_G := vv_Gin (List.mem_append_right _ (List.mem_append_right _ (List.mem_append_right _ (List.mem_append_right _ (List.mem_append_right _ (List.mem_append_left _ (List.mem_of_getElem? (i := 122) (by decide +kernel)))))))) (by decide +kernel)
theorem tl_57 : (57 : Int64).toInt = 57 := rfl
theorem fp_Mod_130 : FP R_Mod 130 11 18 .int := ⟨_, _, _, t_Mod, rfl, i_Mod, by decide, vv_Gin (List.mem_append_right _ (List.mem_append_right _ (List.mem_append_right _ (List.mem_append_right _ (List.mem_append_right _ (List.mem_append_left _ (List.mem_of_getElem? (i := 1) rfl))))))) rfl, t_Mod_ok, n_Mod, rfl, t_Mod_ok 18 (by decide)⟩
theorem tc_59 : (59 : Int32).toInt = 59 := rfl
theorem cb_Mod_needs : CB y_Mod_needs b_Mod_needs 3 none 2 := ⟨vv_Gin (List.mem_append_right _ (List.mem_append_right _ (List.mem_append_right _ (List.mem_append_right _ (List.mem_append_right _ (List.mem_append_left _ (List.mem_of_getElem? (i := 126) rfl))))))) rfl, by decide +kernel, vv_Gin (List.mem_append_right _ (List.mem_append_left _ (List.mem_of_getElem? (i := 13) rfl))) rfl⟩
theorem im_Mod_needs : Cond.instanceMethod y_Mod_needs ∈ vv_G := vv_Gin (List.mem_append_right _ (List.mem_append_right _ (List.mem_append_right _ (List.mem_append_right _ (List.mem_append_right _ (List.mem_append_left _ (List.mem_of_getElem? (i := 125) rfl))))))) rfl
theorem se_Mod_needs : Cond.selects y_Mod_needs.cls y_Mod_needs y_Mod_needs ∈ vv_G := vv_Gin (List.mem_append_left _ (List.mem_of_getElem? (i := 21) rfl)) rfl
theorem cv_Mod_144 : CV R_Mod 144 y_Mod_needs b_Mod_needs 3 none 2 := ⟨cb_Mod_needs, im_Mod_needs, se_Mod_needs, vv_Gin (List.mem_append_right _ (List.mem_append_right _ (List.mem_append_right _ (List.mem_append_right _ (List.mem_append_right _ (List.mem_append_left _ (List.mem_of_getElem? (i := 123) rfl))))))) rfl⟩
theorem fp_Mod_111 : FP R_Mod 111 11 16 .int := ⟨_, _, _, t_Mod, rfl, i_Mod, by decide, vv_Gin (List.mem_append_right _ (List.mem_append_right _ (List.mem_append_right _ (List.mem_append_right _ (List.mem_append_left _ (List.mem_of_getElem? (i := 239) rfl)))))) rfl, t_Mod_ok, n_Mod, rfl, t_Mod_ok 16 (by decide)⟩
theorem fp_Mod_141 : FP R_Mod 141 11 19 .int := ⟨_, _, _, t_Mod, rfl, i_Mod, by decide, vv_Gin (List.mem_append_right _ (List.mem_append_right _ (List.mem_append_right _ (List.mem_append_right _ (List.mem_append_right _ (List.mem_append_left _ (List.mem_of_getElem? (i := 2) rfl))))))) rfl, t_Mod_ok, n_Mod, rfl, t_Mod_ok 19 (by decide)⟩
theorem fa_Mod_141 : FA R_Mod 141 11 19 := ⟨_, _, _, rfl, i_Mod, by decide, vv_Gin (List.mem_append_right _ (List.mem_append_right _ (List.mem_append_right _ (List.mem_append_right _ (List.mem_append_right _ (List.mem_append_left _ (List.mem_of_getElem? (i := 2) rfl))))))) rfl⟩
theorem fa_Mod_130 : FA R_Mod 130 11 18 := ⟨_, _, _, rfl, i_Mod, by decide, vv_Gin (List.mem_append_right _ (List.mem_append_right _ (List.mem_append_right _ (List.mem_append_right _ (List.mem_append_right _ (List.mem_append_left _ (List.mem_of_getElem? (i := 1) rfl))))))) rfl⟩
theorem cb_Mod_looked : CB y_Mod_looked b_Mod_looked 3 (some .int) 2 := ⟨vv_Gin (List.mem_append_right _ (List.mem_append_right _ (List.mem_append_right _ (List.mem_append_right _ (List.mem_append_right _ (List.mem_append_left _ (List.mem_of_getElem? (i := 158) rfl))))))) rfl, by decide +kernel, vv_Gin (List.mem_append_right _ (List.mem_append_left _ (List.mem_of_getElem? (i := 13) rfl))) rfl⟩
theorem im_Mod_looked : Cond.instanceMethod y_Mod_looked ∈ vv_G := vv_Gin (List.mem_append_right _ (List.mem_append_right _ (List.mem_append_right _ (List.mem_append_right _ (List.mem_append_right _ (List.mem_append_left _ (List.mem_of_getElem? (i := 157) rfl))))))) rfl
theorem se_Mod_looked : Cond.selects y_Mod_looked.cls y_Mod_looked y_Mod_looked ∈ vv_G := vv_Gin (List.mem_append_left _ (List.mem_of_getElem? (i := 29) rfl)) rfl
theorem cv_Mod_148 : CV R_Mod 148 y_Mod_looked b_Mod_looked 3 (some .int) 2 := ⟨cb_Mod_looked, im_Mod_looked, se_Mod_looked, vv_Gin (List.mem_append_right _ (List.mem_append_right _ (List.mem_append_right _ (List.mem_append_right _ (List.mem_append_right _ (List.mem_append_left _ (List.mem_of_getElem? (i := 155) rfl))))))) rfl⟩
theorem cb_Mod_next : CB y_Mod_next b_Mod_next 2 none 0 := ⟨vv_Gin (List.mem_append_right _ (List.mem_append_right _ (List.mem_append_right _ (List.mem_append_right _ (List.mem_append_right _ (List.mem_append_left _ (List.mem_of_getElem? (i := 114) rfl))))))) rfl, by decide +kernel, vv_Gin (List.mem_append_right _ (List.mem_append_left _ (List.mem_of_getElem? (i := 13) rfl))) rfl⟩
theorem im_Mod_next : Cond.instanceMethod y_Mod_next ∈ vv_G := vv_Gin (List.mem_append_right _ (List.mem_append_right _ (List.mem_append_right _ (List.mem_append_right _ (List.mem_append_right _ (List.mem_append_left _ (List.mem_of_getElem? (i := 113) rfl))))))) rfl
theorem se_Mod_next : Cond.selects y_Mod_next.cls y_Mod_next y_Mod_next ∈ vv_G := vv_Gin (List.mem_append_left _ (List.mem_of_getElem? (i := 19) rfl)) rfl
theorem cv_Mod_152 : CV R_Mod 152 y_Mod_next b_Mod_next 2 none 0 := ⟨cb_Mod_next, im_Mod_next, se_Mod_next, vv_Gin (List.mem_append_right _ (List.mem_append_right _ (List.mem_append_right _ (List.mem_append_right _ (List.mem_append_right _ (List.mem_append_left _ (List.mem_of_getElem? (i := 111) rfl))))))) rfl⟩
theorem fa_Mod_78 : FA R_Mod 78 11 13 := ⟨_, _, _, rfl, i_Mod, by decide, vv_Gin (List.mem_append_right _ (List.mem_append_right _ (List.mem_append_right _ (List.mem_append_right _ (List.mem_append_left _ (List.mem_of_getElem? (i := 236) rfl)))))) rfl⟩
theorem cb_Mod_readNumber : CB y_Mod_readNumber b_Mod_readNumber 4 (some .int) 2 := ⟨vv_Gin (List.mem_append_right _ (List.mem_append_right _ (List.mem_append_right _ (List.mem_append_right _ (List.mem_append_right _ (List.mem_append_left _ (List.mem_of_getElem? (i := 154) rfl))))))) rfl, by decide +kernel, vv_Gin (List.mem_append_right _ (List.mem_append_left _ (List.mem_of_getElem? (i := 13) rfl))) rfl⟩
theorem im_Mod_readNumber : Cond.instanceMethod y_Mod_readNumber ∈ vv_G := vv_Gin (List.mem_append_right _ (List.mem_append_right _ (List.mem_append_right _ (List.mem_append_right _ (List.mem_append_right _ (List.mem_append_left _ (List.mem_of_getElem? (i := 153) rfl))))))) rfl
theorem se_Mod_readNumber : Cond.selects y_Mod_readNumber.cls y_Mod_readNumber y_Mod_readNumber ∈ vv_G := vv_Gin (List.mem_append_left _ (List.mem_of_getElem? (i := 28) rfl)) rfl
theorem cv_Mod_158 : CV R_Mod 158 y_Mod_readNumber b_Mod_readNumber 4 (some .int) 2 := ⟨cb_Mod_readNumber, im_Mod_readNumber, se_Mod_readNumber, vv_Gin (List.mem_append_right _ (List.mem_append_right _ (List.mem_append_right _ (List.mem_append_right _ (List.mem_append_right _ (List.mem_append_left _ (List.mem_of_getElem? (i := 151) rfl))))))) rfl⟩
theorem cb_Mod_natureNow : CB y_Mod_natureNow b_Mod_natureNow 1 (some .int) 0 := ⟨vv_Gin (List.mem_append_right _ (List.mem_append_right _ (List.mem_append_right _ (List.mem_append_right _ (List.mem_append_right _ (List.mem_append_left _ (List.mem_of_getElem? (i := 166) rfl))))))) rfl, by decide +kernel, vv_Gin (List.mem_append_right _ (List.mem_append_left _ (List.mem_of_getElem? (i := 13) rfl))) rfl⟩
theorem im_Mod_natureNow : Cond.instanceMethod y_Mod_natureNow ∈ vv_G := vv_Gin (List.mem_append_right _ (List.mem_append_right _ (List.mem_append_right _ (List.mem_append_right _ (List.mem_append_right _ (List.mem_append_left _ (List.mem_of_getElem? (i := 165) rfl))))))) rfl
theorem se_Mod_natureNow : Cond.selects y_Mod_natureNow.cls y_Mod_natureNow y_Mod_natureNow ∈ vv_G := vv_Gin (List.mem_append_left _ (List.mem_of_getElem? (i := 31) rfl)) rfl
theorem cv_Mod_155 : CV R_Mod 155 y_Mod_natureNow b_Mod_natureNow 1 (some .int) 0 := ⟨cb_Mod_natureNow, im_Mod_natureNow, se_Mod_natureNow, vv_Gin (List.mem_append_right _ (List.mem_append_right _ (List.mem_append_right _ (List.mem_append_right _ (List.mem_append_right _ (List.mem_append_left _ (List.mem_of_getElem? (i := 163) rfl))))))) rfl⟩
theorem tc_15 : (15 : Int32).toInt = 15 := rfl
theorem cb_Mod_readFresh : CB y_Mod_readFresh b_Mod_readFresh 4 (some .int) 2 := ⟨vv_Gin (List.mem_append_right _ (List.mem_append_right _ (List.mem_append_right _ (List.mem_append_right _ (List.mem_append_right _ (List.mem_append_left _ (List.mem_of_getElem? (i := 170) rfl))))))) rfl, by decide +kernel, vv_Gin (List.mem_append_right _ (List.mem_append_left _ (List.mem_of_getElem? (i := 13) rfl))) rfl⟩
theorem im_Mod_readFresh : Cond.instanceMethod y_Mod_readFresh ∈ vv_G := vv_Gin (List.mem_append_right _ (List.mem_append_right _ (List.mem_append_right _ (List.mem_append_right _ (List.mem_append_right _ (List.mem_append_left _ (List.mem_of_getElem? (i := 169) rfl))))))) rfl
theorem se_Mod_readFresh : Cond.selects y_Mod_readFresh.cls y_Mod_readFresh y_Mod_readFresh ∈ vv_G := vv_Gin (List.mem_append_left _ (List.mem_of_getElem? (i := 32) rfl)) rfl
theorem cv_Mod_161 : CV R_Mod 161 y_Mod_readFresh b_Mod_readFresh 4 (some .int) 2 := ⟨cb_Mod_readFresh, im_Mod_readFresh, se_Mod_readFresh, vv_Gin (List.mem_append_right _ (List.mem_append_right _ (List.mem_append_right _ (List.mem_append_right _ (List.mem_append_right _ (List.mem_append_left _ (List.mem_of_getElem? (i := 167) rfl))))))) rfl⟩
theorem cb_Mod_readCellOf : CB y_Mod_readCellOf b_Mod_readCellOf 5 none 1 := ⟨vv_Gin (List.mem_append_right _ (List.mem_append_right _ (List.mem_append_right _ (List.mem_append_right _ (List.mem_append_right _ (List.mem_append_left _ (List.mem_of_getElem? (i := 178) rfl))))))) rfl, by decide +kernel, vv_Gin (List.mem_append_right _ (List.mem_append_left _ (List.mem_of_getElem? (i := 13) rfl))) rfl⟩
theorem im_Mod_readCellOf : Cond.instanceMethod y_Mod_readCellOf ∈ vv_G := vv_Gin (List.mem_append_right _ (List.mem_append_right _ (List.mem_append_right _ (List.mem_append_right _ (List.mem_append_right _ (List.mem_append_left _ (List.mem_of_getElem? (i := 177) rfl))))))) rfl
theorem se_Mod_readCellOf : Cond.selects y_Mod_readCellOf.cls y_Mod_readCellOf y_Mod_readCellOf ∈ vv_G := vv_Gin (List.mem_append_left _ (List.mem_of_getElem? (i := 34) rfl)) rfl
theorem cv_Mod_170 : CV R_Mod 170 y_Mod_readCellOf b_Mod_readCellOf 5 none 1 := ⟨cb_Mod_readCellOf, im_Mod_readCellOf, se_Mod_readCellOf, vv_Gin (List.mem_append_right _ (List.mem_append_right _ (List.mem_append_right _ (List.mem_append_right _ (List.mem_append_right _ (List.mem_append_left _ (List.mem_of_getElem? (i := 175) rfl))))))) rfl⟩
theorem cb_Mod_readRod : CB y_Mod_readRod b_Mod_readRod 2 none 0 := ⟨vv_Gin (List.mem_append_right _ (List.mem_append_right _ (List.mem_append_right _ (List.mem_append_right _ (List.mem_append_right _ (List.mem_append_left _ (List.mem_of_getElem? (i := 162) rfl))))))) rfl, by decide +kernel, vv_Gin (List.mem_append_right _ (List.mem_append_left _ (List.mem_of_getElem? (i := 13) rfl))) rfl⟩
theorem im_Mod_readRod : Cond.instanceMethod y_Mod_readRod ∈ vv_G := vv_Gin (List.mem_append_right _ (List.mem_append_right _ (List.mem_append_right _ (List.mem_append_right _ (List.mem_append_right _ (List.mem_append_left _ (List.mem_of_getElem? (i := 161) rfl))))))) rfl
theorem se_Mod_readRod : Cond.selects y_Mod_readRod.cls y_Mod_readRod y_Mod_readRod ∈ vv_G := vv_Gin (List.mem_append_left _ (List.mem_of_getElem? (i := 30) rfl)) rfl
theorem cv_Mod_164 : CV R_Mod 164 y_Mod_readRod b_Mod_readRod 2 none 0 := ⟨cb_Mod_readRod, im_Mod_readRod, se_Mod_readRod, vv_Gin (List.mem_append_right _ (List.mem_append_right _ (List.mem_append_right _ (List.mem_append_right _ (List.mem_append_right _ (List.mem_append_left _ (List.mem_of_getElem? (i := 159) rfl))))))) rfl⟩
theorem cb_Mod_readDebt : CB y_Mod_readDebt b_Mod_readDebt 3 none 0 := ⟨vv_Gin (List.mem_append_right _ (List.mem_append_right _ (List.mem_append_right _ (List.mem_append_right _ (List.mem_append_right _ (List.mem_append_left _ (List.mem_of_getElem? (i := 174) rfl))))))) rfl, by decide +kernel, vv_Gin (List.mem_append_right _ (List.mem_append_left _ (List.mem_of_getElem? (i := 13) rfl))) rfl⟩
theorem im_Mod_readDebt : Cond.instanceMethod y_Mod_readDebt ∈ vv_G := vv_Gin (List.mem_append_right _ (List.mem_append_right _ (List.mem_append_right _ (List.mem_append_right _ (List.mem_append_right _ (List.mem_append_left _ (List.mem_of_getElem? (i := 173) rfl))))))) rfl
theorem se_Mod_readDebt : Cond.selects y_Mod_readDebt.cls y_Mod_readDebt y_Mod_readDebt ∈ vv_G := vv_Gin (List.mem_append_left _ (List.mem_of_getElem? (i := 33) rfl)) rfl
theorem cv_Mod_167 : CV R_Mod 167 y_Mod_readDebt b_Mod_readDebt 3 none 0 := ⟨cb_Mod_readDebt, im_Mod_readDebt, se_Mod_readDebt, vv_Gin (List.mem_append_right _ (List.mem_append_right _ (List.mem_append_right _ (List.mem_append_right _ (List.mem_append_right _ (List.mem_append_left _ (List.mem_of_getElem? (i := 171) rfl))))))) rfl⟩
theorem cb_Mod_readLineOf : CB y_Mod_readLineOf b_Mod_readLineOf 3 none 1 := ⟨vv_Gin (List.mem_append_right _ (List.mem_append_right _ (List.mem_append_right _ (List.mem_append_right _ (List.mem_append_right _ (List.mem_append_left _ (List.mem_of_getElem? (i := 150) rfl))))))) rfl, by decide +kernel, vv_Gin (List.mem_append_right _ (List.mem_append_left _ (List.mem_of_getElem? (i := 13) rfl))) rfl⟩
theorem im_Mod_readLineOf : Cond.instanceMethod y_Mod_readLineOf ∈ vv_G := vv_Gin (List.mem_append_right _ (List.mem_append_right _ (List.mem_append_right _ (List.mem_append_right _ (List.mem_append_right _ (List.mem_append_left _ (List.mem_of_getElem? (i := 149) rfl))))))) rfl
theorem se_Mod_readLineOf : Cond.selects y_Mod_readLineOf.cls y_Mod_readLineOf y_Mod_readLineOf ∈ vv_G := vv_Gin (List.mem_append_left _ (List.mem_of_getElem? (i := 27) rfl)) rfl
theorem cv_Mod_177 : CV R_Mod 177 y_Mod_readLineOf b_Mod_readLineOf 3 none 1 := ⟨cb_Mod_readLineOf, im_Mod_readLineOf, se_Mod_readLineOf, vv_Gin (List.mem_append_right _ (List.mem_append_right _ (List.mem_append_right _ (List.mem_append_right _ (List.mem_append_right _ (List.mem_append_left _ (List.mem_of_getElem? (i := 147) rfl))))))) rfl⟩
theorem fa_Mod_75 : FA R_Mod 75 11 11 := ⟨_, _, _, rfl, i_Mod, by decide, vv_Gin (List.mem_append_right _ (List.mem_append_right _ (List.mem_append_right _ (List.mem_append_right _ (List.mem_append_left _ (List.mem_of_getElem? (i := 234) rfl)))))) rfl⟩
theorem cb_Mod_lineNow : CB y_Mod_lineNow b_Mod_lineNow 1 (some .int) 0 := ⟨vv_Gin (List.mem_append_right _ (List.mem_append_right _ (List.mem_append_right _ (List.mem_append_right _ (List.mem_append_right _ (List.mem_append_left _ (List.mem_of_getElem? (i := 134) rfl))))))) rfl, by decide +kernel, vv_Gin (List.mem_append_right _ (List.mem_append_left _ (List.mem_of_getElem? (i := 13) rfl))) rfl⟩
theorem im_Mod_lineNow : Cond.instanceMethod y_Mod_lineNow ∈ vv_G := vv_Gin (List.mem_append_right _ (List.mem_append_right _ (List.mem_append_right _ (List.mem_append_right _ (List.mem_append_right _ (List.mem_append_left _ (List.mem_of_getElem? (i := 133) rfl))))))) rfl
theorem se_Mod_lineNow : Cond.selects y_Mod_lineNow.cls y_Mod_lineNow y_Mod_lineNow ∈ vv_G := vv_Gin (List.mem_append_left _ (List.mem_of_getElem? (i := 23) rfl)) rfl
theorem cv_Mod_174 : CV R_Mod 174 y_Mod_lineNow b_Mod_lineNow 1 (some .int) 0 := ⟨cb_Mod_lineNow, im_Mod_lineNow, se_Mod_lineNow, vv_Gin (List.mem_append_right _ (List.mem_append_right _ (List.mem_append_right _ (List.mem_append_right _ (List.mem_append_right _ (List.mem_append_left _ (List.mem_of_getElem? (i := 131) rfl))))))) rfl⟩
theorem cb_Mod_firstDraft : CB y_Mod_firstDraft b_Mod_firstDraft 2 none 0 := ⟨vv_Gin (List.mem_append_right _ (List.mem_append_right _ (List.mem_append_right _ (List.mem_append_right _ (List.mem_append_left _ (List.mem_of_getElem? (i := 218) rfl)))))) rfl, by decide +kernel, vv_Gin (List.mem_append_right _ (List.mem_append_left _ (List.mem_of_getElem? (i := 13) rfl))) rfl⟩
theorem im_Mod_firstDraft : Cond.instanceMethod y_Mod_firstDraft ∈ vv_G := vv_Gin (List.mem_append_right _ (List.mem_append_right _ (List.mem_append_right _ (List.mem_append_right _ (List.mem_append_left _ (List.mem_of_getElem? (i := 217) rfl)))))) rfl
theorem se_Mod_firstDraft : Cond.selects y_Mod_firstDraft.cls y_Mod_firstDraft y_Mod_firstDraft ∈ vv_G := vv_Gin (List.mem_append_left _ (List.mem_of_getElem? (i := 17) rfl)) rfl
theorem cv_Mod_56 : CV R_Mod 56 y_Mod_firstDraft b_Mod_firstDraft 2 none 0 := ⟨cb_Mod_firstDraft, im_Mod_firstDraft, se_Mod_firstDraft, vv_Gin (List.mem_append_right _ (List.mem_append_right _ (List.mem_append_right _ (List.mem_append_right _ (List.mem_append_left _ (List.mem_of_getElem? (i := 215) rfl)))))) rfl⟩
theorem cb_Mod_keepDraft : CB y_Mod_keepDraft b_Mod_keepDraft 2 none 0 := ⟨vv_Gin (List.mem_append_right _ (List.mem_append_right _ (List.mem_append_right _ (List.mem_append_right _ (List.mem_append_left _ (List.mem_of_getElem? (i := 222) rfl)))))) rfl, by decide +kernel, vv_Gin (List.mem_append_right _ (List.mem_append_left _ (List.mem_of_getElem? (i := 13) rfl))) rfl⟩
theorem im_Mod_keepDraft : Cond.instanceMethod y_Mod_keepDraft ∈ vv_G := vv_Gin (List.mem_append_right _ (List.mem_append_right _ (List.mem_append_right _ (List.mem_append_right _ (List.mem_append_left _ (List.mem_of_getElem? (i := 221) rfl)))))) rfl
theorem se_Mod_keepDraft : Cond.selects y_Mod_keepDraft.cls y_Mod_keepDraft y_Mod_keepDraft ∈ vv_G := vv_Gin (List.mem_append_left _ (List.mem_of_getElem? (i := 18) rfl)) rfl
theorem cv_Mod_59 : CV R_Mod 59 y_Mod_keepDraft b_Mod_keepDraft 2 none 0 := ⟨cb_Mod_keepDraft, im_Mod_keepDraft, se_Mod_keepDraft, vv_Gin (List.mem_append_right _ (List.mem_append_right _ (List.mem_append_right _ (List.mem_append_right _ (List.mem_append_left _ (List.mem_of_getElem? (i := 219) rfl)))))) rfl⟩
theorem fa_Mod_108 : FA R_Mod 108 11 21 := ⟨_, _, _, rfl, i_Mod, by decide, vv_Gin (List.mem_append_right _ (List.mem_append_right _ (List.mem_append_right _ (List.mem_append_right _ (List.mem_append_right _ (List.mem_append_left _ (List.mem_of_getElem? (i := 4) rfl))))))) rfl⟩
theorem cb_Mod_readLine : CB y_Mod_readLine b_Mod_readLine 2 none 0 := ⟨vv_Gin (List.mem_append_right _ (List.mem_append_right _ (List.mem_append_right _ (List.mem_append_right _ (List.mem_append_right _ (List.mem_append_left _ (List.mem_of_getElem? (i := 130) rfl))))))) rfl, by decide +kernel, vv_Gin (List.mem_append_right _ (List.mem_append_left _ (List.mem_of_getElem? (i := 13) rfl))) rfl⟩
theorem im_Mod_readLine : Cond.instanceMethod y_Mod_readLine ∈ vv_G := vv_Gin (List.mem_append_right _ (List.mem_append_right _ (List.mem_append_right _ (List.mem_append_right _ (List.mem_append_right _ (List.mem_append_left _ (List.mem_of_getElem? (i := 129) rfl))))))) rfl
theorem se_Mod_readLine : Cond.selects y_Mod_readLine.cls y_Mod_readLine y_Mod_readLine ∈ vv_G := vv_Gin (List.mem_append_left _ (List.mem_of_getElem? (i := 22) rfl)) rfl
theorem cv_Mod_180 : CV R_Mod 180 y_Mod_readLine b_Mod_readLine 2 none 0 := ⟨cb_Mod_readLine, im_Mod_readLine, se_Mod_readLine, vv_Gin (List.mem_append_right _ (List.mem_append_right _ (List.mem_append_right _ (List.mem_append_right _ (List.mem_append_right _ (List.mem_append_left _ (List.mem_of_getElem? (i := 127) rfl))))))) rfl⟩
theorem d_Mod_firstDraft_0 : decode b_Mod_firstDraft 0 = .ok (.iconst 0, 1) := dc_3 (by decide +kernel)
theorem d_Mod_firstDraft_1 : decode b_Mod_firstDraft 1 = .ok (.istore_n 1, 1) := dc_60 (by decide +kernel)
theorem d_Mod_firstDraft_2 : decode b_Mod_firstDraft 2 = .ok (.iload_n 1, 1) := dc_27 (by decide +kernel)
theorem d_Mod_firstDraft_3 : decode b_Mod_firstDraft 3 = .ok (.sipush 144, 3) := dc_17 (a := 0) (b := 144) (by decide +kernel) rfl
theorem d_Mod_firstDraft_6 : decode b_Mod_firstDraft 6 = .ok (.if_icmp .ge 16, 3) := dc_162 (a := 0) (b := 16) (by decide +kernel) rfl
theorem d_Mod_firstDraft_9 : decode b_Mod_firstDraft 9 = .ok (.aload_n 0, 1) := dc_42 (by decide +kernel)
theorem d_Mod_firstDraft_10 : decode b_Mod_firstDraft 10 = .ok (.getfield 17, 3) := dc_180 (a := 0) (b := 17) (by decide +kernel) rfl
theorem d_Mod_firstDraft_13 : decode b_Mod_firstDraft 13 = .ok (.iload_n 1, 1) := dc_27 (by decide +kernel)
theorem d_Mod_firstDraft_14 : decode b_Mod_firstDraft 14 = .ok (.iconst 0, 1) := dc_3 (by decide +kernel)
theorem d_Mod_firstDraft_15 : decode b_Mod_firstDraft 15 = .ok (.iastore, 1) := dc_79 (by decide +kernel)
theorem d_Mod_firstDraft_16 : decode b_Mod_firstDraft 16 = .ok (.iinc 1 1, 3) := dc_132 (a := 1) (b := 1) (by decide +kernel) rfl
theorem d_Mod_firstDraft_19 : decode b_Mod_firstDraft 19 = .ok (.goto (-17), 3) := dc_167 (a := 255) (b := 239) (by decide +kernel) rfl
theorem d_Mod_firstDraft_22 : decode b_Mod_firstDraft 22 = .ok (.iconst 0, 1) := dc_3 (by decide +kernel)
theorem d_Mod_firstDraft_23 : decode b_Mod_firstDraft 23 = .ok (.istore_n 1, 1) := dc_60 (by decide +kernel)
theorem d_Mod_firstDraft_24 : decode b_Mod_firstDraft 24 = .ok (.iload_n 1, 1) := dc_27 (by decide +kernel)
theorem d_Mod_firstDraft_25 : decode b_Mod_firstDraft 25 = .ok (.bipush 16, 2) := dc_16 (a := 16) (by decide +kernel) rfl
theorem d_Mod_firstDraft_27 : decode b_Mod_firstDraft 27 = .ok (.if_icmp .ge 30, 3) := dc_162 (a := 0) (b := 30) (by decide +kernel) rfl
theorem d_Mod_firstDraft_30 : decode b_Mod_firstDraft 30 = .ok (.aload_n 0, 1) := dc_42 (by decide +kernel)
theorem d_Mod_firstDraft_31 : decode b_Mod_firstDraft 31 = .ok (.getfield 17, 3) := dc_180 (a := 0) (b := 17) (by decide +kernel) rfl
theorem d_Mod_firstDraft_34 : decode b_Mod_firstDraft 34 = .ok (.bipush 32, 2) := dc_16 (a := 32) (by decide +kernel) rfl
theorem d_Mod_firstDraft_36 : decode b_Mod_firstDraft 36 = .ok (.iload_n 1, 1) := dc_27 (by decide +kernel)
theorem d_Mod_firstDraft_37 : decode b_Mod_firstDraft 37 = .ok (.iadd, 1) := dc_96 (by decide +kernel)
theorem d_Mod_firstDraft_38 : decode b_Mod_firstDraft 38 = .ok (.iconst 5, 1) := dc_8 (by decide +kernel)
theorem d_Mod_firstDraft_39 : decode b_Mod_firstDraft 39 = .ok (.iastore, 1) := dc_79 (by decide +kernel)
theorem d_Mod_firstDraft_40 : decode b_Mod_firstDraft 40 = .ok (.aload_n 0, 1) := dc_42 (by decide +kernel)
theorem d_Mod_firstDraft_41 : decode b_Mod_firstDraft 41 = .ok (.getfield 17, 3) := dc_180 (a := 0) (b := 17) (by decide +kernel) rfl
theorem d_Mod_firstDraft_44 : decode b_Mod_firstDraft 44 = .ok (.bipush 48, 2) := dc_16 (a := 48) (by decide +kernel) rfl
theorem d_Mod_firstDraft_46 : decode b_Mod_firstDraft 46 = .ok (.iload_n 1, 1) := dc_27 (by decide +kernel)
theorem d_Mod_firstDraft_47 : decode b_Mod_firstDraft 47 = .ok (.iadd, 1) := dc_96 (by decide +kernel)
theorem d_Mod_firstDraft_48 : decode b_Mod_firstDraft 48 = .ok (.bipush (-4), 2) := dc_16 (a := 252) (by decide +kernel) rfl
theorem d_Mod_firstDraft_50 : decode b_Mod_firstDraft 50 = .ok (.iastore, 1) := dc_79 (by decide +kernel)
theorem d_Mod_firstDraft_51 : decode b_Mod_firstDraft 51 = .ok (.iinc 1 1, 3) := dc_132 (a := 1) (b := 1) (by decide +kernel) rfl
theorem d_Mod_firstDraft_54 : decode b_Mod_firstDraft 54 = .ok (.goto (-30), 3) := dc_167 (a := 255) (b := 226) (by decide +kernel) rfl
theorem d_Mod_firstDraft_57 : decode b_Mod_firstDraft 57 = .ok (.aload_n 0, 1) := dc_42 (by decide +kernel)
theorem d_Mod_firstDraft_58 : decode b_Mod_firstDraft 58 = .ok (.getfield 17, 3) := dc_180 (a := 0) (b := 17) (by decide +kernel) rfl
theorem d_Mod_firstDraft_61 : decode b_Mod_firstDraft 61 = .ok (.bipush 85, 2) := dc_16 (a := 85) (by decide +kernel) rfl
theorem d_Mod_firstDraft_63 : decode b_Mod_firstDraft 63 = .ok (.bipush 9, 2) := dc_16 (a := 9) (by decide +kernel) rfl
theorem d_Mod_firstDraft_65 : decode b_Mod_firstDraft 65 = .ok (.iastore, 1) := dc_79 (by decide +kernel)
theorem d_Mod_firstDraft_66 : decode b_Mod_firstDraft 66 = .ok (.aload_n 0, 1) := dc_42 (by decide +kernel)
theorem d_Mod_firstDraft_67 : decode b_Mod_firstDraft 67 = .ok (.iconst 3, 1) := dc_6 (by decide +kernel)
theorem d_Mod_firstDraft_68 : decode b_Mod_firstDraft 68 = .ok (.putfield 62, 3) := dc_181 (a := 0) (b := 62) (by decide +kernel) rfl
theorem d_Mod_firstDraft_71 : decode b_Mod_firstDraft 71 = .ok (.aload_n 0, 1) := dc_42 (by decide +kernel)
theorem d_Mod_firstDraft_72 : decode b_Mod_firstDraft 72 = .ok (.iconst 3, 1) := dc_6 (by decide +kernel)
theorem d_Mod_firstDraft_73 : decode b_Mod_firstDraft 73 = .ok (.putfield 66, 3) := dc_181 (a := 0) (b := 66) (by decide +kernel) rfl
theorem d_Mod_firstDraft_76 : decode b_Mod_firstDraft 76 = .ok (.aload_n 0, 1) := dc_42 (by decide +kernel)
theorem d_Mod_firstDraft_77 : decode b_Mod_firstDraft 77 = .ok (.iconst 1, 1) := dc_4 (by decide +kernel)
theorem d_Mod_firstDraft_78 : decode b_Mod_firstDraft 78 = .ok (.putfield 69, 3) := dc_181 (a := 0) (b := 69) (by decide +kernel) rfl
theorem d_Mod_firstDraft_81 : decode b_Mod_firstDraft 81 = .ok (.aload_n 0, 1) := dc_42 (by decide +kernel)
theorem d_Mod_firstDraft_82 : decode b_Mod_firstDraft 82 = .ok (.bipush 10, 2) := dc_16 (a := 10) (by decide +kernel) rfl
theorem d_Mod_firstDraft_84 : decode b_Mod_firstDraft 84 = .ok (.putfield 72, 3) := dc_181 (a := 0) (b := 72) (by decide +kernel) rfl
theorem d_Mod_firstDraft_87 : decode b_Mod_firstDraft 87 = .ok (.aload_n 0, 1) := dc_42 (by decide +kernel)
theorem d_Mod_firstDraft_88 : decode b_Mod_firstDraft 88 = .ok (.iconst 0, 1) := dc_3 (by decide +kernel)
theorem d_Mod_firstDraft_89 : decode b_Mod_firstDraft 89 = .ok (.putfield 75, 3) := dc_181 (a := 0) (b := 75) (by decide +kernel) rfl
theorem d_Mod_firstDraft_92 : decode b_Mod_firstDraft 92 = .ok (.iconst 0, 1) := dc_3 (by decide +kernel)
theorem d_Mod_firstDraft_93 : decode b_Mod_firstDraft 93 = .ok (.istore_n 1, 1) := dc_60 (by decide +kernel)
theorem d_Mod_firstDraft_94 : decode b_Mod_firstDraft 94 = .ok (.iload_n 1, 1) := dc_27 (by decide +kernel)
theorem d_Mod_firstDraft_95 : decode b_Mod_firstDraft 95 = .ok (.bipush 6, 2) := dc_16 (a := 6) (by decide +kernel) rfl
theorem d_Mod_firstDraft_97 : decode b_Mod_firstDraft 97 = .ok (.if_icmp .ge 16, 3) := dc_162 (a := 0) (b := 16) (by decide +kernel) rfl
theorem d_Mod_firstDraft_100 : decode b_Mod_firstDraft 100 = .ok (.aload_n 0, 1) := dc_42 (by decide +kernel)
theorem d_Mod_firstDraft_101 : decode b_Mod_firstDraft 101 = .ok (.getfield 20, 3) := dc_180 (a := 0) (b := 20) (by decide +kernel) rfl
theorem d_Mod_firstDraft_104 : decode b_Mod_firstDraft 104 = .ok (.iload_n 1, 1) := dc_27 (by decide +kernel)
theorem d_Mod_firstDraft_105 : decode b_Mod_firstDraft 105 = .ok (.iconst 0, 1) := dc_3 (by decide +kernel)
theorem d_Mod_firstDraft_106 : decode b_Mod_firstDraft 106 = .ok (.iastore, 1) := dc_79 (by decide +kernel)
theorem d_Mod_firstDraft_107 : decode b_Mod_firstDraft 107 = .ok (.iinc 1 1, 3) := dc_132 (a := 1) (b := 1) (by decide +kernel) rfl
theorem d_Mod_firstDraft_110 : decode b_Mod_firstDraft 110 = .ok (.goto (-16), 3) := dc_167 (a := 255) (b := 240) (by decide +kernel) rfl
theorem d_Mod_firstDraft_113 : decode b_Mod_firstDraft 113 = .ok (.aload_n 0, 1) := dc_42 (by decide +kernel)
theorem d_Mod_firstDraft_114 : decode b_Mod_firstDraft 114 = .ok (.bipush (-4), 2) := dc_16 (a := 252) (by decide +kernel) rfl
theorem d_Mod_firstDraft_116 : decode b_Mod_firstDraft 116 = .ok (.putfield 78, 3) := dc_181 (a := 0) (b := 78) (by decide +kernel) rfl
theorem d_Mod_firstDraft_119 : decode b_Mod_firstDraft 119 = .ok (.return_, 1) := dc_177 (by decide +kernel)
theorem d_Mod_keepDraft_0 : decode b_Mod_keepDraft 0 = .ok (.iconst 0, 1) := dc_3 (by decide +kernel)
theorem d_Mod_keepDraft_1 : decode b_Mod_keepDraft 1 = .ok (.istore_n 1, 1) := dc_60 (by decide +kernel)
theorem d_Mod_keepDraft_2 : decode b_Mod_keepDraft 2 = .ok (.iload_n 1, 1) := dc_27 (by decide +kernel)
theorem d_Mod_keepDraft_3 : decode b_Mod_keepDraft 3 = .ok (.sipush 144, 3) := dc_17 (a := 0) (b := 144) (by decide +kernel) rfl
theorem d_Mod_keepDraft_6 : decode b_Mod_keepDraft 6 = .ok (.if_icmp .ge 21, 3) := dc_162 (a := 0) (b := 21) (by decide +kernel) rfl
theorem d_Mod_keepDraft_9 : decode b_Mod_keepDraft 9 = .ok (.aload_n 0, 1) := dc_42 (by decide +kernel)
theorem d_Mod_keepDraft_10 : decode b_Mod_keepDraft 10 = .ok (.getfield 7, 3) := dc_180 (a := 0) (b := 7) (by decide +kernel) rfl
theorem d_Mod_keepDraft_13 : decode b_Mod_keepDraft 13 = .ok (.iload_n 1, 1) := dc_27 (by decide +kernel)
theorem d_Mod_keepDraft_14 : decode b_Mod_keepDraft 14 = .ok (.aload_n 0, 1) := dc_42 (by decide +kernel)
theorem d_Mod_keepDraft_15 : decode b_Mod_keepDraft 15 = .ok (.getfield 17, 3) := dc_180 (a := 0) (b := 17) (by decide +kernel) rfl
theorem d_Mod_keepDraft_18 : decode b_Mod_keepDraft 18 = .ok (.iload_n 1, 1) := dc_27 (by decide +kernel)
theorem d_Mod_keepDraft_19 : decode b_Mod_keepDraft 19 = .ok (.iaload, 1) := dc_46 (by decide +kernel)
theorem d_Mod_keepDraft_20 : decode b_Mod_keepDraft 20 = .ok (.iastore, 1) := dc_79 (by decide +kernel)
theorem d_Mod_keepDraft_21 : decode b_Mod_keepDraft 21 = .ok (.iinc 1 1, 3) := dc_132 (a := 1) (b := 1) (by decide +kernel) rfl
theorem d_Mod_keepDraft_24 : decode b_Mod_keepDraft 24 = .ok (.goto (-22), 3) := dc_167 (a := 255) (b := 234) (by decide +kernel) rfl
theorem d_Mod_keepDraft_27 : decode b_Mod_keepDraft 27 = .ok (.aload_n 0, 1) := dc_42 (by decide +kernel)
theorem d_Mod_keepDraft_28 : decode b_Mod_keepDraft 28 = .ok (.aload_n 0, 1) := dc_42 (by decide +kernel)
theorem d_Mod_keepDraft_29 : decode b_Mod_keepDraft 29 = .ok (.getfield 62, 3) := dc_180 (a := 0) (b := 62) (by decide +kernel) rfl
theorem d_Mod_keepDraft_32 : decode b_Mod_keepDraft 32 = .ok (.putfield 81, 3) := dc_181 (a := 0) (b := 81) (by decide +kernel) rfl
theorem d_Mod_keepDraft_35 : decode b_Mod_keepDraft 35 = .ok (.aload_n 0, 1) := dc_42 (by decide +kernel)
theorem d_Mod_keepDraft_36 : decode b_Mod_keepDraft 36 = .ok (.aload_n 0, 1) := dc_42 (by decide +kernel)
theorem d_Mod_keepDraft_37 : decode b_Mod_keepDraft 37 = .ok (.getfield 66, 3) := dc_180 (a := 0) (b := 66) (by decide +kernel) rfl
theorem d_Mod_keepDraft_40 : decode b_Mod_keepDraft 40 = .ok (.putfield 84, 3) := dc_181 (a := 0) (b := 84) (by decide +kernel) rfl
theorem d_Mod_keepDraft_43 : decode b_Mod_keepDraft 43 = .ok (.aload_n 0, 1) := dc_42 (by decide +kernel)
theorem d_Mod_keepDraft_44 : decode b_Mod_keepDraft 44 = .ok (.aload_n 0, 1) := dc_42 (by decide +kernel)
theorem d_Mod_keepDraft_45 : decode b_Mod_keepDraft 45 = .ok (.getfield 69, 3) := dc_180 (a := 0) (b := 69) (by decide +kernel) rfl
theorem d_Mod_keepDraft_48 : decode b_Mod_keepDraft 48 = .ok (.putfield 87, 3) := dc_181 (a := 0) (b := 87) (by decide +kernel) rfl
theorem d_Mod_keepDraft_51 : decode b_Mod_keepDraft 51 = .ok (.aload_n 0, 1) := dc_42 (by decide +kernel)
theorem d_Mod_keepDraft_52 : decode b_Mod_keepDraft 52 = .ok (.aload_n 0, 1) := dc_42 (by decide +kernel)
theorem d_Mod_keepDraft_53 : decode b_Mod_keepDraft 53 = .ok (.getfield 72, 3) := dc_180 (a := 0) (b := 72) (by decide +kernel) rfl
theorem d_Mod_keepDraft_56 : decode b_Mod_keepDraft 56 = .ok (.putfield 90, 3) := dc_181 (a := 0) (b := 90) (by decide +kernel) rfl
theorem d_Mod_keepDraft_59 : decode b_Mod_keepDraft 59 = .ok (.aload_n 0, 1) := dc_42 (by decide +kernel)
theorem d_Mod_keepDraft_60 : decode b_Mod_keepDraft 60 = .ok (.getfield 13, 3) := dc_180 (a := 0) (b := 13) (by decide +kernel) rfl
theorem d_Mod_keepDraft_63 : decode b_Mod_keepDraft 63 = .ok (.iconst 0, 1) := dc_3 (by decide +kernel)
theorem d_Mod_keepDraft_64 : decode b_Mod_keepDraft 64 = .ok (.iconst 0, 1) := dc_3 (by decide +kernel)
theorem d_Mod_keepDraft_65 : decode b_Mod_keepDraft 65 = .ok (.bastore, 1) := dc_84 (by decide +kernel)
theorem d_Mod_keepDraft_66 : decode b_Mod_keepDraft 66 = .ok (.aload_n 0, 1) := dc_42 (by decide +kernel)
theorem d_Mod_keepDraft_67 : decode b_Mod_keepDraft 67 = .ok (.getfield 13, 3) := dc_180 (a := 0) (b := 13) (by decide +kernel) rfl
theorem d_Mod_keepDraft_70 : decode b_Mod_keepDraft 70 = .ok (.iconst 1, 1) := dc_4 (by decide +kernel)
theorem d_Mod_keepDraft_71 : decode b_Mod_keepDraft 71 = .ok (.iconst 0, 1) := dc_3 (by decide +kernel)
theorem d_Mod_keepDraft_72 : decode b_Mod_keepDraft 72 = .ok (.bastore, 1) := dc_84 (by decide +kernel)
theorem d_Mod_keepDraft_73 : decode b_Mod_keepDraft 73 = .ok (.return_, 1) := dc_177 (by decide +kernel)
theorem d_Mod_needs_0 : decode b_Mod_needs 0 = .ok (.iload_n 1, 1) := dc_27 (by decide +kernel)
theorem d_Mod_needs_1 : decode b_Mod_needs 1 = .ok (.ifCond .ne 23, 3) := dc_154 (a := 0) (b := 23) (by decide +kernel) rfl
theorem d_Mod_needs_4 : decode b_Mod_needs 4 = .ok (.aload_n 0, 1) := dc_42 (by decide +kernel)
theorem d_Mod_needs_5 : decode b_Mod_needs 5 = .ok (.getfield 102, 3) := dc_180 (a := 0) (b := 102) (by decide +kernel) rfl
theorem d_Mod_needs_8 : decode b_Mod_needs 8 = .ok (.ifCond .ne 16, 3) := dc_154 (a := 0) (b := 16) (by decide +kernel) rfl
theorem d_Mod_needs_11 : decode b_Mod_needs 11 = .ok (.aload_n 0, 1) := dc_42 (by decide +kernel)
theorem d_Mod_needs_12 : decode b_Mod_needs 12 = .ok (.iload_n 2, 1) := dc_28 (by decide +kernel)
theorem d_Mod_needs_13 : decode b_Mod_needs 13 = .ok (.putfield 102, 3) := dc_181 (a := 0) (b := 102) (by decide +kernel) rfl
theorem d_Mod_needs_16 : decode b_Mod_needs 16 = .ok (.aload_n 0, 1) := dc_42 (by decide +kernel)
theorem d_Mod_needs_17 : decode b_Mod_needs 17 = .ok (.aload_n 0, 1) := dc_42 (by decide +kernel)
theorem d_Mod_needs_18 : decode b_Mod_needs 18 = .ok (.getfield 105, 3) := dc_180 (a := 0) (b := 105) (by decide +kernel) rfl
theorem d_Mod_needs_21 : decode b_Mod_needs 21 = .ok (.putfield 108, 3) := dc_181 (a := 0) (b := 108) (by decide +kernel) rfl
theorem d_Mod_needs_24 : decode b_Mod_needs 24 = .ok (.return_, 1) := dc_177 (by decide +kernel)
theorem d_Mod_is_0 : decode b_Mod_is 0 = .ok (.aload_n 0, 1) := dc_42 (by decide +kernel)
theorem d_Mod_is_1 : decode b_Mod_is 1 = .ok (.getfield 111, 3) := dc_180 (a := 0) (b := 111) (by decide +kernel) rfl
theorem d_Mod_is_4 : decode b_Mod_is 4 = .ok (.aload_n 0, 1) := dc_42 (by decide +kernel)
theorem d_Mod_is_5 : decode b_Mod_is 5 = .ok (.getfield 105, 3) := dc_180 (a := 0) (b := 105) (by decide +kernel) rfl
theorem d_Mod_is_8 : decode b_Mod_is 8 = .ok (.isub, 1) := dc_100 (by decide +kernel)
theorem d_Mod_is_9 : decode b_Mod_is 9 = .ok (.iload_n 1, 1) := dc_27 (by decide +kernel)
theorem d_Mod_is_10 : decode b_Mod_is 10 = .ok (.if_icmp .ne 48, 3) := dc_160 (a := 0) (b := 48) (by decide +kernel) rfl
theorem d_Mod_is_13 : decode b_Mod_is 13 = .ok (.aload_n 0, 1) := dc_42 (by decide +kernel)
theorem d_Mod_is_14 : decode b_Mod_is 14 = .ok (.aload_n 0, 1) := dc_42 (by decide +kernel)
theorem d_Mod_is_15 : decode b_Mod_is 15 = .ok (.getfield 105, 3) := dc_180 (a := 0) (b := 105) (by decide +kernel) rfl
theorem d_Mod_is_18 : decode b_Mod_is 18 = .ok (.invokevirtual 114, 3) := dc_182 (a := 0) (b := 114) (by decide +kernel) rfl
theorem d_Mod_is_21 : decode b_Mod_is 21 = .ok (.iload_n 2, 1) := dc_28 (by decide +kernel)
theorem d_Mod_is_22 : decode b_Mod_is 22 = .ok (.if_icmp .ne 36, 3) := dc_160 (a := 0) (b := 36) (by decide +kernel) rfl
theorem d_Mod_is_25 : decode b_Mod_is 25 = .ok (.aload_n 0, 1) := dc_42 (by decide +kernel)
theorem d_Mod_is_26 : decode b_Mod_is 26 = .ok (.aload_n 0, 1) := dc_42 (by decide +kernel)
theorem d_Mod_is_27 : decode b_Mod_is 27 = .ok (.getfield 105, 3) := dc_180 (a := 0) (b := 105) (by decide +kernel) rfl
theorem d_Mod_is_30 : decode b_Mod_is 30 = .ok (.iconst 1, 1) := dc_4 (by decide +kernel)
theorem d_Mod_is_31 : decode b_Mod_is 31 = .ok (.iadd, 1) := dc_96 (by decide +kernel)
theorem d_Mod_is_32 : decode b_Mod_is 32 = .ok (.invokevirtual 114, 3) := dc_182 (a := 0) (b := 114) (by decide +kernel) rfl
theorem d_Mod_is_35 : decode b_Mod_is 35 = .ok (.iload_n 3, 1) := dc_29 (by decide +kernel)
theorem d_Mod_is_36 : decode b_Mod_is 36 = .ok (.if_icmp .ne 22, 3) := dc_160 (a := 0) (b := 22) (by decide +kernel) rfl
theorem d_Mod_is_39 : decode b_Mod_is 39 = .ok (.aload_n 0, 1) := dc_42 (by decide +kernel)
theorem d_Mod_is_40 : decode b_Mod_is 40 = .ok (.aload_n 0, 1) := dc_42 (by decide +kernel)
theorem d_Mod_is_41 : decode b_Mod_is 41 = .ok (.getfield 105, 3) := dc_180 (a := 0) (b := 105) (by decide +kernel) rfl
theorem d_Mod_is_44 : decode b_Mod_is 44 = .ok (.iconst 2, 1) := dc_5 (by decide +kernel)
theorem d_Mod_is_45 : decode b_Mod_is 45 = .ok (.iadd, 1) := dc_96 (by decide +kernel)
theorem d_Mod_is_46 : decode b_Mod_is 46 = .ok (.invokevirtual 114, 3) := dc_182 (a := 0) (b := 114) (by decide +kernel) rfl
theorem d_Mod_is_49 : decode b_Mod_is 49 = .ok (.iload 4, 2) := dc_21 (a := 4) (by decide +kernel) rfl
theorem d_Mod_is_51 : decode b_Mod_is 51 = .ok (.if_icmp .ne 7, 3) := dc_160 (a := 0) (b := 7) (by decide +kernel) rfl
theorem d_Mod_is_54 : decode b_Mod_is 54 = .ok (.iconst 1, 1) := dc_4 (by decide +kernel)
theorem d_Mod_is_55 : decode b_Mod_is 55 = .ok (.goto 4, 3) := dc_167 (a := 0) (b := 4) (by decide +kernel) rfl
theorem d_Mod_is_58 : decode b_Mod_is 58 = .ok (.iconst 0, 1) := dc_3 (by decide +kernel)
theorem d_Mod_is_59 : decode b_Mod_is 59 = .ok (.ireturn, 1) := dc_172 (by decide +kernel)
theorem d_Mod_ends_0 : decode b_Mod_ends 0 = .ok (.aload_n 0, 1) := dc_42 (by decide +kernel)
theorem d_Mod_ends_1 : decode b_Mod_ends 1 = .ok (.aload_n 0, 1) := dc_42 (by decide +kernel)
theorem d_Mod_ends_2 : decode b_Mod_ends 2 = .ok (.getfield 105, 3) := dc_180 (a := 0) (b := 105) (by decide +kernel) rfl
theorem d_Mod_ends_5 : decode b_Mod_ends 5 = .ok (.iconst 3, 1) := dc_6 (by decide +kernel)
theorem d_Mod_ends_6 : decode b_Mod_ends 6 = .ok (.iadd, 1) := dc_96 (by decide +kernel)
theorem d_Mod_ends_7 : decode b_Mod_ends 7 = .ok (.invokevirtual 114, 3) := dc_182 (a := 0) (b := 114) (by decide +kernel) rfl
theorem d_Mod_ends_10 : decode b_Mod_ends 10 = .ok (.iload_n 1, 1) := dc_27 (by decide +kernel)
theorem d_Mod_ends_11 : decode b_Mod_ends 11 = .ok (.if_icmp .ne 43, 3) := dc_160 (a := 0) (b := 43) (by decide +kernel) rfl
theorem d_Mod_ends_14 : decode b_Mod_ends 14 = .ok (.iload_n 2, 1) := dc_28 (by decide +kernel)
theorem d_Mod_ends_15 : decode b_Mod_ends 15 = .ok (.ifCond .eq 17, 3) := dc_153 (a := 0) (b := 17) (by decide +kernel) rfl
theorem d_Mod_ends_18 : decode b_Mod_ends 18 = .ok (.aload_n 0, 1) := dc_42 (by decide +kernel)
theorem d_Mod_ends_19 : decode b_Mod_ends 19 = .ok (.aload_n 0, 1) := dc_42 (by decide +kernel)
theorem d_Mod_ends_20 : decode b_Mod_ends 20 = .ok (.getfield 105, 3) := dc_180 (a := 0) (b := 105) (by decide +kernel) rfl
theorem d_Mod_ends_23 : decode b_Mod_ends 23 = .ok (.iconst 4, 1) := dc_7 (by decide +kernel)
theorem d_Mod_ends_24 : decode b_Mod_ends 24 = .ok (.iadd, 1) := dc_96 (by decide +kernel)
theorem d_Mod_ends_25 : decode b_Mod_ends 25 = .ok (.invokevirtual 114, 3) := dc_182 (a := 0) (b := 114) (by decide +kernel) rfl
theorem d_Mod_ends_28 : decode b_Mod_ends 28 = .ok (.iload_n 2, 1) := dc_28 (by decide +kernel)
theorem d_Mod_ends_29 : decode b_Mod_ends 29 = .ok (.if_icmp .ne 25, 3) := dc_160 (a := 0) (b := 25) (by decide +kernel) rfl
theorem d_Mod_ends_32 : decode b_Mod_ends 32 = .ok (.iload_n 3, 1) := dc_29 (by decide +kernel)
theorem d_Mod_ends_33 : decode b_Mod_ends 33 = .ok (.ifCond .eq 17, 3) := dc_153 (a := 0) (b := 17) (by decide +kernel) rfl
theorem d_Mod_ends_36 : decode b_Mod_ends 36 = .ok (.aload_n 0, 1) := dc_42 (by decide +kernel)
theorem d_Mod_ends_37 : decode b_Mod_ends 37 = .ok (.aload_n 0, 1) := dc_42 (by decide +kernel)
theorem d_Mod_ends_38 : decode b_Mod_ends 38 = .ok (.getfield 105, 3) := dc_180 (a := 0) (b := 105) (by decide +kernel) rfl
theorem d_Mod_ends_41 : decode b_Mod_ends 41 = .ok (.iconst 5, 1) := dc_8 (by decide +kernel)
theorem d_Mod_ends_42 : decode b_Mod_ends 42 = .ok (.iadd, 1) := dc_96 (by decide +kernel)
theorem d_Mod_ends_43 : decode b_Mod_ends 43 = .ok (.invokevirtual 114, 3) := dc_182 (a := 0) (b := 114) (by decide +kernel) rfl
theorem d_Mod_ends_46 : decode b_Mod_ends 46 = .ok (.iload_n 3, 1) := dc_29 (by decide +kernel)
theorem d_Mod_ends_47 : decode b_Mod_ends 47 = .ok (.if_icmp .ne 7, 3) := dc_160 (a := 0) (b := 7) (by decide +kernel) rfl
theorem d_Mod_ends_50 : decode b_Mod_ends 50 = .ok (.iconst 1, 1) := dc_4 (by decide +kernel)
theorem d_Mod_ends_51 : decode b_Mod_ends 51 = .ok (.goto 4, 3) := dc_167 (a := 0) (b := 4) (by decide +kernel) rfl
theorem d_Mod_ends_54 : decode b_Mod_ends 54 = .ok (.iconst 0, 1) := dc_3 (by decide +kernel)
theorem d_Mod_ends_55 : decode b_Mod_ends 55 = .ok (.ireturn, 1) := dc_172 (by decide +kernel)
theorem d_Mod_ruleLine_0 : decode b_Mod_ruleLine 0 = .ok (.aload_n 0, 1) := dc_42 (by decide +kernel)
theorem d_Mod_ruleLine_1 : decode b_Mod_ruleLine 1 = .ok (.bipush 6, 2) := dc_16 (a := 6) (by decide +kernel) rfl
theorem d_Mod_ruleLine_3 : decode b_Mod_ruleLine 3 = .ok (.bipush 99, 2) := dc_16 (a := 99) (by decide +kernel) rfl
theorem d_Mod_ruleLine_5 : decode b_Mod_ruleLine 5 = .ok (.bipush 111, 2) := dc_16 (a := 111) (by decide +kernel) rfl
theorem d_Mod_ruleLine_7 : decode b_Mod_ruleLine 7 = .ok (.bipush 117, 2) := dc_16 (a := 117) (by decide +kernel) rfl
theorem d_Mod_ruleLine_9 : decode b_Mod_ruleLine 9 = .ok (.invokevirtual 118, 3) := dc_182 (a := 0) (b := 118) (by decide +kernel) rfl
theorem d_Mod_ruleLine_12 : decode b_Mod_ruleLine 12 = .ok (.ifCond .eq 18, 3) := dc_153 (a := 0) (b := 18) (by decide +kernel) rfl
theorem d_Mod_ruleLine_15 : decode b_Mod_ruleLine 15 = .ok (.aload_n 0, 1) := dc_42 (by decide +kernel)
theorem d_Mod_ruleLine_16 : decode b_Mod_ruleLine 16 = .ok (.bipush 110, 2) := dc_16 (a := 110) (by decide +kernel) rfl
theorem d_Mod_ruleLine_18 : decode b_Mod_ruleLine 18 = .ok (.bipush 116, 2) := dc_16 (a := 116) (by decide +kernel) rfl
theorem d_Mod_ruleLine_20 : decode b_Mod_ruleLine 20 = .ok (.bipush 121, 2) := dc_16 (a := 121) (by decide +kernel) rfl
theorem d_Mod_ruleLine_22 : decode b_Mod_ruleLine 22 = .ok (.invokevirtual 122, 3) := dc_182 (a := 0) (b := 122) (by decide +kernel) rfl
theorem d_Mod_ruleLine_25 : decode b_Mod_ruleLine 25 = .ok (.ifCond .eq 5, 3) := dc_153 (a := 0) (b := 5) (by decide +kernel) rfl
theorem d_Mod_ruleLine_28 : decode b_Mod_ruleLine 28 = .ok (.iconst 0, 1) := dc_3 (by decide +kernel)
theorem d_Mod_ruleLine_29 : decode b_Mod_ruleLine 29 = .ok (.ireturn, 1) := dc_172 (by decide +kernel)
theorem d_Mod_ruleLine_30 : decode b_Mod_ruleLine 30 = .ok (.aload_n 0, 1) := dc_42 (by decide +kernel)
theorem d_Mod_ruleLine_31 : decode b_Mod_ruleLine 31 = .ok (.iconst 4, 1) := dc_7 (by decide +kernel)
theorem d_Mod_ruleLine_32 : decode b_Mod_ruleLine 32 = .ok (.bipush 99, 2) := dc_16 (a := 99) (by decide +kernel) rfl
theorem d_Mod_ruleLine_34 : decode b_Mod_ruleLine 34 = .ok (.bipush 111, 2) := dc_16 (a := 111) (by decide +kernel) rfl
theorem d_Mod_ruleLine_36 : decode b_Mod_ruleLine 36 = .ok (.bipush 115, 2) := dc_16 (a := 115) (by decide +kernel) rfl
theorem d_Mod_ruleLine_38 : decode b_Mod_ruleLine 38 = .ok (.invokevirtual 118, 3) := dc_182 (a := 0) (b := 118) (by decide +kernel) rfl
theorem d_Mod_ruleLine_41 : decode b_Mod_ruleLine 41 = .ok (.ifCond .eq 16, 3) := dc_153 (a := 0) (b := 16) (by decide +kernel) rfl
theorem d_Mod_ruleLine_44 : decode b_Mod_ruleLine 44 = .ok (.aload_n 0, 1) := dc_42 (by decide +kernel)
theorem d_Mod_ruleLine_45 : decode b_Mod_ruleLine 45 = .ok (.bipush 116, 2) := dc_16 (a := 116) (by decide +kernel) rfl
theorem d_Mod_ruleLine_47 : decode b_Mod_ruleLine 47 = .ok (.iconst 0, 1) := dc_3 (by decide +kernel)
theorem d_Mod_ruleLine_48 : decode b_Mod_ruleLine 48 = .ok (.iconst 0, 1) := dc_3 (by decide +kernel)
theorem d_Mod_ruleLine_49 : decode b_Mod_ruleLine 49 = .ok (.invokevirtual 122, 3) := dc_182 (a := 0) (b := 122) (by decide +kernel) rfl
theorem d_Mod_ruleLine_52 : decode b_Mod_ruleLine 52 = .ok (.ifCond .eq 5, 3) := dc_153 (a := 0) (b := 5) (by decide +kernel) rfl
theorem d_Mod_ruleLine_55 : decode b_Mod_ruleLine 55 = .ok (.iconst 1, 1) := dc_4 (by decide +kernel)
theorem d_Mod_ruleLine_56 : decode b_Mod_ruleLine 56 = .ok (.ireturn, 1) := dc_172 (by decide +kernel)
theorem d_Mod_ruleLine_57 : decode b_Mod_ruleLine 57 = .ok (.aload_n 0, 1) := dc_42 (by decide +kernel)
theorem d_Mod_ruleLine_58 : decode b_Mod_ruleLine 58 = .ok (.iconst 5, 1) := dc_8 (by decide +kernel)
theorem d_Mod_ruleLine_59 : decode b_Mod_ruleLine 59 = .ok (.bipush 112, 2) := dc_16 (a := 112) (by decide +kernel) rfl
theorem d_Mod_ruleLine_61 : decode b_Mod_ruleLine 61 = .ok (.bipush 114, 2) := dc_16 (a := 114) (by decide +kernel) rfl
theorem d_Mod_ruleLine_63 : decode b_Mod_ruleLine 63 = .ok (.bipush 105, 2) := dc_16 (a := 105) (by decide +kernel) rfl
theorem d_Mod_ruleLine_65 : decode b_Mod_ruleLine 65 = .ok (.invokevirtual 118, 3) := dc_182 (a := 0) (b := 118) (by decide +kernel) rfl
theorem d_Mod_ruleLine_68 : decode b_Mod_ruleLine 68 = .ok (.ifCond .eq 19, 3) := dc_153 (a := 0) (b := 19) (by decide +kernel) rfl
theorem d_Mod_ruleLine_71 : decode b_Mod_ruleLine 71 = .ok (.aload_n 0, 1) := dc_42 (by decide +kernel)
theorem d_Mod_ruleLine_72 : decode b_Mod_ruleLine 72 = .ok (.bipush 99, 2) := dc_16 (a := 99) (by decide +kernel) rfl
theorem d_Mod_ruleLine_74 : decode b_Mod_ruleLine 74 = .ok (.bipush 101, 2) := dc_16 (a := 101) (by decide +kernel) rfl
theorem d_Mod_ruleLine_76 : decode b_Mod_ruleLine 76 = .ok (.iconst 0, 1) := dc_3 (by decide +kernel)
theorem d_Mod_ruleLine_77 : decode b_Mod_ruleLine 77 = .ok (.invokevirtual 122, 3) := dc_182 (a := 0) (b := 122) (by decide +kernel) rfl
theorem d_Mod_ruleLine_80 : decode b_Mod_ruleLine 80 = .ok (.ifCond .eq 7, 3) := dc_153 (a := 0) (b := 7) (by decide +kernel) rfl
theorem d_Mod_ruleLine_83 : decode b_Mod_ruleLine 83 = .ok (.iconst 2, 1) := dc_5 (by decide +kernel)
theorem d_Mod_ruleLine_84 : decode b_Mod_ruleLine 84 = .ok (.goto 23, 3) := dc_167 (a := 0) (b := 23) (by decide +kernel) rfl
theorem d_Mod_ruleLine_87 : decode b_Mod_ruleLine 87 = .ok (.aload_n 0, 1) := dc_42 (by decide +kernel)
theorem d_Mod_ruleLine_88 : decode b_Mod_ruleLine 88 = .ok (.iconst 3, 1) := dc_6 (by decide +kernel)
theorem d_Mod_ruleLine_89 : decode b_Mod_ruleLine 89 = .ok (.bipush 114, 2) := dc_16 (a := 114) (by decide +kernel) rfl
theorem d_Mod_ruleLine_91 : decode b_Mod_ruleLine 91 = .ok (.bipush 111, 2) := dc_16 (a := 111) (by decide +kernel) rfl
theorem d_Mod_ruleLine_93 : decode b_Mod_ruleLine 93 = .ok (.bipush 100, 2) := dc_16 (a := 100) (by decide +kernel) rfl
theorem d_Mod_ruleLine_95 : decode b_Mod_ruleLine 95 = .ok (.invokevirtual 118, 3) := dc_182 (a := 0) (b := 118) (by decide +kernel) rfl
theorem d_Mod_ruleLine_98 : decode b_Mod_ruleLine 98 = .ok (.ifCond .eq 7, 3) := dc_153 (a := 0) (b := 7) (by decide +kernel) rfl
theorem d_Mod_ruleLine_101 : decode b_Mod_ruleLine 101 = .ok (.iconst 3, 1) := dc_6 (by decide +kernel)
theorem d_Mod_ruleLine_102 : decode b_Mod_ruleLine 102 = .ok (.goto 5, 3) := dc_167 (a := 0) (b := 5) (by decide +kernel) rfl
theorem d_Mod_ruleLine_105 : decode b_Mod_ruleLine 105 = .ok (.bipush (-4), 2) := dc_16 (a := 252) (by decide +kernel) rfl
theorem d_Mod_ruleLine_107 : decode b_Mod_ruleLine 107 = .ok (.ireturn, 1) := dc_172 (by decide +kernel)
theorem d_Mod_lineNow_0 : decode b_Mod_lineNow 0 = .ok (.aload_n 0, 1) := dc_42 (by decide +kernel)
theorem d_Mod_lineNow_1 : decode b_Mod_lineNow 1 = .ok (.iconst 3, 1) := dc_6 (by decide +kernel)
theorem d_Mod_lineNow_2 : decode b_Mod_lineNow 2 = .ok (.bipush 119, 2) := dc_16 (a := 119) (by decide +kernel) rfl
theorem d_Mod_lineNow_4 : decode b_Mod_lineNow 4 = .ok (.bipush 101, 2) := dc_16 (a := 101) (by decide +kernel) rfl
theorem d_Mod_lineNow_6 : decode b_Mod_lineNow 6 = .ok (.bipush 116, 2) := dc_16 (a := 116) (by decide +kernel) rfl
theorem d_Mod_lineNow_8 : decode b_Mod_lineNow 8 = .ok (.invokevirtual 118, 3) := dc_182 (a := 0) (b := 118) (by decide +kernel) rfl
theorem d_Mod_lineNow_11 : decode b_Mod_lineNow 11 = .ok (.ifCond .eq 5, 3) := dc_153 (a := 0) (b := 5) (by decide +kernel) rfl
theorem d_Mod_lineNow_14 : decode b_Mod_lineNow 14 = .ok (.iconst 4, 1) := dc_7 (by decide +kernel)
theorem d_Mod_lineNow_15 : decode b_Mod_lineNow 15 = .ok (.ireturn, 1) := dc_172 (by decide +kernel)
theorem d_Mod_lineNow_16 : decode b_Mod_lineNow 16 = .ok (.aload_n 0, 1) := dc_42 (by decide +kernel)
theorem d_Mod_lineNow_17 : decode b_Mod_lineNow 17 = .ok (.iconst 4, 1) := dc_7 (by decide +kernel)
theorem d_Mod_lineNow_18 : decode b_Mod_lineNow 18 = .ok (.bipush 105, 2) := dc_16 (a := 105) (by decide +kernel) rfl
theorem d_Mod_lineNow_20 : decode b_Mod_lineNow 20 = .ok (.bipush 114, 2) := dc_16 (a := 114) (by decide +kernel) rfl
theorem d_Mod_lineNow_22 : decode b_Mod_lineNow 22 = .ok (.bipush 111, 2) := dc_16 (a := 111) (by decide +kernel) rfl
theorem d_Mod_lineNow_24 : decode b_Mod_lineNow 24 = .ok (.invokevirtual 118, 3) := dc_182 (a := 0) (b := 118) (by decide +kernel) rfl
theorem d_Mod_lineNow_27 : decode b_Mod_lineNow 27 = .ok (.ifCond .eq 16, 3) := dc_153 (a := 0) (b := 16) (by decide +kernel) rfl
theorem d_Mod_lineNow_30 : decode b_Mod_lineNow 30 = .ok (.aload_n 0, 1) := dc_42 (by decide +kernel)
theorem d_Mod_lineNow_31 : decode b_Mod_lineNow 31 = .ok (.bipush 110, 2) := dc_16 (a := 110) (by decide +kernel) rfl
theorem d_Mod_lineNow_33 : decode b_Mod_lineNow 33 = .ok (.iconst 0, 1) := dc_3 (by decide +kernel)
theorem d_Mod_lineNow_34 : decode b_Mod_lineNow 34 = .ok (.iconst 0, 1) := dc_3 (by decide +kernel)
theorem d_Mod_lineNow_35 : decode b_Mod_lineNow 35 = .ok (.invokevirtual 122, 3) := dc_182 (a := 0) (b := 122) (by decide +kernel) rfl
theorem d_Mod_lineNow_38 : decode b_Mod_lineNow 38 = .ok (.ifCond .eq 5, 3) := dc_153 (a := 0) (b := 5) (by decide +kernel) rfl
theorem d_Mod_lineNow_41 : decode b_Mod_lineNow 41 = .ok (.iconst 5, 1) := dc_8 (by decide +kernel)
theorem d_Mod_lineNow_42 : decode b_Mod_lineNow 42 = .ok (.ireturn, 1) := dc_172 (by decide +kernel)
theorem d_Mod_lineNow_43 : decode b_Mod_lineNow 43 = .ok (.aload_n 0, 1) := dc_42 (by decide +kernel)
theorem d_Mod_lineNow_44 : decode b_Mod_lineNow 44 = .ok (.iconst 4, 1) := dc_7 (by decide +kernel)
theorem d_Mod_lineNow_45 : decode b_Mod_lineNow 45 = .ok (.bipush 111, 2) := dc_16 (a := 111) (by decide +kernel) rfl
theorem d_Mod_lineNow_47 : decode b_Mod_lineNow 47 = .ok (.bipush 100, 2) := dc_16 (a := 100) (by decide +kernel) rfl
theorem d_Mod_lineNow_49 : decode b_Mod_lineNow 49 = .ok (.bipush 100, 2) := dc_16 (a := 100) (by decide +kernel) rfl
theorem d_Mod_lineNow_51 : decode b_Mod_lineNow 51 = .ok (.invokevirtual 118, 3) := dc_182 (a := 0) (b := 118) (by decide +kernel) rfl
theorem d_Mod_lineNow_54 : decode b_Mod_lineNow 54 = .ok (.ifCond .eq 17, 3) := dc_153 (a := 0) (b := 17) (by decide +kernel) rfl
theorem d_Mod_lineNow_57 : decode b_Mod_lineNow 57 = .ok (.aload_n 0, 1) := dc_42 (by decide +kernel)
theorem d_Mod_lineNow_58 : decode b_Mod_lineNow 58 = .ok (.bipush 115, 2) := dc_16 (a := 115) (by decide +kernel) rfl
theorem d_Mod_lineNow_60 : decode b_Mod_lineNow 60 = .ok (.iconst 0, 1) := dc_3 (by decide +kernel)
theorem d_Mod_lineNow_61 : decode b_Mod_lineNow 61 = .ok (.iconst 0, 1) := dc_3 (by decide +kernel)
theorem d_Mod_lineNow_62 : decode b_Mod_lineNow 62 = .ok (.invokevirtual 122, 3) := dc_182 (a := 0) (b := 122) (by decide +kernel) rfl
theorem d_Mod_lineNow_65 : decode b_Mod_lineNow 65 = .ok (.ifCond .eq 6, 3) := dc_153 (a := 0) (b := 6) (by decide +kernel) rfl
theorem d_Mod_lineNow_68 : decode b_Mod_lineNow 68 = .ok (.bipush 6, 2) := dc_16 (a := 6) (by decide +kernel) rfl
theorem d_Mod_lineNow_70 : decode b_Mod_lineNow 70 = .ok (.ireturn, 1) := dc_172 (by decide +kernel)
theorem d_Mod_lineNow_71 : decode b_Mod_lineNow 71 = .ok (.aload_n 0, 1) := dc_42 (by decide +kernel)
theorem d_Mod_lineNow_72 : decode b_Mod_lineNow 72 = .ok (.iconst 5, 1) := dc_8 (by decide +kernel)
theorem d_Mod_lineNow_73 : decode b_Mod_lineNow 73 = .ok (.bipush 99, 2) := dc_16 (a := 99) (by decide +kernel) rfl
theorem d_Mod_lineNow_75 : decode b_Mod_lineNow 75 = .ok (.bipush 108, 2) := dc_16 (a := 108) (by decide +kernel) rfl
theorem d_Mod_lineNow_77 : decode b_Mod_lineNow 77 = .ok (.bipush 97, 2) := dc_16 (a := 97) (by decide +kernel) rfl
theorem d_Mod_lineNow_79 : decode b_Mod_lineNow 79 = .ok (.invokevirtual 118, 3) := dc_182 (a := 0) (b := 118) (by decide +kernel) rfl
theorem d_Mod_lineNow_82 : decode b_Mod_lineNow 82 = .ok (.ifCond .eq 18, 3) := dc_153 (a := 0) (b := 18) (by decide +kernel) rfl
theorem d_Mod_lineNow_85 : decode b_Mod_lineNow 85 = .ok (.aload_n 0, 1) := dc_42 (by decide +kernel)
theorem d_Mod_lineNow_86 : decode b_Mod_lineNow 86 = .ok (.bipush 105, 2) := dc_16 (a := 105) (by decide +kernel) rfl
theorem d_Mod_lineNow_88 : decode b_Mod_lineNow 88 = .ok (.bipush 109, 2) := dc_16 (a := 109) (by decide +kernel) rfl
theorem d_Mod_lineNow_90 : decode b_Mod_lineNow 90 = .ok (.iconst 0, 1) := dc_3 (by decide +kernel)
theorem d_Mod_lineNow_91 : decode b_Mod_lineNow 91 = .ok (.invokevirtual 122, 3) := dc_182 (a := 0) (b := 122) (by decide +kernel) rfl
theorem d_Mod_lineNow_94 : decode b_Mod_lineNow 94 = .ok (.ifCond .eq 6, 3) := dc_153 (a := 0) (b := 6) (by decide +kernel) rfl
theorem d_Mod_lineNow_97 : decode b_Mod_lineNow 97 = .ok (.bipush 7, 2) := dc_16 (a := 7) (by decide +kernel) rfl
theorem d_Mod_lineNow_99 : decode b_Mod_lineNow 99 = .ok (.ireturn, 1) := dc_172 (by decide +kernel)
theorem d_Mod_lineNow_100 : decode b_Mod_lineNow 100 = .ok (.aload_n 0, 1) := dc_42 (by decide +kernel)
theorem d_Mod_lineNow_101 : decode b_Mod_lineNow 101 = .ok (.iconst 5, 1) := dc_8 (by decide +kernel)
theorem d_Mod_lineNow_102 : decode b_Mod_lineNow 102 = .ok (.bipush 112, 2) := dc_16 (a := 112) (by decide +kernel) rfl
theorem d_Mod_lineNow_104 : decode b_Mod_lineNow 104 = .ok (.bipush 117, 2) := dc_16 (a := 117) (by decide +kernel) rfl
theorem d_Mod_lineNow_106 : decode b_Mod_lineNow 106 = .ok (.bipush 114, 2) := dc_16 (a := 114) (by decide +kernel) rfl
theorem d_Mod_lineNow_108 : decode b_Mod_lineNow 108 = .ok (.invokevirtual 118, 3) := dc_182 (a := 0) (b := 118) (by decide +kernel) rfl
theorem d_Mod_lineNow_111 : decode b_Mod_lineNow 111 = .ok (.ifCond .eq 20, 3) := dc_153 (a := 0) (b := 20) (by decide +kernel) rfl
theorem d_Mod_lineNow_114 : decode b_Mod_lineNow 114 = .ok (.aload_n 0, 1) := dc_42 (by decide +kernel)
theorem d_Mod_lineNow_115 : decode b_Mod_lineNow 115 = .ok (.bipush 115, 2) := dc_16 (a := 115) (by decide +kernel) rfl
theorem d_Mod_lineNow_117 : decode b_Mod_lineNow 117 = .ok (.bipush 101, 2) := dc_16 (a := 101) (by decide +kernel) rfl
theorem d_Mod_lineNow_119 : decode b_Mod_lineNow 119 = .ok (.iconst 0, 1) := dc_3 (by decide +kernel)
theorem d_Mod_lineNow_120 : decode b_Mod_lineNow 120 = .ok (.invokevirtual 122, 3) := dc_182 (a := 0) (b := 122) (by decide +kernel) rfl
theorem d_Mod_lineNow_123 : decode b_Mod_lineNow 123 = .ok (.ifCond .eq 8, 3) := dc_153 (a := 0) (b := 8) (by decide +kernel) rfl
theorem d_Mod_lineNow_126 : decode b_Mod_lineNow 126 = .ok (.bipush 8, 2) := dc_16 (a := 8) (by decide +kernel) rfl
theorem d_Mod_lineNow_128 : decode b_Mod_lineNow 128 = .ok (.goto 26, 3) := dc_167 (a := 0) (b := 26) (by decide +kernel) rfl
theorem d_Mod_lineNow_131 : decode b_Mod_lineNow 131 = .ok (.aload_n 0, 1) := dc_42 (by decide +kernel)
theorem d_Mod_lineNow_132 : decode b_Mod_lineNow 132 = .ok (.iconst 3, 1) := dc_6 (by decide +kernel)
theorem d_Mod_lineNow_133 : decode b_Mod_lineNow 133 = .ok (.bipush 111, 2) := dc_16 (a := 111) (by decide +kernel) rfl
theorem d_Mod_lineNow_135 : decode b_Mod_lineNow 135 = .ok (.bipush 119, 2) := dc_16 (a := 119) (by decide +kernel) rfl
theorem d_Mod_lineNow_137 : decode b_Mod_lineNow 137 = .ok (.bipush 101, 2) := dc_16 (a := 101) (by decide +kernel) rfl
theorem d_Mod_lineNow_139 : decode b_Mod_lineNow 139 = .ok (.invokevirtual 118, 3) := dc_182 (a := 0) (b := 118) (by decide +kernel) rfl
theorem d_Mod_lineNow_142 : decode b_Mod_lineNow 142 = .ok (.ifCond .eq 8, 3) := dc_153 (a := 0) (b := 8) (by decide +kernel) rfl
theorem d_Mod_lineNow_145 : decode b_Mod_lineNow 145 = .ok (.bipush 9, 2) := dc_16 (a := 9) (by decide +kernel) rfl
theorem d_Mod_lineNow_147 : decode b_Mod_lineNow 147 = .ok (.goto 7, 3) := dc_167 (a := 0) (b := 7) (by decide +kernel) rfl
theorem d_Mod_lineNow_150 : decode b_Mod_lineNow 150 = .ok (.aload_n 0, 1) := dc_42 (by decide +kernel)
theorem d_Mod_lineNow_151 : decode b_Mod_lineNow 151 = .ok (.invokevirtual 126, 3) := dc_182 (a := 0) (b := 126) (by decide +kernel) rfl
theorem d_Mod_lineNow_154 : decode b_Mod_lineNow 154 = .ok (.ireturn, 1) := dc_172 (by decide +kernel)
theorem d_Mod_natureNow_0 : decode b_Mod_natureNow 0 = .ok (.aload_n 0, 1) := dc_42 (by decide +kernel)
theorem d_Mod_natureNow_1 : decode b_Mod_natureNow 1 = .ok (.iconst 5, 1) := dc_8 (by decide +kernel)
theorem d_Mod_natureNow_2 : decode b_Mod_natureNow 2 = .ok (.bipush 119, 2) := dc_16 (a := 119) (by decide +kernel) rfl
theorem d_Mod_natureNow_4 : decode b_Mod_natureNow 4 = .ok (.bipush 97, 2) := dc_16 (a := 97) (by decide +kernel) rfl
theorem d_Mod_natureNow_6 : decode b_Mod_natureNow 6 = .ok (.bipush 116, 2) := dc_16 (a := 116) (by decide +kernel) rfl
theorem d_Mod_natureNow_8 : decode b_Mod_natureNow 8 = .ok (.invokevirtual 118, 3) := dc_182 (a := 0) (b := 118) (by decide +kernel) rfl
theorem d_Mod_natureNow_11 : decode b_Mod_natureNow 11 = .ok (.ifCond .eq 17, 3) := dc_153 (a := 0) (b := 17) (by decide +kernel) rfl
theorem d_Mod_natureNow_14 : decode b_Mod_natureNow 14 = .ok (.aload_n 0, 1) := dc_42 (by decide +kernel)
theorem d_Mod_natureNow_15 : decode b_Mod_natureNow 15 = .ok (.bipush 101, 2) := dc_16 (a := 101) (by decide +kernel) rfl
theorem d_Mod_natureNow_17 : decode b_Mod_natureNow 17 = .ok (.bipush 114, 2) := dc_16 (a := 114) (by decide +kernel) rfl
theorem d_Mod_natureNow_19 : decode b_Mod_natureNow 19 = .ok (.iconst 0, 1) := dc_3 (by decide +kernel)
theorem d_Mod_natureNow_20 : decode b_Mod_natureNow 20 = .ok (.invokevirtual 122, 3) := dc_182 (a := 0) (b := 122) (by decide +kernel) rfl
theorem d_Mod_natureNow_23 : decode b_Mod_natureNow 23 = .ok (.ifCond .eq 5, 3) := dc_153 (a := 0) (b := 5) (by decide +kernel) rfl
theorem d_Mod_natureNow_26 : decode b_Mod_natureNow 26 = .ok (.iconst 0, 1) := dc_3 (by decide +kernel)
theorem d_Mod_natureNow_27 : decode b_Mod_natureNow 27 = .ok (.ireturn, 1) := dc_172 (by decide +kernel)
theorem d_Mod_natureNow_28 : decode b_Mod_natureNow 28 = .ok (.aload_n 0, 1) := dc_42 (by decide +kernel)
theorem d_Mod_natureNow_29 : decode b_Mod_natureNow 29 = .ok (.iconst 4, 1) := dc_7 (by decide +kernel)
theorem d_Mod_natureNow_30 : decode b_Mod_natureNow 30 = .ok (.bipush 105, 2) := dc_16 (a := 105) (by decide +kernel) rfl
theorem d_Mod_natureNow_32 : decode b_Mod_natureNow 32 = .ok (.bipush 114, 2) := dc_16 (a := 114) (by decide +kernel) rfl
theorem d_Mod_natureNow_34 : decode b_Mod_natureNow 34 = .ok (.bipush 111, 2) := dc_16 (a := 111) (by decide +kernel) rfl
theorem d_Mod_natureNow_36 : decode b_Mod_natureNow 36 = .ok (.invokevirtual 118, 3) := dc_182 (a := 0) (b := 118) (by decide +kernel) rfl
theorem d_Mod_natureNow_39 : decode b_Mod_natureNow 39 = .ok (.ifCond .eq 16, 3) := dc_153 (a := 0) (b := 16) (by decide +kernel) rfl
theorem d_Mod_natureNow_42 : decode b_Mod_natureNow 42 = .ok (.aload_n 0, 1) := dc_42 (by decide +kernel)
theorem d_Mod_natureNow_43 : decode b_Mod_natureNow 43 = .ok (.bipush 110, 2) := dc_16 (a := 110) (by decide +kernel) rfl
theorem d_Mod_natureNow_45 : decode b_Mod_natureNow 45 = .ok (.iconst 0, 1) := dc_3 (by decide +kernel)
theorem d_Mod_natureNow_46 : decode b_Mod_natureNow 46 = .ok (.iconst 0, 1) := dc_3 (by decide +kernel)
theorem d_Mod_natureNow_47 : decode b_Mod_natureNow 47 = .ok (.invokevirtual 122, 3) := dc_182 (a := 0) (b := 122) (by decide +kernel) rfl
theorem d_Mod_natureNow_50 : decode b_Mod_natureNow 50 = .ok (.ifCond .eq 5, 3) := dc_153 (a := 0) (b := 5) (by decide +kernel) rfl
theorem d_Mod_natureNow_53 : decode b_Mod_natureNow 53 = .ok (.iconst 1, 1) := dc_4 (by decide +kernel)
theorem d_Mod_natureNow_54 : decode b_Mod_natureNow 54 = .ok (.ireturn, 1) := dc_172 (by decide +kernel)
theorem d_Mod_natureNow_55 : decode b_Mod_natureNow 55 = .ok (.aload_n 0, 1) := dc_42 (by decide +kernel)
theorem d_Mod_natureNow_56 : decode b_Mod_natureNow 56 = .ok (.iconst 5, 1) := dc_8 (by decide +kernel)
theorem d_Mod_natureNow_57 : decode b_Mod_natureNow 57 = .ok (.bipush 115, 2) := dc_16 (a := 115) (by decide +kernel) rfl
theorem d_Mod_natureNow_59 : decode b_Mod_natureNow 59 = .ok (.bipush 116, 2) := dc_16 (a := 116) (by decide +kernel) rfl
theorem d_Mod_natureNow_61 : decode b_Mod_natureNow 61 = .ok (.bipush 101, 2) := dc_16 (a := 101) (by decide +kernel) rfl
theorem d_Mod_natureNow_63 : decode b_Mod_natureNow 63 = .ok (.invokevirtual 118, 3) := dc_182 (a := 0) (b := 118) (by decide +kernel) rfl
theorem d_Mod_natureNow_66 : decode b_Mod_natureNow 66 = .ok (.ifCond .eq 17, 3) := dc_153 (a := 0) (b := 17) (by decide +kernel) rfl
theorem d_Mod_natureNow_69 : decode b_Mod_natureNow 69 = .ok (.aload_n 0, 1) := dc_42 (by decide +kernel)
theorem d_Mod_natureNow_70 : decode b_Mod_natureNow 70 = .ok (.bipush 112, 2) := dc_16 (a := 112) (by decide +kernel) rfl
theorem d_Mod_natureNow_72 : decode b_Mod_natureNow 72 = .ok (.bipush 115, 2) := dc_16 (a := 115) (by decide +kernel) rfl
theorem d_Mod_natureNow_74 : decode b_Mod_natureNow 74 = .ok (.iconst 0, 1) := dc_3 (by decide +kernel)
theorem d_Mod_natureNow_75 : decode b_Mod_natureNow 75 = .ok (.invokevirtual 122, 3) := dc_182 (a := 0) (b := 122) (by decide +kernel) rfl
theorem d_Mod_natureNow_78 : decode b_Mod_natureNow 78 = .ok (.ifCond .eq 5, 3) := dc_153 (a := 0) (b := 5) (by decide +kernel) rfl
theorem d_Mod_natureNow_81 : decode b_Mod_natureNow 81 = .ok (.iconst 2, 1) := dc_5 (by decide +kernel)
theorem d_Mod_natureNow_82 : decode b_Mod_natureNow 82 = .ok (.ireturn, 1) := dc_172 (by decide +kernel)
theorem d_Mod_natureNow_83 : decode b_Mod_natureNow 83 = .ok (.aload_n 0, 1) := dc_42 (by decide +kernel)
theorem d_Mod_natureNow_84 : decode b_Mod_natureNow 84 = .ok (.bipush 6, 2) := dc_16 (a := 6) (by decide +kernel) rfl
theorem d_Mod_natureNow_86 : decode b_Mod_natureNow 86 = .ok (.bipush 119, 2) := dc_16 (a := 119) (by decide +kernel) rfl
theorem d_Mod_natureNow_88 : decode b_Mod_natureNow 88 = .ok (.bipush 105, 2) := dc_16 (a := 105) (by decide +kernel) rfl
theorem d_Mod_natureNow_90 : decode b_Mod_natureNow 90 = .ok (.bipush 115, 2) := dc_16 (a := 115) (by decide +kernel) rfl
theorem d_Mod_natureNow_92 : decode b_Mod_natureNow 92 = .ok (.invokevirtual 118, 3) := dc_182 (a := 0) (b := 118) (by decide +kernel) rfl
theorem d_Mod_natureNow_95 : decode b_Mod_natureNow 95 = .ok (.ifCond .eq 20, 3) := dc_153 (a := 0) (b := 20) (by decide +kernel) rfl
theorem d_Mod_natureNow_98 : decode b_Mod_natureNow 98 = .ok (.aload_n 0, 1) := dc_42 (by decide +kernel)
theorem d_Mod_natureNow_99 : decode b_Mod_natureNow 99 = .ok (.bipush 104, 2) := dc_16 (a := 104) (by decide +kernel) rfl
theorem d_Mod_natureNow_101 : decode b_Mod_natureNow 101 = .ok (.bipush 101, 2) := dc_16 (a := 101) (by decide +kernel) rfl
theorem d_Mod_natureNow_103 : decode b_Mod_natureNow 103 = .ok (.bipush 115, 2) := dc_16 (a := 115) (by decide +kernel) rfl
theorem d_Mod_natureNow_105 : decode b_Mod_natureNow 105 = .ok (.invokevirtual 122, 3) := dc_182 (a := 0) (b := 122) (by decide +kernel) rfl
theorem d_Mod_natureNow_108 : decode b_Mod_natureNow 108 = .ok (.ifCond .eq 7, 3) := dc_153 (a := 0) (b := 7) (by decide +kernel) rfl
theorem d_Mod_natureNow_111 : decode b_Mod_natureNow 111 = .ok (.iconst 3, 1) := dc_6 (by decide +kernel)
theorem d_Mod_natureNow_112 : decode b_Mod_natureNow 112 = .ok (.goto 34, 3) := dc_167 (a := 0) (b := 34) (by decide +kernel) rfl
theorem d_Mod_natureNow_115 : decode b_Mod_natureNow 115 = .ok (.aload_n 0, 1) := dc_42 (by decide +kernel)
theorem d_Mod_natureNow_116 : decode b_Mod_natureNow 116 = .ok (.iconst 4, 1) := dc_7 (by decide +kernel)
theorem d_Mod_natureNow_117 : decode b_Mod_natureNow 117 = .ok (.bipush 98, 2) := dc_16 (a := 98) (by decide +kernel) rfl
theorem d_Mod_natureNow_119 : decode b_Mod_natureNow 119 = .ok (.bipush 111, 2) := dc_16 (a := 111) (by decide +kernel) rfl
theorem d_Mod_natureNow_121 : decode b_Mod_natureNow 121 = .ok (.bipush 116, 2) := dc_16 (a := 116) (by decide +kernel) rfl
theorem d_Mod_natureNow_123 : decode b_Mod_natureNow 123 = .ok (.invokevirtual 118, 3) := dc_182 (a := 0) (b := 118) (by decide +kernel) rfl
theorem d_Mod_natureNow_126 : decode b_Mod_natureNow 126 = .ok (.ifCond .eq 18, 3) := dc_153 (a := 0) (b := 18) (by decide +kernel) rfl
theorem d_Mod_natureNow_129 : decode b_Mod_natureNow 129 = .ok (.aload_n 0, 1) := dc_42 (by decide +kernel)
theorem d_Mod_natureNow_130 : decode b_Mod_natureNow 130 = .ok (.bipush 104, 2) := dc_16 (a := 104) (by decide +kernel) rfl
theorem d_Mod_natureNow_132 : decode b_Mod_natureNow 132 = .ok (.iconst 0, 1) := dc_3 (by decide +kernel)
theorem d_Mod_natureNow_133 : decode b_Mod_natureNow 133 = .ok (.iconst 0, 1) := dc_3 (by decide +kernel)
theorem d_Mod_natureNow_134 : decode b_Mod_natureNow 134 = .ok (.invokevirtual 122, 3) := dc_182 (a := 0) (b := 122) (by decide +kernel) rfl
theorem d_Mod_natureNow_137 : decode b_Mod_natureNow 137 = .ok (.ifCond .eq 7, 3) := dc_153 (a := 0) (b := 7) (by decide +kernel) rfl
theorem d_Mod_natureNow_140 : decode b_Mod_natureNow 140 = .ok (.iconst 4, 1) := dc_7 (by decide +kernel)
theorem d_Mod_natureNow_141 : decode b_Mod_natureNow 141 = .ok (.goto 5, 3) := dc_167 (a := 0) (b := 5) (by decide +kernel) rfl
theorem d_Mod_natureNow_144 : decode b_Mod_natureNow 144 = .ok (.bipush (-4), 2) := dc_16 (a := 252) (by decide +kernel) rfl
theorem d_Mod_natureNow_146 : decode b_Mod_natureNow 146 = .ok (.ireturn, 1) := dc_172 (by decide +kernel)
theorem d_Mod_next_0 : decode b_Mod_next 0 = .ok (.aload_n 0, 1) := dc_42 (by decide +kernel)
theorem d_Mod_next_1 : decode b_Mod_next 1 = .ok (.getfield 102, 3) := dc_180 (a := 0) (b := 102) (by decide +kernel) rfl
theorem d_Mod_next_4 : decode b_Mod_next 4 = .ok (.ifCond .le 4, 3) := dc_158 (a := 0) (b := 4) (by decide +kernel) rfl
theorem d_Mod_next_7 : decode b_Mod_next 7 = .ok (.return_, 1) := dc_177 (by decide +kernel)
theorem d_Mod_next_8 : decode b_Mod_next 8 = .ok (.aload_n 0, 1) := dc_42 (by decide +kernel)
theorem d_Mod_next_9 : decode b_Mod_next 9 = .ok (.aload_n 0, 1) := dc_42 (by decide +kernel)
theorem d_Mod_next_10 : decode b_Mod_next 10 = .ok (.getfield 111, 3) := dc_180 (a := 0) (b := 111) (by decide +kernel) rfl
theorem d_Mod_next_13 : decode b_Mod_next 13 = .ok (.invokevirtual 114, 3) := dc_182 (a := 0) (b := 114) (by decide +kernel) rfl
theorem d_Mod_next_16 : decode b_Mod_next 16 = .ok (.bipush 32, 2) := dc_16 (a := 32) (by decide +kernel) rfl
theorem d_Mod_next_18 : decode b_Mod_next 18 = .ok (.if_icmp .ne 16, 3) := dc_160 (a := 0) (b := 16) (by decide +kernel) rfl
theorem d_Mod_next_21 : decode b_Mod_next 21 = .ok (.aload_n 0, 1) := dc_42 (by decide +kernel)
theorem d_Mod_next_22 : decode b_Mod_next 22 = .ok (.dup, 1) := dc_89 (by decide +kernel)
theorem d_Mod_next_23 : decode b_Mod_next 23 = .ok (.getfield 111, 3) := dc_180 (a := 0) (b := 111) (by decide +kernel) rfl
theorem d_Mod_next_26 : decode b_Mod_next 26 = .ok (.iconst 1, 1) := dc_4 (by decide +kernel)
theorem d_Mod_next_27 : decode b_Mod_next 27 = .ok (.iadd, 1) := dc_96 (by decide +kernel)
theorem d_Mod_next_28 : decode b_Mod_next 28 = .ok (.putfield 111, 3) := dc_181 (a := 0) (b := 111) (by decide +kernel) rfl
theorem d_Mod_next_31 : decode b_Mod_next 31 = .ok (.goto (-23), 3) := dc_167 (a := 255) (b := 233) (by decide +kernel) rfl
theorem d_Mod_next_34 : decode b_Mod_next 34 = .ok (.aload_n 0, 1) := dc_42 (by decide +kernel)
theorem d_Mod_next_35 : decode b_Mod_next 35 = .ok (.aload_n 0, 1) := dc_42 (by decide +kernel)
theorem d_Mod_next_36 : decode b_Mod_next 36 = .ok (.getfield 111, 3) := dc_180 (a := 0) (b := 111) (by decide +kernel) rfl
theorem d_Mod_next_39 : decode b_Mod_next 39 = .ok (.putfield 105, 3) := dc_181 (a := 0) (b := 105) (by decide +kernel) rfl
theorem d_Mod_next_42 : decode b_Mod_next 42 = .ok (.aload_n 0, 1) := dc_42 (by decide +kernel)
theorem d_Mod_next_43 : decode b_Mod_next 43 = .ok (.aload_n 0, 1) := dc_42 (by decide +kernel)
theorem d_Mod_next_44 : decode b_Mod_next 44 = .ok (.getfield 111, 3) := dc_180 (a := 0) (b := 111) (by decide +kernel) rfl
theorem d_Mod_next_47 : decode b_Mod_next 47 = .ok (.invokevirtual 114, 3) := dc_182 (a := 0) (b := 114) (by decide +kernel) rfl
theorem d_Mod_next_50 : decode b_Mod_next 50 = .ok (.istore_n 1, 1) := dc_60 (by decide +kernel)
theorem d_Mod_next_51 : decode b_Mod_next 51 = .ok (.iload_n 1, 1) := dc_27 (by decide +kernel)
theorem d_Mod_next_52 : decode b_Mod_next 52 = .ok (.ifCond .ge 11, 3) := dc_156 (a := 0) (b := 11) (by decide +kernel) rfl
theorem d_Mod_next_55 : decode b_Mod_next 55 = .ok (.aload_n 0, 1) := dc_42 (by decide +kernel)
theorem d_Mod_next_56 : decode b_Mod_next 56 = .ok (.iconst 0, 1) := dc_3 (by decide +kernel)
theorem d_Mod_next_57 : decode b_Mod_next 57 = .ok (.putfield 130, 3) := dc_181 (a := 0) (b := 130) (by decide +kernel) rfl
theorem d_Mod_next_60 : decode b_Mod_next 60 = .ok (.goto 214, 3) := dc_167 (a := 0) (b := 214) (by decide +kernel) rfl
theorem d_Mod_next_63 : decode b_Mod_next 63 = .ok (.iload_n 1, 1) := dc_27 (by decide +kernel)
theorem d_Mod_next_64 : decode b_Mod_next 64 = .ok (.i2l, 1) := dc_133 (by decide +kernel)
theorem d_Mod_next_65 : decode b_Mod_next 65 = .ok (.ldc2_w 133, 3) := dc_20 (a := 0) (b := 133) (by decide +kernel) rfl
theorem d_Mod_next_68 : decode b_Mod_next 68 = .ok (.ldc2_w 135, 3) := dc_20 (a := 0) (b := 135) (by decide +kernel) rfl
theorem d_Mod_next_71 : decode b_Mod_next 71 = .ok (.invokestatic 95, 3) := dc_184 (a := 0) (b := 95) (by decide +kernel) rfl
theorem d_Mod_next_74 : decode b_Mod_next 74 = .ok (.ifCond .eq 42, 3) := dc_153 (a := 0) (b := 42) (by decide +kernel) rfl
theorem d_Mod_next_77 : decode b_Mod_next 77 = .ok (.aload_n 0, 1) := dc_42 (by decide +kernel)
theorem d_Mod_next_78 : decode b_Mod_next 78 = .ok (.iconst 1, 1) := dc_4 (by decide +kernel)
theorem d_Mod_next_79 : decode b_Mod_next 79 = .ok (.putfield 130, 3) := dc_181 (a := 0) (b := 130) (by decide +kernel) rfl
theorem d_Mod_next_82 : decode b_Mod_next 82 = .ok (.aload_n 0, 1) := dc_42 (by decide +kernel)
theorem d_Mod_next_83 : decode b_Mod_next 83 = .ok (.aload_n 0, 1) := dc_42 (by decide +kernel)
theorem d_Mod_next_84 : decode b_Mod_next 84 = .ok (.getfield 111, 3) := dc_180 (a := 0) (b := 111) (by decide +kernel) rfl
theorem d_Mod_next_87 : decode b_Mod_next 87 = .ok (.invokevirtual 114, 3) := dc_182 (a := 0) (b := 114) (by decide +kernel) rfl
theorem d_Mod_next_90 : decode b_Mod_next 90 = .ok (.i2l, 1) := dc_133 (by decide +kernel)
theorem d_Mod_next_91 : decode b_Mod_next 91 = .ok (.ldc2_w 133, 3) := dc_20 (a := 0) (b := 133) (by decide +kernel) rfl
theorem d_Mod_next_94 : decode b_Mod_next 94 = .ok (.ldc2_w 135, 3) := dc_20 (a := 0) (b := 135) (by decide +kernel) rfl
theorem d_Mod_next_97 : decode b_Mod_next 97 = .ok (.invokestatic 95, 3) := dc_184 (a := 0) (b := 95) (by decide +kernel) rfl
theorem d_Mod_next_100 : decode b_Mod_next 100 = .ok (.ifCond .eq 174, 3) := dc_153 (a := 0) (b := 174) (by decide +kernel) rfl
theorem d_Mod_next_103 : decode b_Mod_next 103 = .ok (.aload_n 0, 1) := dc_42 (by decide +kernel)
theorem d_Mod_next_104 : decode b_Mod_next 104 = .ok (.dup, 1) := dc_89 (by decide +kernel)
theorem d_Mod_next_105 : decode b_Mod_next 105 = .ok (.getfield 111, 3) := dc_180 (a := 0) (b := 111) (by decide +kernel) rfl
theorem d_Mod_next_108 : decode b_Mod_next 108 = .ok (.iconst 1, 1) := dc_4 (by decide +kernel)
theorem d_Mod_next_109 : decode b_Mod_next 109 = .ok (.iadd, 1) := dc_96 (by decide +kernel)
theorem d_Mod_next_110 : decode b_Mod_next 110 = .ok (.putfield 111, 3) := dc_181 (a := 0) (b := 111) (by decide +kernel) rfl
theorem d_Mod_next_113 : decode b_Mod_next 113 = .ok (.goto (-31), 3) := dc_167 (a := 255) (b := 225) (by decide +kernel) rfl
theorem d_Mod_next_116 : decode b_Mod_next 116 = .ok (.iload_n 1, 1) := dc_27 (by decide +kernel)
theorem d_Mod_next_117 : decode b_Mod_next 117 = .ok (.i2l, 1) := dc_133 (by decide +kernel)
theorem d_Mod_next_118 : decode b_Mod_next 118 = .ok (.ldc2_w 137, 3) := dc_20 (a := 0) (b := 137) (by decide +kernel) rfl
theorem d_Mod_next_121 : decode b_Mod_next 121 = .ok (.ldc2_w 139, 3) := dc_20 (a := 0) (b := 139) (by decide +kernel) rfl
theorem d_Mod_next_124 : decode b_Mod_next 124 = .ok (.invokestatic 95, 3) := dc_184 (a := 0) (b := 95) (by decide +kernel) rfl
theorem d_Mod_next_127 : decode b_Mod_next 127 = .ok (.ifCond .eq 116, 3) := dc_153 (a := 0) (b := 116) (by decide +kernel) rfl
theorem d_Mod_next_130 : decode b_Mod_next 130 = .ok (.aload_n 0, 1) := dc_42 (by decide +kernel)
theorem d_Mod_next_131 : decode b_Mod_next 131 = .ok (.iconst 2, 1) := dc_5 (by decide +kernel)
theorem d_Mod_next_132 : decode b_Mod_next 132 = .ok (.putfield 130, 3) := dc_181 (a := 0) (b := 130) (by decide +kernel) rfl
theorem d_Mod_next_135 : decode b_Mod_next 135 = .ok (.aload_n 0, 1) := dc_42 (by decide +kernel)
theorem d_Mod_next_136 : decode b_Mod_next 136 = .ok (.iconst 0, 1) := dc_3 (by decide +kernel)
theorem d_Mod_next_137 : decode b_Mod_next 137 = .ok (.putfield 141, 3) := dc_181 (a := 0) (b := 141) (by decide +kernel) rfl
theorem d_Mod_next_140 : decode b_Mod_next 140 = .ok (.aload_n 0, 1) := dc_42 (by decide +kernel)
theorem d_Mod_next_141 : decode b_Mod_next 141 = .ok (.aload_n 0, 1) := dc_42 (by decide +kernel)
theorem d_Mod_next_142 : decode b_Mod_next 142 = .ok (.getfield 111, 3) := dc_180 (a := 0) (b := 111) (by decide +kernel) rfl
theorem d_Mod_next_145 : decode b_Mod_next 145 = .ok (.invokevirtual 114, 3) := dc_182 (a := 0) (b := 114) (by decide +kernel) rfl
theorem d_Mod_next_148 : decode b_Mod_next 148 = .ok (.i2l, 1) := dc_133 (by decide +kernel)
theorem d_Mod_next_149 : decode b_Mod_next 149 = .ok (.ldc2_w 137, 3) := dc_20 (a := 0) (b := 137) (by decide +kernel) rfl
theorem d_Mod_next_152 : decode b_Mod_next 152 = .ok (.ldc2_w 139, 3) := dc_20 (a := 0) (b := 139) (by decide +kernel) rfl
theorem d_Mod_next_155 : decode b_Mod_next 155 = .ok (.invokestatic 95, 3) := dc_184 (a := 0) (b := 95) (by decide +kernel) rfl
theorem d_Mod_next_158 : decode b_Mod_next 158 = .ok (.ifCond .eq 59, 3) := dc_153 (a := 0) (b := 59) (by decide +kernel) rfl
theorem d_Mod_next_161 : decode b_Mod_next 161 = .ok (.aload_n 0, 1) := dc_42 (by decide +kernel)
theorem d_Mod_next_162 : decode b_Mod_next 162 = .ok (.aload_n 0, 1) := dc_42 (by decide +kernel)
theorem d_Mod_next_163 : decode b_Mod_next 163 = .ok (.getfield 111, 3) := dc_180 (a := 0) (b := 111) (by decide +kernel) rfl
theorem d_Mod_next_166 : decode b_Mod_next 166 = .ok (.aload_n 0, 1) := dc_42 (by decide +kernel)
theorem d_Mod_next_167 : decode b_Mod_next 167 = .ok (.getfield 105, 3) := dc_180 (a := 0) (b := 105) (by decide +kernel) rfl
theorem d_Mod_next_170 : decode b_Mod_next 170 = .ok (.isub, 1) := dc_100 (by decide +kernel)
theorem d_Mod_next_171 : decode b_Mod_next 171 = .ok (.iconst 2, 1) := dc_5 (by decide +kernel)
theorem d_Mod_next_172 : decode b_Mod_next 172 = .ok (.if_icmp .ge 25, 3) := dc_162 (a := 0) (b := 25) (by decide +kernel) rfl
theorem d_Mod_next_175 : decode b_Mod_next 175 = .ok (.bipush 10, 2) := dc_16 (a := 10) (by decide +kernel) rfl
theorem d_Mod_next_177 : decode b_Mod_next 177 = .ok (.aload_n 0, 1) := dc_42 (by decide +kernel)
theorem d_Mod_next_178 : decode b_Mod_next 178 = .ok (.getfield 141, 3) := dc_180 (a := 0) (b := 141) (by decide +kernel) rfl
theorem d_Mod_next_181 : decode b_Mod_next 181 = .ok (.imul, 1) := dc_104 (by decide +kernel)
theorem d_Mod_next_182 : decode b_Mod_next 182 = .ok (.aload_n 0, 1) := dc_42 (by decide +kernel)
theorem d_Mod_next_183 : decode b_Mod_next 183 = .ok (.aload_n 0, 1) := dc_42 (by decide +kernel)
theorem d_Mod_next_184 : decode b_Mod_next 184 = .ok (.getfield 111, 3) := dc_180 (a := 0) (b := 111) (by decide +kernel) rfl
theorem d_Mod_next_187 : decode b_Mod_next 187 = .ok (.invokevirtual 114, 3) := dc_182 (a := 0) (b := 114) (by decide +kernel) rfl
theorem d_Mod_next_190 : decode b_Mod_next 190 = .ok (.iadd, 1) := dc_96 (by decide +kernel)
theorem d_Mod_next_191 : decode b_Mod_next 191 = .ok (.bipush 48, 2) := dc_16 (a := 48) (by decide +kernel) rfl
theorem d_Mod_next_193 : decode b_Mod_next 193 = .ok (.isub, 1) := dc_100 (by decide +kernel)
theorem d_Mod_next_194 : decode b_Mod_next 194 = .ok (.goto 7, 3) := dc_167 (a := 0) (b := 7) (by decide +kernel) rfl
theorem d_Mod_next_197 : decode b_Mod_next 197 = .ok (.aload_n 0, 1) := dc_42 (by decide +kernel)
theorem d_Mod_next_198 : decode b_Mod_next 198 = .ok (.getfield 141, 3) := dc_180 (a := 0) (b := 141) (by decide +kernel) rfl
theorem d_Mod_next_201 : decode b_Mod_next 201 = .ok (.putfield 141, 3) := dc_181 (a := 0) (b := 141) (by decide +kernel) rfl
theorem d_Mod_next_204 : decode b_Mod_next 204 = .ok (.aload_n 0, 1) := dc_42 (by decide +kernel)
theorem d_Mod_next_205 : decode b_Mod_next 205 = .ok (.dup, 1) := dc_89 (by decide +kernel)
theorem d_Mod_next_206 : decode b_Mod_next 206 = .ok (.getfield 111, 3) := dc_180 (a := 0) (b := 111) (by decide +kernel) rfl
theorem d_Mod_next_209 : decode b_Mod_next 209 = .ok (.iconst 1, 1) := dc_4 (by decide +kernel)
theorem d_Mod_next_210 : decode b_Mod_next 210 = .ok (.iadd, 1) := dc_96 (by decide +kernel)
theorem d_Mod_next_211 : decode b_Mod_next 211 = .ok (.putfield 111, 3) := dc_181 (a := 0) (b := 111) (by decide +kernel) rfl
theorem d_Mod_next_214 : decode b_Mod_next 214 = .ok (.goto (-74), 3) := dc_167 (a := 255) (b := 182) (by decide +kernel) rfl
theorem d_Mod_next_217 : decode b_Mod_next 217 = .ok (.aload_n 0, 1) := dc_42 (by decide +kernel)
theorem d_Mod_next_218 : decode b_Mod_next 218 = .ok (.aload_n 0, 1) := dc_42 (by decide +kernel)
theorem d_Mod_next_219 : decode b_Mod_next 219 = .ok (.getfield 111, 3) := dc_180 (a := 0) (b := 111) (by decide +kernel) rfl
theorem d_Mod_next_222 : decode b_Mod_next 222 = .ok (.aload_n 0, 1) := dc_42 (by decide +kernel)
theorem d_Mod_next_223 : decode b_Mod_next 223 = .ok (.getfield 105, 3) := dc_180 (a := 0) (b := 105) (by decide +kernel) rfl
theorem d_Mod_next_226 : decode b_Mod_next 226 = .ok (.isub, 1) := dc_100 (by decide +kernel)
theorem d_Mod_next_227 : decode b_Mod_next 227 = .ok (.iconst 2, 1) := dc_5 (by decide +kernel)
theorem d_Mod_next_228 : decode b_Mod_next 228 = .ok (.if_icmp .gt 7, 3) := dc_163 (a := 0) (b := 7) (by decide +kernel) rfl
theorem d_Mod_next_231 : decode b_Mod_next 231 = .ok (.iconst 1, 1) := dc_4 (by decide +kernel)
theorem d_Mod_next_232 : decode b_Mod_next 232 = .ok (.goto 4, 3) := dc_167 (a := 0) (b := 4) (by decide +kernel) rfl
theorem d_Mod_next_235 : decode b_Mod_next 235 = .ok (.iconst 0, 1) := dc_3 (by decide +kernel)
theorem d_Mod_next_236 : decode b_Mod_next 236 = .ok (.iconst 1, 1) := dc_4 (by decide +kernel)
theorem d_Mod_next_237 : decode b_Mod_next 237 = .ok (.invokevirtual 144, 3) := dc_182 (a := 0) (b := 144) (by decide +kernel) rfl
theorem d_Mod_next_240 : decode b_Mod_next 240 = .ok (.goto 34, 3) := dc_167 (a := 0) (b := 34) (by decide +kernel) rfl
theorem d_Mod_next_243 : decode b_Mod_next 243 = .ok (.aload_n 0, 1) := dc_42 (by decide +kernel)
theorem d_Mod_next_244 : decode b_Mod_next 244 = .ok (.iconst 3, 1) := dc_6 (by decide +kernel)
theorem d_Mod_next_245 : decode b_Mod_next 245 = .ok (.putfield 130, 3) := dc_181 (a := 0) (b := 130) (by decide +kernel) rfl
theorem d_Mod_next_248 : decode b_Mod_next 248 = .ok (.aload_n 0, 1) := dc_42 (by decide +kernel)
theorem d_Mod_next_249 : decode b_Mod_next 249 = .ok (.iload_n 1, 1) := dc_27 (by decide +kernel)
theorem d_Mod_next_250 : decode b_Mod_next 250 = .ok (.bipush 59, 2) := dc_16 (a := 59) (by decide +kernel) rfl
theorem d_Mod_next_252 : decode b_Mod_next 252 = .ok (.if_icmp .ne 7, 3) := dc_160 (a := 0) (b := 7) (by decide +kernel) rfl
theorem d_Mod_next_255 : decode b_Mod_next 255 = .ok (.iconst 1, 1) := dc_4 (by decide +kernel)
theorem d_Mod_next_256 : decode b_Mod_next 256 = .ok (.goto 4, 3) := dc_167 (a := 0) (b := 4) (by decide +kernel) rfl
theorem d_Mod_next_259 : decode b_Mod_next 259 = .ok (.iconst 0, 1) := dc_3 (by decide +kernel)
theorem d_Mod_next_260 : decode b_Mod_next 260 = .ok (.iconst 1, 1) := dc_4 (by decide +kernel)
theorem d_Mod_next_261 : decode b_Mod_next 261 = .ok (.invokevirtual 144, 3) := dc_182 (a := 0) (b := 144) (by decide +kernel) rfl
theorem d_Mod_next_264 : decode b_Mod_next 264 = .ok (.aload_n 0, 1) := dc_42 (by decide +kernel)
theorem d_Mod_next_265 : decode b_Mod_next 265 = .ok (.dup, 1) := dc_89 (by decide +kernel)
theorem d_Mod_next_266 : decode b_Mod_next 266 = .ok (.getfield 111, 3) := dc_180 (a := 0) (b := 111) (by decide +kernel) rfl
theorem d_Mod_next_269 : decode b_Mod_next 269 = .ok (.iconst 1, 1) := dc_4 (by decide +kernel)
theorem d_Mod_next_270 : decode b_Mod_next 270 = .ok (.iadd, 1) := dc_96 (by decide +kernel)
theorem d_Mod_next_271 : decode b_Mod_next 271 = .ok (.putfield 111, 3) := dc_181 (a := 0) (b := 111) (by decide +kernel) rfl
theorem d_Mod_next_274 : decode b_Mod_next 274 = .ok (.return_, 1) := dc_177 (by decide +kernel)
theorem d_Mod_looked_0 : decode b_Mod_looked 0 = .ok (.aload_n 0, 1) := dc_42 (by decide +kernel)
theorem d_Mod_looked_1 : decode b_Mod_looked 1 = .ok (.getfield 102, 3) := dc_180 (a := 0) (b := 102) (by decide +kernel) rfl
theorem d_Mod_looked_4 : decode b_Mod_looked 4 = .ok (.ifCond .ne 21, 3) := dc_154 (a := 0) (b := 21) (by decide +kernel) rfl
theorem d_Mod_looked_7 : decode b_Mod_looked 7 = .ok (.aload_n 0, 1) := dc_42 (by decide +kernel)
theorem d_Mod_looked_8 : decode b_Mod_looked 8 = .ok (.aload_n 0, 1) := dc_42 (by decide +kernel)
theorem d_Mod_looked_9 : decode b_Mod_looked 9 = .ok (.getfield 130, 3) := dc_180 (a := 0) (b := 130) (by decide +kernel) rfl
theorem d_Mod_looked_12 : decode b_Mod_looked 12 = .ok (.iconst 2, 1) := dc_5 (by decide +kernel)
theorem d_Mod_looked_13 : decode b_Mod_looked 13 = .ok (.if_icmp .ne 7, 3) := dc_160 (a := 0) (b := 7) (by decide +kernel) rfl
theorem d_Mod_looked_16 : decode b_Mod_looked 16 = .ok (.iconst 1, 1) := dc_4 (by decide +kernel)
theorem d_Mod_looked_17 : decode b_Mod_looked 17 = .ok (.goto 4, 3) := dc_167 (a := 0) (b := 4) (by decide +kernel) rfl
theorem d_Mod_looked_20 : decode b_Mod_looked 20 = .ok (.iconst 0, 1) := dc_3 (by decide +kernel)
theorem d_Mod_looked_21 : decode b_Mod_looked 21 = .ok (.iconst 2, 1) := dc_5 (by decide +kernel)
theorem d_Mod_looked_22 : decode b_Mod_looked 22 = .ok (.invokevirtual 144, 3) := dc_182 (a := 0) (b := 144) (by decide +kernel) rfl
theorem d_Mod_looked_25 : decode b_Mod_looked 25 = .ok (.aload_n 0, 1) := dc_42 (by decide +kernel)
theorem d_Mod_looked_26 : decode b_Mod_looked 26 = .ok (.getfield 102, 3) := dc_180 (a := 0) (b := 102) (by decide +kernel) rfl
theorem d_Mod_looked_29 : decode b_Mod_looked 29 = .ok (.ifCond .ne 20, 3) := dc_154 (a := 0) (b := 20) (by decide +kernel) rfl
theorem d_Mod_looked_32 : decode b_Mod_looked 32 = .ok (.aload_n 0, 1) := dc_42 (by decide +kernel)
theorem d_Mod_looked_33 : decode b_Mod_looked 33 = .ok (.aload_n 0, 1) := dc_42 (by decide +kernel)
theorem d_Mod_looked_34 : decode b_Mod_looked 34 = .ok (.getfield 141, 3) := dc_180 (a := 0) (b := 141) (by decide +kernel) rfl
theorem d_Mod_looked_37 : decode b_Mod_looked 37 = .ok (.i2l, 1) := dc_133 (by decide +kernel)
theorem d_Mod_looked_38 : decode b_Mod_looked 38 = .ok (.iload_n 1, 1) := dc_27 (by decide +kernel)
theorem d_Mod_looked_39 : decode b_Mod_looked 39 = .ok (.i2l, 1) := dc_133 (by decide +kernel)
theorem d_Mod_looked_40 : decode b_Mod_looked 40 = .ok (.iload_n 2, 1) := dc_28 (by decide +kernel)
theorem d_Mod_looked_41 : decode b_Mod_looked 41 = .ok (.i2l, 1) := dc_133 (by decide +kernel)
theorem d_Mod_looked_42 : decode b_Mod_looked 42 = .ok (.invokestatic 95, 3) := dc_184 (a := 0) (b := 95) (by decide +kernel) rfl
theorem d_Mod_looked_45 : decode b_Mod_looked 45 = .ok (.iconst 3, 1) := dc_6 (by decide +kernel)
theorem d_Mod_looked_46 : decode b_Mod_looked 46 = .ok (.invokevirtual 144, 3) := dc_182 (a := 0) (b := 144) (by decide +kernel) rfl
theorem d_Mod_looked_49 : decode b_Mod_looked 49 = .ok (.aload_n 0, 1) := dc_42 (by decide +kernel)
theorem d_Mod_looked_50 : decode b_Mod_looked 50 = .ok (.getfield 102, 3) := dc_180 (a := 0) (b := 102) (by decide +kernel) rfl
theorem d_Mod_looked_53 : decode b_Mod_looked 53 = .ok (.ifCond .ne 10, 3) := dc_154 (a := 0) (b := 10) (by decide +kernel) rfl
theorem d_Mod_looked_56 : decode b_Mod_looked 56 = .ok (.aload_n 0, 1) := dc_42 (by decide +kernel)
theorem d_Mod_looked_57 : decode b_Mod_looked 57 = .ok (.getfield 141, 3) := dc_180 (a := 0) (b := 141) (by decide +kernel) rfl
theorem d_Mod_looked_60 : decode b_Mod_looked 60 = .ok (.goto 4, 3) := dc_167 (a := 0) (b := 4) (by decide +kernel) rfl
theorem d_Mod_looked_63 : decode b_Mod_looked 63 = .ok (.iconst 0, 1) := dc_3 (by decide +kernel)
theorem d_Mod_looked_64 : decode b_Mod_looked 64 = .ok (.ireturn, 1) := dc_172 (by decide +kernel)
theorem d_Mod_readNumber_0 : decode b_Mod_readNumber 0 = .ok (.aload_n 0, 1) := dc_42 (by decide +kernel)
theorem d_Mod_readNumber_1 : decode b_Mod_readNumber 1 = .ok (.iload_n 1, 1) := dc_27 (by decide +kernel)
theorem d_Mod_readNumber_2 : decode b_Mod_readNumber 2 = .ok (.iload_n 2, 1) := dc_28 (by decide +kernel)
theorem d_Mod_readNumber_3 : decode b_Mod_readNumber 3 = .ok (.invokevirtual 148, 3) := dc_182 (a := 0) (b := 148) (by decide +kernel) rfl
theorem d_Mod_readNumber_6 : decode b_Mod_readNumber 6 = .ok (.istore_n 3, 1) := dc_62 (by decide +kernel)
theorem d_Mod_readNumber_7 : decode b_Mod_readNumber 7 = .ok (.aload_n 0, 1) := dc_42 (by decide +kernel)
theorem d_Mod_readNumber_8 : decode b_Mod_readNumber 8 = .ok (.invokevirtual 152, 3) := dc_182 (a := 0) (b := 152) (by decide +kernel) rfl
theorem d_Mod_readNumber_11 : decode b_Mod_readNumber 11 = .ok (.iload_n 3, 1) := dc_29 (by decide +kernel)
theorem d_Mod_readNumber_12 : decode b_Mod_readNumber 12 = .ok (.ireturn, 1) := dc_172 (by decide +kernel)
theorem d_Mod_readFresh_0 : decode b_Mod_readFresh 0 = .ok (.aload_n 0, 1) := dc_42 (by decide +kernel)
theorem d_Mod_readFresh_1 : decode b_Mod_readFresh 1 = .ok (.iconst 0, 1) := dc_3 (by decide +kernel)
theorem d_Mod_readFresh_2 : decode b_Mod_readFresh 2 = .ok (.iload_n 2, 1) := dc_28 (by decide +kernel)
theorem d_Mod_readFresh_3 : decode b_Mod_readFresh 3 = .ok (.invokevirtual 148, 3) := dc_182 (a := 0) (b := 148) (by decide +kernel) rfl
theorem d_Mod_readFresh_6 : decode b_Mod_readFresh 6 = .ok (.istore_n 3, 1) := dc_62 (by decide +kernel)
theorem d_Mod_readFresh_7 : decode b_Mod_readFresh 7 = .ok (.aload_n 0, 1) := dc_42 (by decide +kernel)
theorem d_Mod_readFresh_8 : decode b_Mod_readFresh 8 = .ok (.getfield 102, 3) := dc_180 (a := 0) (b := 102) (by decide +kernel) rfl
theorem d_Mod_readFresh_11 : decode b_Mod_readFresh 11 = .ok (.ifCond .ne 28, 3) := dc_154 (a := 0) (b := 28) (by decide +kernel) rfl
theorem d_Mod_readFresh_14 : decode b_Mod_readFresh 14 = .ok (.aload_n 0, 1) := dc_42 (by decide +kernel)
theorem d_Mod_readFresh_15 : decode b_Mod_readFresh 15 = .ok (.aload_n 0, 1) := dc_42 (by decide +kernel)
theorem d_Mod_readFresh_16 : decode b_Mod_readFresh 16 = .ok (.getfield 20, 3) := dc_180 (a := 0) (b := 20) (by decide +kernel) rfl
theorem d_Mod_readFresh_19 : decode b_Mod_readFresh 19 = .ok (.iload_n 1, 1) := dc_27 (by decide +kernel)
theorem d_Mod_readFresh_20 : decode b_Mod_readFresh 20 = .ok (.iconst 4, 1) := dc_7 (by decide +kernel)
theorem d_Mod_readFresh_21 : decode b_Mod_readFresh 21 = .ok (.isub, 1) := dc_100 (by decide +kernel)
theorem d_Mod_readFresh_22 : decode b_Mod_readFresh 22 = .ok (.iaload, 1) := dc_46 (by decide +kernel)
theorem d_Mod_readFresh_23 : decode b_Mod_readFresh 23 = .ok (.iload_n 3, 1) := dc_29 (by decide +kernel)
theorem d_Mod_readFresh_24 : decode b_Mod_readFresh 24 = .ok (.ishr, 1) := dc_122 (by decide +kernel)
theorem d_Mod_readFresh_25 : decode b_Mod_readFresh 25 = .ok (.iconst 1, 1) := dc_4 (by decide +kernel)
theorem d_Mod_readFresh_26 : decode b_Mod_readFresh 26 = .ok (.iand, 1) := dc_126 (by decide +kernel)
theorem d_Mod_readFresh_27 : decode b_Mod_readFresh 27 = .ok (.ifCond .ne 7, 3) := dc_154 (a := 0) (b := 7) (by decide +kernel) rfl
theorem d_Mod_readFresh_30 : decode b_Mod_readFresh 30 = .ok (.iconst 1, 1) := dc_4 (by decide +kernel)
theorem d_Mod_readFresh_31 : decode b_Mod_readFresh 31 = .ok (.goto 4, 3) := dc_167 (a := 0) (b := 4) (by decide +kernel) rfl
theorem d_Mod_readFresh_34 : decode b_Mod_readFresh 34 = .ok (.iconst 0, 1) := dc_3 (by decide +kernel)
theorem d_Mod_readFresh_35 : decode b_Mod_readFresh 35 = .ok (.iconst 4, 1) := dc_7 (by decide +kernel)
theorem d_Mod_readFresh_36 : decode b_Mod_readFresh 36 = .ok (.invokevirtual 144, 3) := dc_182 (a := 0) (b := 144) (by decide +kernel) rfl
theorem d_Mod_readFresh_39 : decode b_Mod_readFresh 39 = .ok (.aload_n 0, 1) := dc_42 (by decide +kernel)
theorem d_Mod_readFresh_40 : decode b_Mod_readFresh 40 = .ok (.getfield 102, 3) := dc_180 (a := 0) (b := 102) (by decide +kernel) rfl
theorem d_Mod_readFresh_43 : decode b_Mod_readFresh 43 = .ok (.ifCond .ne 43, 3) := dc_154 (a := 0) (b := 43) (by decide +kernel) rfl
theorem d_Mod_readFresh_46 : decode b_Mod_readFresh 46 = .ok (.aload_n 0, 1) := dc_42 (by decide +kernel)
theorem d_Mod_readFresh_47 : decode b_Mod_readFresh 47 = .ok (.getfield 20, 3) := dc_180 (a := 0) (b := 20) (by decide +kernel) rfl
theorem d_Mod_readFresh_50 : decode b_Mod_readFresh 50 = .ok (.iload_n 1, 1) := dc_27 (by decide +kernel)
theorem d_Mod_readFresh_51 : decode b_Mod_readFresh 51 = .ok (.iconst 4, 1) := dc_7 (by decide +kernel)
theorem d_Mod_readFresh_52 : decode b_Mod_readFresh 52 = .ok (.isub, 1) := dc_100 (by decide +kernel)
theorem d_Mod_readFresh_53 : decode b_Mod_readFresh 53 = .ok (.dup2, 1) := dc_92 (by decide +kernel)
theorem d_Mod_readFresh_54 : decode b_Mod_readFresh 54 = .ok (.iaload, 1) := dc_46 (by decide +kernel)
theorem d_Mod_readFresh_55 : decode b_Mod_readFresh 55 = .ok (.iconst 1, 1) := dc_4 (by decide +kernel)
theorem d_Mod_readFresh_56 : decode b_Mod_readFresh 56 = .ok (.iload_n 3, 1) := dc_29 (by decide +kernel)
theorem d_Mod_readFresh_57 : decode b_Mod_readFresh 57 = .ok (.ishl, 1) := dc_120 (by decide +kernel)
theorem d_Mod_readFresh_58 : decode b_Mod_readFresh 58 = .ok (.ior, 1) := dc_128 (by decide +kernel)
theorem d_Mod_readFresh_59 : decode b_Mod_readFresh 59 = .ok (.iastore, 1) := dc_79 (by decide +kernel)
theorem d_Mod_readFresh_60 : decode b_Mod_readFresh 60 = .ok (.aload_n 0, 1) := dc_42 (by decide +kernel)
theorem d_Mod_readFresh_61 : decode b_Mod_readFresh 61 = .ok (.iload_n 1, 1) := dc_27 (by decide +kernel)
theorem d_Mod_readFresh_62 : decode b_Mod_readFresh 62 = .ok (.bipush 8, 2) := dc_16 (a := 8) (by decide +kernel) rfl
theorem d_Mod_readFresh_64 : decode b_Mod_readFresh 64 = .ok (.if_icmp .ge 15, 3) := dc_162 (a := 0) (b := 15) (by decide +kernel) rfl
theorem d_Mod_readFresh_67 : decode b_Mod_readFresh 67 = .ok (.iload_n 3, 1) := dc_29 (by decide +kernel)
theorem d_Mod_readFresh_68 : decode b_Mod_readFresh 68 = .ok (.aload_n 0, 1) := dc_42 (by decide +kernel)
theorem d_Mod_readFresh_69 : decode b_Mod_readFresh 69 = .ok (.getfield 78, 3) := dc_180 (a := 0) (b := 78) (by decide +kernel) rfl
theorem d_Mod_readFresh_72 : decode b_Mod_readFresh 72 = .ok (.if_icmp .le 7, 3) := dc_164 (a := 0) (b := 7) (by decide +kernel) rfl
theorem d_Mod_readFresh_75 : decode b_Mod_readFresh 75 = .ok (.iload_n 3, 1) := dc_29 (by decide +kernel)
theorem d_Mod_readFresh_76 : decode b_Mod_readFresh 76 = .ok (.goto 7, 3) := dc_167 (a := 0) (b := 7) (by decide +kernel) rfl
theorem d_Mod_readFresh_79 : decode b_Mod_readFresh 79 = .ok (.aload_n 0, 1) := dc_42 (by decide +kernel)
theorem d_Mod_readFresh_80 : decode b_Mod_readFresh 80 = .ok (.getfield 78, 3) := dc_180 (a := 0) (b := 78) (by decide +kernel) rfl
theorem d_Mod_readFresh_83 : decode b_Mod_readFresh 83 = .ok (.putfield 78, 3) := dc_181 (a := 0) (b := 78) (by decide +kernel) rfl
theorem d_Mod_readFresh_86 : decode b_Mod_readFresh 86 = .ok (.aload_n 0, 1) := dc_42 (by decide +kernel)
theorem d_Mod_readFresh_87 : decode b_Mod_readFresh 87 = .ok (.invokevirtual 152, 3) := dc_182 (a := 0) (b := 152) (by decide +kernel) rfl
theorem d_Mod_readFresh_90 : decode b_Mod_readFresh 90 = .ok (.iload_n 3, 1) := dc_29 (by decide +kernel)
theorem d_Mod_readFresh_91 : decode b_Mod_readFresh 91 = .ok (.ireturn, 1) := dc_172 (by decide +kernel)
theorem d_Mod_readRod_0 : decode b_Mod_readRod 0 = .ok (.aload_n 0, 1) := dc_42 (by decide +kernel)
theorem d_Mod_readRod_1 : decode b_Mod_readRod 1 = .ok (.getfield 102, 3) := dc_180 (a := 0) (b := 102) (by decide +kernel) rfl
theorem d_Mod_readRod_4 : decode b_Mod_readRod 4 = .ok (.ifCond .ne 18, 3) := dc_154 (a := 0) (b := 18) (by decide +kernel) rfl
theorem d_Mod_readRod_7 : decode b_Mod_readRod 7 = .ok (.aload_n 0, 1) := dc_42 (by decide +kernel)
theorem d_Mod_readRod_8 : decode b_Mod_readRod 8 = .ok (.getfield 130, 3) := dc_180 (a := 0) (b := 130) (by decide +kernel) rfl
theorem d_Mod_readRod_11 : decode b_Mod_readRod 11 = .ok (.iconst 1, 1) := dc_4 (by decide +kernel)
theorem d_Mod_readRod_12 : decode b_Mod_readRod 12 = .ok (.if_icmp .ne 10, 3) := dc_160 (a := 0) (b := 10) (by decide +kernel) rfl
theorem d_Mod_readRod_15 : decode b_Mod_readRod 15 = .ok (.aload_n 0, 1) := dc_42 (by decide +kernel)
theorem d_Mod_readRod_16 : decode b_Mod_readRod 16 = .ok (.invokevirtual 155, 3) := dc_182 (a := 0) (b := 155) (by decide +kernel) rfl
theorem d_Mod_readRod_19 : decode b_Mod_readRod 19 = .ok (.goto 5, 3) := dc_167 (a := 0) (b := 5) (by decide +kernel) rfl
theorem d_Mod_readRod_22 : decode b_Mod_readRod 22 = .ok (.bipush (-4), 2) := dc_16 (a := 252) (by decide +kernel) rfl
theorem d_Mod_readRod_24 : decode b_Mod_readRod 24 = .ok (.istore_n 1, 1) := dc_60 (by decide +kernel)
theorem d_Mod_readRod_25 : decode b_Mod_readRod 25 = .ok (.aload_n 0, 1) := dc_42 (by decide +kernel)
theorem d_Mod_readRod_26 : decode b_Mod_readRod 26 = .ok (.iload_n 1, 1) := dc_27 (by decide +kernel)
theorem d_Mod_readRod_27 : decode b_Mod_readRod 27 = .ok (.bipush (-4), 2) := dc_16 (a := 252) (by decide +kernel) rfl
theorem d_Mod_readRod_29 : decode b_Mod_readRod 29 = .ok (.if_icmp .eq 7, 3) := dc_159 (a := 0) (b := 7) (by decide +kernel) rfl
theorem d_Mod_readRod_32 : decode b_Mod_readRod 32 = .ok (.iconst 1, 1) := dc_4 (by decide +kernel)
theorem d_Mod_readRod_33 : decode b_Mod_readRod 33 = .ok (.goto 4, 3) := dc_167 (a := 0) (b := 4) (by decide +kernel) rfl
theorem d_Mod_readRod_36 : decode b_Mod_readRod 36 = .ok (.iconst 0, 1) := dc_3 (by decide +kernel)
theorem d_Mod_readRod_37 : decode b_Mod_readRod 37 = .ok (.iconst 2, 1) := dc_5 (by decide +kernel)
theorem d_Mod_readRod_38 : decode b_Mod_readRod 38 = .ok (.invokevirtual 144, 3) := dc_182 (a := 0) (b := 144) (by decide +kernel) rfl
theorem d_Mod_readRod_41 : decode b_Mod_readRod 41 = .ok (.aload_n 0, 1) := dc_42 (by decide +kernel)
theorem d_Mod_readRod_42 : decode b_Mod_readRod 42 = .ok (.invokevirtual 152, 3) := dc_182 (a := 0) (b := 152) (by decide +kernel) rfl
theorem d_Mod_readRod_45 : decode b_Mod_readRod 45 = .ok (.aload_n 0, 1) := dc_42 (by decide +kernel)
theorem d_Mod_readRod_46 : decode b_Mod_readRod 46 = .ok (.getfield 17, 3) := dc_180 (a := 0) (b := 17) (by decide +kernel) rfl
theorem d_Mod_readRod_49 : decode b_Mod_readRod 49 = .ok (.bipush 84, 2) := dc_16 (a := 84) (by decide +kernel) rfl
theorem d_Mod_readRod_51 : decode b_Mod_readRod 51 = .ok (.iload_n 1, 1) := dc_27 (by decide +kernel)
theorem d_Mod_readRod_52 : decode b_Mod_readRod 52 = .ok (.iastore, 1) := dc_79 (by decide +kernel)
theorem d_Mod_readRod_53 : decode b_Mod_readRod 53 = .ok (.aload_n 0, 1) := dc_42 (by decide +kernel)
theorem d_Mod_readRod_54 : decode b_Mod_readRod 54 = .ok (.getfield 17, 3) := dc_180 (a := 0) (b := 17) (by decide +kernel) rfl
theorem d_Mod_readRod_57 : decode b_Mod_readRod 57 = .ok (.bipush 85, 2) := dc_16 (a := 85) (by decide +kernel) rfl
theorem d_Mod_readRod_59 : decode b_Mod_readRod 59 = .ok (.aload_n 0, 1) := dc_42 (by decide +kernel)
theorem d_Mod_readRod_60 : decode b_Mod_readRod 60 = .ok (.iconst 1, 1) := dc_4 (by decide +kernel)
theorem d_Mod_readRod_61 : decode b_Mod_readRod 61 = .ok (.bipush 9, 2) := dc_16 (a := 9) (by decide +kernel) rfl
theorem d_Mod_readRod_63 : decode b_Mod_readRod 63 = .ok (.invokevirtual 158, 3) := dc_182 (a := 0) (b := 158) (by decide +kernel) rfl
theorem d_Mod_readRod_66 : decode b_Mod_readRod 66 = .ok (.iastore, 1) := dc_79 (by decide +kernel)
theorem d_Mod_readRod_67 : decode b_Mod_readRod 67 = .ok (.return_, 1) := dc_177 (by decide +kernel)
theorem d_Mod_readDebt_0 : decode b_Mod_readDebt 0 = .ok (.bipush 87, 2) := dc_16 (a := 87) (by decide +kernel) rfl
theorem d_Mod_readDebt_2 : decode b_Mod_readDebt 2 = .ok (.iconst 3, 1) := dc_6 (by decide +kernel)
theorem d_Mod_readDebt_3 : decode b_Mod_readDebt 3 = .ok (.aload_n 0, 1) := dc_42 (by decide +kernel)
theorem d_Mod_readDebt_4 : decode b_Mod_readDebt 4 = .ok (.getfield 17, 3) := dc_180 (a := 0) (b := 17) (by decide +kernel) rfl
theorem d_Mod_readDebt_7 : decode b_Mod_readDebt 7 = .ok (.bipush 86, 2) := dc_16 (a := 86) (by decide +kernel) rfl
theorem d_Mod_readDebt_9 : decode b_Mod_readDebt 9 = .ok (.iaload, 1) := dc_46 (by decide +kernel)
theorem d_Mod_readDebt_10 : decode b_Mod_readDebt 10 = .ok (.imul, 1) := dc_104 (by decide +kernel)
theorem d_Mod_readDebt_11 : decode b_Mod_readDebt 11 = .ok (.iadd, 1) := dc_96 (by decide +kernel)
theorem d_Mod_readDebt_12 : decode b_Mod_readDebt 12 = .ok (.istore_n 1, 1) := dc_60 (by decide +kernel)
theorem d_Mod_readDebt_13 : decode b_Mod_readDebt 13 = .ok (.aload_n 0, 1) := dc_42 (by decide +kernel)
theorem d_Mod_readDebt_14 : decode b_Mod_readDebt 14 = .ok (.getfield 17, 3) := dc_180 (a := 0) (b := 17) (by decide +kernel) rfl
theorem d_Mod_readDebt_17 : decode b_Mod_readDebt 17 = .ok (.iload_n 1, 1) := dc_27 (by decide +kernel)
theorem d_Mod_readDebt_18 : decode b_Mod_readDebt 18 = .ok (.aload_n 0, 1) := dc_42 (by decide +kernel)
theorem d_Mod_readDebt_19 : decode b_Mod_readDebt 19 = .ok (.iconst 0, 1) := dc_3 (by decide +kernel)
theorem d_Mod_readDebt_20 : decode b_Mod_readDebt 20 = .ok (.iconst 3, 1) := dc_6 (by decide +kernel)
theorem d_Mod_readDebt_21 : decode b_Mod_readDebt 21 = .ok (.invokevirtual 158, 3) := dc_182 (a := 0) (b := 158) (by decide +kernel) rfl
theorem d_Mod_readDebt_24 : decode b_Mod_readDebt 24 = .ok (.iastore, 1) := dc_79 (by decide +kernel)
theorem d_Mod_readDebt_25 : decode b_Mod_readDebt 25 = .ok (.aload_n 0, 1) := dc_42 (by decide +kernel)
theorem d_Mod_readDebt_26 : decode b_Mod_readDebt 26 = .ok (.iconst 0, 1) := dc_3 (by decide +kernel)
theorem d_Mod_readDebt_27 : decode b_Mod_readDebt 27 = .ok (.iconst 3, 1) := dc_6 (by decide +kernel)
theorem d_Mod_readDebt_28 : decode b_Mod_readDebt 28 = .ok (.invokevirtual 148, 3) := dc_182 (a := 0) (b := 148) (by decide +kernel) rfl
theorem d_Mod_readDebt_31 : decode b_Mod_readDebt 31 = .ok (.istore_n 2, 1) := dc_61 (by decide +kernel)
theorem d_Mod_readDebt_32 : decode b_Mod_readDebt 32 = .ok (.aload_n 0, 1) := dc_42 (by decide +kernel)
theorem d_Mod_readDebt_33 : decode b_Mod_readDebt 33 = .ok (.getfield 102, 3) := dc_180 (a := 0) (b := 102) (by decide +kernel) rfl
theorem d_Mod_readDebt_36 : decode b_Mod_readDebt 36 = .ok (.ifCond .ne 23, 3) := dc_154 (a := 0) (b := 23) (by decide +kernel) rfl
theorem d_Mod_readDebt_39 : decode b_Mod_readDebt 39 = .ok (.aload_n 0, 1) := dc_42 (by decide +kernel)
theorem d_Mod_readDebt_40 : decode b_Mod_readDebt 40 = .ok (.iload_n 2, 1) := dc_28 (by decide +kernel)
theorem d_Mod_readDebt_41 : decode b_Mod_readDebt 41 = .ok (.aload_n 0, 1) := dc_42 (by decide +kernel)
theorem d_Mod_readDebt_42 : decode b_Mod_readDebt 42 = .ok (.getfield 17, 3) := dc_180 (a := 0) (b := 17) (by decide +kernel) rfl
theorem d_Mod_readDebt_45 : decode b_Mod_readDebt 45 = .ok (.iload_n 1, 1) := dc_27 (by decide +kernel)
theorem d_Mod_readDebt_46 : decode b_Mod_readDebt 46 = .ok (.iaload, 1) := dc_46 (by decide +kernel)
theorem d_Mod_readDebt_47 : decode b_Mod_readDebt 47 = .ok (.if_icmp .eq 7, 3) := dc_159 (a := 0) (b := 7) (by decide +kernel) rfl
theorem d_Mod_readDebt_50 : decode b_Mod_readDebt 50 = .ok (.iconst 1, 1) := dc_4 (by decide +kernel)
theorem d_Mod_readDebt_51 : decode b_Mod_readDebt 51 = .ok (.goto 4, 3) := dc_167 (a := 0) (b := 4) (by decide +kernel) rfl
theorem d_Mod_readDebt_54 : decode b_Mod_readDebt 54 = .ok (.iconst 0, 1) := dc_3 (by decide +kernel)
theorem d_Mod_readDebt_55 : decode b_Mod_readDebt 55 = .ok (.iconst 4, 1) := dc_7 (by decide +kernel)
theorem d_Mod_readDebt_56 : decode b_Mod_readDebt 56 = .ok (.invokevirtual 144, 3) := dc_182 (a := 0) (b := 144) (by decide +kernel) rfl
theorem d_Mod_readDebt_59 : decode b_Mod_readDebt 59 = .ok (.aload_n 0, 1) := dc_42 (by decide +kernel)
theorem d_Mod_readDebt_60 : decode b_Mod_readDebt 60 = .ok (.invokevirtual 152, 3) := dc_182 (a := 0) (b := 152) (by decide +kernel) rfl
theorem d_Mod_readDebt_63 : decode b_Mod_readDebt 63 = .ok (.aload_n 0, 1) := dc_42 (by decide +kernel)
theorem d_Mod_readDebt_64 : decode b_Mod_readDebt 64 = .ok (.getfield 17, 3) := dc_180 (a := 0) (b := 17) (by decide +kernel) rfl
theorem d_Mod_readDebt_67 : decode b_Mod_readDebt 67 = .ok (.iload_n 1, 1) := dc_27 (by decide +kernel)
theorem d_Mod_readDebt_68 : decode b_Mod_readDebt 68 = .ok (.iconst 1, 1) := dc_4 (by decide +kernel)
theorem d_Mod_readDebt_69 : decode b_Mod_readDebt 69 = .ok (.iadd, 1) := dc_96 (by decide +kernel)
theorem d_Mod_readDebt_70 : decode b_Mod_readDebt 70 = .ok (.iload_n 2, 1) := dc_28 (by decide +kernel)
theorem d_Mod_readDebt_71 : decode b_Mod_readDebt 71 = .ok (.iastore, 1) := dc_79 (by decide +kernel)
theorem d_Mod_readDebt_72 : decode b_Mod_readDebt 72 = .ok (.aload_n 0, 1) := dc_42 (by decide +kernel)
theorem d_Mod_readDebt_73 : decode b_Mod_readDebt 73 = .ok (.getfield 17, 3) := dc_180 (a := 0) (b := 17) (by decide +kernel) rfl
theorem d_Mod_readDebt_76 : decode b_Mod_readDebt 76 = .ok (.iload_n 1, 1) := dc_27 (by decide +kernel)
theorem d_Mod_readDebt_77 : decode b_Mod_readDebt 77 = .ok (.iconst 2, 1) := dc_5 (by decide +kernel)
theorem d_Mod_readDebt_78 : decode b_Mod_readDebt 78 = .ok (.iadd, 1) := dc_96 (by decide +kernel)
theorem d_Mod_readDebt_79 : decode b_Mod_readDebt 79 = .ok (.aload_n 0, 1) := dc_42 (by decide +kernel)
theorem d_Mod_readDebt_80 : decode b_Mod_readDebt 80 = .ok (.iconst 1, 1) := dc_4 (by decide +kernel)
theorem d_Mod_readDebt_81 : decode b_Mod_readDebt 81 = .ok (.bipush 99, 2) := dc_16 (a := 99) (by decide +kernel) rfl
theorem d_Mod_readDebt_83 : decode b_Mod_readDebt 83 = .ok (.invokevirtual 158, 3) := dc_182 (a := 0) (b := 158) (by decide +kernel) rfl
theorem d_Mod_readDebt_86 : decode b_Mod_readDebt 86 = .ok (.iastore, 1) := dc_79 (by decide +kernel)
theorem d_Mod_readDebt_87 : decode b_Mod_readDebt 87 = .ok (.aload_n 0, 1) := dc_42 (by decide +kernel)
theorem d_Mod_readDebt_88 : decode b_Mod_readDebt 88 = .ok (.getfield 17, 3) := dc_180 (a := 0) (b := 17) (by decide +kernel) rfl
theorem d_Mod_readDebt_91 : decode b_Mod_readDebt 91 = .ok (.bipush 86, 2) := dc_16 (a := 86) (by decide +kernel) rfl
theorem d_Mod_readDebt_93 : decode b_Mod_readDebt 93 = .ok (.dup2, 1) := dc_92 (by decide +kernel)
theorem d_Mod_readDebt_94 : decode b_Mod_readDebt 94 = .ok (.iaload, 1) := dc_46 (by decide +kernel)
theorem d_Mod_readDebt_95 : decode b_Mod_readDebt 95 = .ok (.iconst 1, 1) := dc_4 (by decide +kernel)
theorem d_Mod_readDebt_96 : decode b_Mod_readDebt 96 = .ok (.iadd, 1) := dc_96 (by decide +kernel)
theorem d_Mod_readDebt_97 : decode b_Mod_readDebt 97 = .ok (.iastore, 1) := dc_79 (by decide +kernel)
theorem d_Mod_readDebt_98 : decode b_Mod_readDebt 98 = .ok (.return_, 1) := dc_177 (by decide +kernel)
theorem d_Mod_readCellOf_0 : decode b_Mod_readCellOf 0 = .ok (.aload_n 0, 1) := dc_42 (by decide +kernel)
theorem d_Mod_readCellOf_1 : decode b_Mod_readCellOf 1 = .ok (.iload_n 1, 1) := dc_27 (by decide +kernel)
theorem d_Mod_readCellOf_2 : decode b_Mod_readCellOf 2 = .ok (.bipush 15, 2) := dc_16 (a := 15) (by decide +kernel) rfl
theorem d_Mod_readCellOf_4 : decode b_Mod_readCellOf 4 = .ok (.invokevirtual 161, 3) := dc_182 (a := 0) (b := 161) (by decide +kernel) rfl
theorem d_Mod_readCellOf_7 : decode b_Mod_readCellOf 7 = .ok (.istore_n 2, 1) := dc_61 (by decide +kernel)
theorem d_Mod_readCellOf_8 : decode b_Mod_readCellOf 8 = .ok (.iload_n 1, 1) := dc_27 (by decide +kernel)
theorem d_Mod_readCellOf_9 : decode b_Mod_readCellOf 9 = .ok (.iconst 5, 1) := dc_8 (by decide +kernel)
theorem d_Mod_readCellOf_10 : decode b_Mod_readCellOf 10 = .ok (.if_icmp .ne 33, 3) := dc_160 (a := 0) (b := 33) (by decide +kernel) rfl
theorem d_Mod_readCellOf_13 : decode b_Mod_readCellOf 13 = .ok (.aload_n 0, 1) := dc_42 (by decide +kernel)
theorem d_Mod_readCellOf_14 : decode b_Mod_readCellOf 14 = .ok (.getfield 17, 3) := dc_180 (a := 0) (b := 17) (by decide +kernel) rfl
theorem d_Mod_readCellOf_17 : decode b_Mod_readCellOf 17 = .ok (.bipush 16, 2) := dc_16 (a := 16) (by decide +kernel) rfl
theorem d_Mod_readCellOf_19 : decode b_Mod_readCellOf 19 = .ok (.iload_n 2, 1) := dc_28 (by decide +kernel)
theorem d_Mod_readCellOf_20 : decode b_Mod_readCellOf 20 = .ok (.iadd, 1) := dc_96 (by decide +kernel)
theorem d_Mod_readCellOf_21 : decode b_Mod_readCellOf 21 = .ok (.aload_n 0, 1) := dc_42 (by decide +kernel)
theorem d_Mod_readCellOf_22 : decode b_Mod_readCellOf 22 = .ok (.getfield 102, 3) := dc_180 (a := 0) (b := 102) (by decide +kernel) rfl
theorem d_Mod_readCellOf_25 : decode b_Mod_readCellOf 25 = .ok (.ifCond .ne 7, 3) := dc_154 (a := 0) (b := 7) (by decide +kernel) rfl
theorem d_Mod_readCellOf_28 : decode b_Mod_readCellOf 28 = .ok (.iconst 1, 1) := dc_4 (by decide +kernel)
theorem d_Mod_readCellOf_29 : decode b_Mod_readCellOf 29 = .ok (.goto 12, 3) := dc_167 (a := 0) (b := 12) (by decide +kernel) rfl
theorem d_Mod_readCellOf_32 : decode b_Mod_readCellOf 32 = .ok (.aload_n 0, 1) := dc_42 (by decide +kernel)
theorem d_Mod_readCellOf_33 : decode b_Mod_readCellOf 33 = .ok (.getfield 17, 3) := dc_180 (a := 0) (b := 17) (by decide +kernel) rfl
theorem d_Mod_readCellOf_36 : decode b_Mod_readCellOf 36 = .ok (.bipush 16, 2) := dc_16 (a := 16) (by decide +kernel) rfl
theorem d_Mod_readCellOf_38 : decode b_Mod_readCellOf 38 = .ok (.iload_n 2, 1) := dc_28 (by decide +kernel)
theorem d_Mod_readCellOf_39 : decode b_Mod_readCellOf 39 = .ok (.iadd, 1) := dc_96 (by decide +kernel)
theorem d_Mod_readCellOf_40 : decode b_Mod_readCellOf 40 = .ok (.iaload, 1) := dc_46 (by decide +kernel)
theorem d_Mod_readCellOf_41 : decode b_Mod_readCellOf 41 = .ok (.iastore, 1) := dc_79 (by decide +kernel)
theorem d_Mod_readCellOf_42 : decode b_Mod_readCellOf 42 = .ok (.return_, 1) := dc_177 (by decide +kernel)
theorem d_Mod_readCellOf_43 : decode b_Mod_readCellOf 43 = .ok (.aload_n 0, 1) := dc_42 (by decide +kernel)
theorem d_Mod_readCellOf_44 : decode b_Mod_readCellOf 44 = .ok (.iload_n 1, 1) := dc_27 (by decide +kernel)
theorem d_Mod_readCellOf_45 : decode b_Mod_readCellOf 45 = .ok (.iconst 4, 1) := dc_7 (by decide +kernel)
theorem d_Mod_readCellOf_46 : decode b_Mod_readCellOf 46 = .ok (.if_icmp .ne 7, 3) := dc_160 (a := 0) (b := 7) (by decide +kernel) rfl
theorem d_Mod_readCellOf_49 : decode b_Mod_readCellOf 49 = .ok (.iconst 1, 1) := dc_4 (by decide +kernel)
theorem d_Mod_readCellOf_50 : decode b_Mod_readCellOf 50 = .ok (.goto 4, 3) := dc_167 (a := 0) (b := 4) (by decide +kernel) rfl
theorem d_Mod_readCellOf_53 : decode b_Mod_readCellOf 53 = .ok (.iconst 0, 1) := dc_3 (by decide +kernel)
theorem d_Mod_readCellOf_54 : decode b_Mod_readCellOf 54 = .ok (.iload_n 1, 1) := dc_27 (by decide +kernel)
theorem d_Mod_readCellOf_55 : decode b_Mod_readCellOf 55 = .ok (.iconst 4, 1) := dc_7 (by decide +kernel)
theorem d_Mod_readCellOf_56 : decode b_Mod_readCellOf 56 = .ok (.if_icmp .ne 8, 3) := dc_160 (a := 0) (b := 8) (by decide +kernel) rfl
theorem d_Mod_readCellOf_59 : decode b_Mod_readCellOf 59 = .ok (.bipush 9, 2) := dc_16 (a := 9) (by decide +kernel) rfl
theorem d_Mod_readCellOf_61 : decode b_Mod_readCellOf 61 = .ok (.goto 15, 3) := dc_167 (a := 0) (b := 15) (by decide +kernel) rfl
theorem d_Mod_readCellOf_64 : decode b_Mod_readCellOf 64 = .ok (.iload_n 1, 1) := dc_27 (by decide +kernel)
theorem d_Mod_readCellOf_65 : decode b_Mod_readCellOf 65 = .ok (.bipush 6, 2) := dc_16 (a := 6) (by decide +kernel) rfl
theorem d_Mod_readCellOf_67 : decode b_Mod_readCellOf 67 = .ok (.if_icmp .ne 8, 3) := dc_160 (a := 0) (b := 8) (by decide +kernel) rfl
theorem d_Mod_readCellOf_70 : decode b_Mod_readCellOf 70 = .ok (.bipush 10, 2) := dc_16 (a := 10) (by decide +kernel) rfl
theorem d_Mod_readCellOf_72 : decode b_Mod_readCellOf 72 = .ok (.goto 4, 3) := dc_167 (a := 0) (b := 4) (by decide +kernel) rfl
theorem d_Mod_readCellOf_75 : decode b_Mod_readCellOf 75 = .ok (.iconst 3, 1) := dc_6 (by decide +kernel)
theorem d_Mod_readCellOf_76 : decode b_Mod_readCellOf 76 = .ok (.invokevirtual 158, 3) := dc_182 (a := 0) (b := 158) (by decide +kernel) rfl
theorem d_Mod_readCellOf_79 : decode b_Mod_readCellOf 79 = .ok (.istore_n 3, 1) := dc_62 (by decide +kernel)
theorem d_Mod_readCellOf_80 : decode b_Mod_readCellOf 80 = .ok (.iload_n 1, 1) := dc_27 (by decide +kernel)
theorem d_Mod_readCellOf_81 : decode b_Mod_readCellOf 81 = .ok (.iconst 4, 1) := dc_7 (by decide +kernel)
theorem d_Mod_readCellOf_82 : decode b_Mod_readCellOf 82 = .ok (.if_icmp .ne 7, 3) := dc_160 (a := 0) (b := 7) (by decide +kernel) rfl
theorem d_Mod_readCellOf_85 : decode b_Mod_readCellOf 85 = .ok (.iconst 0, 1) := dc_3 (by decide +kernel)
theorem d_Mod_readCellOf_86 : decode b_Mod_readCellOf 86 = .ok (.goto 16, 3) := dc_167 (a := 0) (b := 16) (by decide +kernel) rfl
theorem d_Mod_readCellOf_89 : decode b_Mod_readCellOf 89 = .ok (.iload_n 1, 1) := dc_27 (by decide +kernel)
theorem d_Mod_readCellOf_90 : decode b_Mod_readCellOf 90 = .ok (.bipush 6, 2) := dc_16 (a := 6) (by decide +kernel) rfl
theorem d_Mod_readCellOf_92 : decode b_Mod_readCellOf 92 = .ok (.if_icmp .ne 8, 3) := dc_160 (a := 0) (b := 8) (by decide +kernel) rfl
theorem d_Mod_readCellOf_95 : decode b_Mod_readCellOf 95 = .ok (.bipush 32, 2) := dc_16 (a := 32) (by decide +kernel) rfl
theorem d_Mod_readCellOf_97 : decode b_Mod_readCellOf 97 = .ok (.goto 5, 3) := dc_167 (a := 0) (b := 5) (by decide +kernel) rfl
theorem d_Mod_readCellOf_100 : decode b_Mod_readCellOf 100 = .ok (.bipush 48, 2) := dc_16 (a := 48) (by decide +kernel) rfl
theorem d_Mod_readCellOf_102 : decode b_Mod_readCellOf 102 = .ok (.istore 4, 2) := dc_54 (a := 4) (by decide +kernel) rfl
theorem d_Mod_readCellOf_104 : decode b_Mod_readCellOf 104 = .ok (.aload_n 0, 1) := dc_42 (by decide +kernel)
theorem d_Mod_readCellOf_105 : decode b_Mod_readCellOf 105 = .ok (.getfield 17, 3) := dc_180 (a := 0) (b := 17) (by decide +kernel) rfl
theorem d_Mod_readCellOf_108 : decode b_Mod_readCellOf 108 = .ok (.iload 4, 2) := dc_21 (a := 4) (by decide +kernel) rfl
theorem d_Mod_readCellOf_110 : decode b_Mod_readCellOf 110 = .ok (.iload_n 2, 1) := dc_28 (by decide +kernel)
theorem d_Mod_readCellOf_111 : decode b_Mod_readCellOf 111 = .ok (.iadd, 1) := dc_96 (by decide +kernel)
theorem d_Mod_readCellOf_112 : decode b_Mod_readCellOf 112 = .ok (.aload_n 0, 1) := dc_42 (by decide +kernel)
theorem d_Mod_readCellOf_113 : decode b_Mod_readCellOf 113 = .ok (.getfield 102, 3) := dc_180 (a := 0) (b := 102) (by decide +kernel) rfl
theorem d_Mod_readCellOf_116 : decode b_Mod_readCellOf 116 = .ok (.ifCond .ne 7, 3) := dc_154 (a := 0) (b := 7) (by decide +kernel) rfl
theorem d_Mod_readCellOf_119 : decode b_Mod_readCellOf 119 = .ok (.iload_n 3, 1) := dc_29 (by decide +kernel)
theorem d_Mod_readCellOf_120 : decode b_Mod_readCellOf 120 = .ok (.goto 12, 3) := dc_167 (a := 0) (b := 12) (by decide +kernel) rfl
theorem d_Mod_readCellOf_123 : decode b_Mod_readCellOf 123 = .ok (.aload_n 0, 1) := dc_42 (by decide +kernel)
theorem d_Mod_readCellOf_124 : decode b_Mod_readCellOf 124 = .ok (.getfield 17, 3) := dc_180 (a := 0) (b := 17) (by decide +kernel) rfl
theorem d_Mod_readCellOf_127 : decode b_Mod_readCellOf 127 = .ok (.iload 4, 2) := dc_21 (a := 4) (by decide +kernel) rfl
theorem d_Mod_readCellOf_129 : decode b_Mod_readCellOf 129 = .ok (.iload_n 2, 1) := dc_28 (by decide +kernel)
theorem d_Mod_readCellOf_130 : decode b_Mod_readCellOf 130 = .ok (.iadd, 1) := dc_96 (by decide +kernel)
theorem d_Mod_readCellOf_131 : decode b_Mod_readCellOf 131 = .ok (.iaload, 1) := dc_46 (by decide +kernel)
theorem d_Mod_readCellOf_132 : decode b_Mod_readCellOf 132 = .ok (.iastore, 1) := dc_79 (by decide +kernel)
theorem d_Mod_readCellOf_133 : decode b_Mod_readCellOf 133 = .ok (.return_, 1) := dc_177 (by decide +kernel)
theorem d_Mod_readLineOf_0 : decode b_Mod_readLineOf 0 = .ok (.iload_n 1, 1) := dc_27 (by decide +kernel)
theorem d_Mod_readLineOf_1 : decode b_Mod_readLineOf 1 = .ok (.tableswitch 146 0 9 #[55, 78, 92, 106, 146, 146, 146, 146, 113, 139], 55) := by decide +kernel
theorem d_Mod_readLineOf_56 : decode b_Mod_readLineOf 56 = .ok (.aload_n 0, 1) := dc_42 (by decide +kernel)
theorem d_Mod_readLineOf_57 : decode b_Mod_readLineOf 57 = .ok (.aload_n 0, 1) := dc_42 (by decide +kernel)
theorem d_Mod_readLineOf_58 : decode b_Mod_readLineOf 58 = .ok (.iconst 2, 1) := dc_5 (by decide +kernel)
theorem d_Mod_readLineOf_59 : decode b_Mod_readLineOf 59 = .ok (.iconst 4, 1) := dc_7 (by decide +kernel)
theorem d_Mod_readLineOf_60 : decode b_Mod_readLineOf 60 = .ok (.invokevirtual 158, 3) := dc_182 (a := 0) (b := 158) (by decide +kernel) rfl
theorem d_Mod_readLineOf_63 : decode b_Mod_readLineOf 63 = .ok (.putfield 62, 3) := dc_181 (a := 0) (b := 62) (by decide +kernel) rfl
theorem d_Mod_readLineOf_66 : decode b_Mod_readLineOf 66 = .ok (.aload_n 0, 1) := dc_42 (by decide +kernel)
theorem d_Mod_readLineOf_67 : decode b_Mod_readLineOf 67 = .ok (.aload_n 0, 1) := dc_42 (by decide +kernel)
theorem d_Mod_readLineOf_68 : decode b_Mod_readLineOf 68 = .ok (.iconst 2, 1) := dc_5 (by decide +kernel)
theorem d_Mod_readLineOf_69 : decode b_Mod_readLineOf 69 = .ok (.iconst 4, 1) := dc_7 (by decide +kernel)
theorem d_Mod_readLineOf_70 : decode b_Mod_readLineOf 70 = .ok (.invokevirtual 158, 3) := dc_182 (a := 0) (b := 158) (by decide +kernel) rfl
theorem d_Mod_readLineOf_73 : decode b_Mod_readLineOf 73 = .ok (.putfield 66, 3) := dc_181 (a := 0) (b := 66) (by decide +kernel) rfl
theorem d_Mod_readLineOf_76 : decode b_Mod_readLineOf 76 = .ok (.goto 76, 3) := dc_167 (a := 0) (b := 76) (by decide +kernel) rfl
theorem d_Mod_readLineOf_79 : decode b_Mod_readLineOf 79 = .ok (.aload_n 0, 1) := dc_42 (by decide +kernel)
theorem d_Mod_readLineOf_80 : decode b_Mod_readLineOf 80 = .ok (.aload_n 0, 1) := dc_42 (by decide +kernel)
theorem d_Mod_readLineOf_81 : decode b_Mod_readLineOf 81 = .ok (.iconst 1, 1) := dc_4 (by decide +kernel)
theorem d_Mod_readLineOf_82 : decode b_Mod_readLineOf 82 = .ok (.bipush 9, 2) := dc_16 (a := 9) (by decide +kernel) rfl
theorem d_Mod_readLineOf_84 : decode b_Mod_readLineOf 84 = .ok (.invokevirtual 158, 3) := dc_182 (a := 0) (b := 158) (by decide +kernel) rfl
theorem d_Mod_readLineOf_87 : decode b_Mod_readLineOf 87 = .ok (.putfield 69, 3) := dc_181 (a := 0) (b := 69) (by decide +kernel) rfl
theorem d_Mod_readLineOf_90 : decode b_Mod_readLineOf 90 = .ok (.goto 62, 3) := dc_167 (a := 0) (b := 62) (by decide +kernel) rfl
theorem d_Mod_readLineOf_93 : decode b_Mod_readLineOf 93 = .ok (.aload_n 0, 1) := dc_42 (by decide +kernel)
theorem d_Mod_readLineOf_94 : decode b_Mod_readLineOf 94 = .ok (.aload_n 0, 1) := dc_42 (by decide +kernel)
theorem d_Mod_readLineOf_95 : decode b_Mod_readLineOf 95 = .ok (.iconst 1, 1) := dc_4 (by decide +kernel)
theorem d_Mod_readLineOf_96 : decode b_Mod_readLineOf 96 = .ok (.bipush 99, 2) := dc_16 (a := 99) (by decide +kernel) rfl
theorem d_Mod_readLineOf_98 : decode b_Mod_readLineOf 98 = .ok (.invokevirtual 158, 3) := dc_182 (a := 0) (b := 158) (by decide +kernel) rfl
theorem d_Mod_readLineOf_101 : decode b_Mod_readLineOf 101 = .ok (.putfield 72, 3) := dc_181 (a := 0) (b := 72) (by decide +kernel) rfl
theorem d_Mod_readLineOf_104 : decode b_Mod_readLineOf 104 = .ok (.goto 48, 3) := dc_167 (a := 0) (b := 48) (by decide +kernel) rfl
theorem d_Mod_readLineOf_107 : decode b_Mod_readLineOf 107 = .ok (.aload_n 0, 1) := dc_42 (by decide +kernel)
theorem d_Mod_readLineOf_108 : decode b_Mod_readLineOf 108 = .ok (.invokevirtual 164, 3) := dc_182 (a := 0) (b := 164) (by decide +kernel) rfl
theorem d_Mod_readLineOf_111 : decode b_Mod_readLineOf 111 = .ok (.goto 41, 3) := dc_167 (a := 0) (b := 41) (by decide +kernel) rfl
theorem d_Mod_readLineOf_114 : decode b_Mod_readLineOf 114 = .ok (.aload_n 0, 1) := dc_42 (by decide +kernel)
theorem d_Mod_readLineOf_115 : decode b_Mod_readLineOf 115 = .ok (.iload_n 1, 1) := dc_27 (by decide +kernel)
theorem d_Mod_readLineOf_116 : decode b_Mod_readLineOf 116 = .ok (.iconst 3, 1) := dc_6 (by decide +kernel)
theorem d_Mod_readLineOf_117 : decode b_Mod_readLineOf 117 = .ok (.invokevirtual 161, 3) := dc_182 (a := 0) (b := 161) (by decide +kernel) rfl
theorem d_Mod_readLineOf_120 : decode b_Mod_readLineOf 120 = .ok (.istore_n 2, 1) := dc_61 (by decide +kernel)
theorem d_Mod_readLineOf_121 : decode b_Mod_readLineOf 121 = .ok (.aload_n 0, 1) := dc_42 (by decide +kernel)
theorem d_Mod_readLineOf_122 : decode b_Mod_readLineOf 122 = .ok (.getfield 17, 3) := dc_180 (a := 0) (b := 17) (by decide +kernel) rfl
theorem d_Mod_readLineOf_125 : decode b_Mod_readLineOf 125 = .ok (.bipush 80, 2) := dc_16 (a := 80) (by decide +kernel) rfl
theorem d_Mod_readLineOf_127 : decode b_Mod_readLineOf 127 = .ok (.iload_n 2, 1) := dc_28 (by decide +kernel)
theorem d_Mod_readLineOf_128 : decode b_Mod_readLineOf 128 = .ok (.iadd, 1) := dc_96 (by decide +kernel)
theorem d_Mod_readLineOf_129 : decode b_Mod_readLineOf 129 = .ok (.aload_n 0, 1) := dc_42 (by decide +kernel)
theorem d_Mod_readLineOf_130 : decode b_Mod_readLineOf 130 = .ok (.iconst 0, 1) := dc_3 (by decide +kernel)
theorem d_Mod_readLineOf_131 : decode b_Mod_readLineOf 131 = .ok (.bipush 99, 2) := dc_16 (a := 99) (by decide +kernel) rfl
theorem d_Mod_readLineOf_133 : decode b_Mod_readLineOf 133 = .ok (.invokevirtual 158, 3) := dc_182 (a := 0) (b := 158) (by decide +kernel) rfl
theorem d_Mod_readLineOf_136 : decode b_Mod_readLineOf 136 = .ok (.iastore, 1) := dc_79 (by decide +kernel)
theorem d_Mod_readLineOf_137 : decode b_Mod_readLineOf 137 = .ok (.goto 15, 3) := dc_167 (a := 0) (b := 15) (by decide +kernel) rfl
theorem d_Mod_readLineOf_140 : decode b_Mod_readLineOf 140 = .ok (.aload_n 0, 1) := dc_42 (by decide +kernel)
theorem d_Mod_readLineOf_141 : decode b_Mod_readLineOf 141 = .ok (.invokevirtual 167, 3) := dc_182 (a := 0) (b := 167) (by decide +kernel) rfl
theorem d_Mod_readLineOf_144 : decode b_Mod_readLineOf 144 = .ok (.goto 8, 3) := dc_167 (a := 0) (b := 8) (by decide +kernel) rfl
theorem d_Mod_readLineOf_147 : decode b_Mod_readLineOf 147 = .ok (.aload_n 0, 1) := dc_42 (by decide +kernel)
theorem d_Mod_readLineOf_148 : decode b_Mod_readLineOf 148 = .ok (.iload_n 1, 1) := dc_27 (by decide +kernel)
theorem d_Mod_readLineOf_149 : decode b_Mod_readLineOf 149 = .ok (.invokevirtual 170, 3) := dc_182 (a := 0) (b := 170) (by decide +kernel) rfl
theorem d_Mod_readLineOf_152 : decode b_Mod_readLineOf 152 = .ok (.return_, 1) := dc_177 (by decide +kernel)
theorem d_Mod_readLine_0 : decode b_Mod_readLine 0 = .ok (.aload_n 0, 1) := dc_42 (by decide +kernel)
theorem d_Mod_readLine_1 : decode b_Mod_readLine 1 = .ok (.getfield 130, 3) := dc_180 (a := 0) (b := 130) (by decide +kernel) rfl
theorem d_Mod_readLine_4 : decode b_Mod_readLine 4 = .ok (.iconst 1, 1) := dc_4 (by decide +kernel)
theorem d_Mod_readLine_5 : decode b_Mod_readLine 5 = .ok (.if_icmp .ne 10, 3) := dc_160 (a := 0) (b := 10) (by decide +kernel) rfl
theorem d_Mod_readLine_8 : decode b_Mod_readLine 8 = .ok (.aload_n 0, 1) := dc_42 (by decide +kernel)
theorem d_Mod_readLine_9 : decode b_Mod_readLine 9 = .ok (.invokevirtual 174, 3) := dc_182 (a := 0) (b := 174) (by decide +kernel) rfl
theorem d_Mod_readLine_12 : decode b_Mod_readLine 12 = .ok (.goto 5, 3) := dc_167 (a := 0) (b := 5) (by decide +kernel) rfl
theorem d_Mod_readLine_15 : decode b_Mod_readLine 15 = .ok (.bipush (-4), 2) := dc_16 (a := 252) (by decide +kernel) rfl
theorem d_Mod_readLine_17 : decode b_Mod_readLine 17 = .ok (.istore_n 1, 1) := dc_60 (by decide +kernel)
theorem d_Mod_readLine_18 : decode b_Mod_readLine 18 = .ok (.aload_n 0, 1) := dc_42 (by decide +kernel)
theorem d_Mod_readLine_19 : decode b_Mod_readLine 19 = .ok (.iload_n 1, 1) := dc_27 (by decide +kernel)
theorem d_Mod_readLine_20 : decode b_Mod_readLine 20 = .ok (.bipush (-4), 2) := dc_16 (a := 252) (by decide +kernel) rfl
theorem d_Mod_readLine_22 : decode b_Mod_readLine 22 = .ok (.if_icmp .eq 7, 3) := dc_159 (a := 0) (b := 7) (by decide +kernel) rfl
theorem d_Mod_readLine_25 : decode b_Mod_readLine 25 = .ok (.iconst 1, 1) := dc_4 (by decide +kernel)
theorem d_Mod_readLine_26 : decode b_Mod_readLine 26 = .ok (.goto 4, 3) := dc_167 (a := 0) (b := 4) (by decide +kernel) rfl
theorem d_Mod_readLine_29 : decode b_Mod_readLine 29 = .ok (.iconst 0, 1) := dc_3 (by decide +kernel)
theorem d_Mod_readLine_30 : decode b_Mod_readLine 30 = .ok (.iconst 2, 1) := dc_5 (by decide +kernel)
theorem d_Mod_readLine_31 : decode b_Mod_readLine 31 = .ok (.invokevirtual 144, 3) := dc_182 (a := 0) (b := 144) (by decide +kernel) rfl
theorem d_Mod_readLine_34 : decode b_Mod_readLine 34 = .ok (.aload_n 0, 1) := dc_42 (by decide +kernel)
theorem d_Mod_readLine_35 : decode b_Mod_readLine 35 = .ok (.iload_n 1, 1) := dc_27 (by decide +kernel)
theorem d_Mod_readLine_36 : decode b_Mod_readLine 36 = .ok (.bipush 9, 2) := dc_16 (a := 9) (by decide +kernel) rfl
theorem d_Mod_readLine_38 : decode b_Mod_readLine 38 = .ok (.if_icmp .ne 15, 3) := dc_160 (a := 0) (b := 15) (by decide +kernel) rfl
theorem d_Mod_readLine_41 : decode b_Mod_readLine 41 = .ok (.aload_n 0, 1) := dc_42 (by decide +kernel)
theorem d_Mod_readLine_42 : decode b_Mod_readLine 42 = .ok (.getfield 17, 3) := dc_180 (a := 0) (b := 17) (by decide +kernel) rfl
theorem d_Mod_readLine_45 : decode b_Mod_readLine 45 = .ok (.bipush 86, 2) := dc_16 (a := 86) (by decide +kernel) rfl
theorem d_Mod_readLine_47 : decode b_Mod_readLine 47 = .ok (.iaload, 1) := dc_46 (by decide +kernel)
theorem d_Mod_readLine_48 : decode b_Mod_readLine 48 = .ok (.bipush 8, 2) := dc_16 (a := 8) (by decide +kernel) rfl
theorem d_Mod_readLine_50 : decode b_Mod_readLine 50 = .ok (.if_icmp .ge 7, 3) := dc_162 (a := 0) (b := 7) (by decide +kernel) rfl
theorem d_Mod_readLine_53 : decode b_Mod_readLine 53 = .ok (.iconst 1, 1) := dc_4 (by decide +kernel)
theorem d_Mod_readLine_54 : decode b_Mod_readLine 54 = .ok (.goto 4, 3) := dc_167 (a := 0) (b := 4) (by decide +kernel) rfl
theorem d_Mod_readLine_57 : decode b_Mod_readLine 57 = .ok (.iconst 0, 1) := dc_3 (by decide +kernel)
theorem d_Mod_readLine_58 : decode b_Mod_readLine 58 = .ok (.iconst 5, 1) := dc_8 (by decide +kernel)
theorem d_Mod_readLine_59 : decode b_Mod_readLine 59 = .ok (.invokevirtual 144, 3) := dc_182 (a := 0) (b := 144) (by decide +kernel) rfl
theorem d_Mod_readLine_62 : decode b_Mod_readLine 62 = .ok (.aload_n 0, 1) := dc_42 (by decide +kernel)
theorem d_Mod_readLine_63 : decode b_Mod_readLine 63 = .ok (.getfield 102, 3) := dc_180 (a := 0) (b := 102) (by decide +kernel) rfl
theorem d_Mod_readLine_66 : decode b_Mod_readLine 66 = .ok (.ifCond .ne 41, 3) := dc_154 (a := 0) (b := 41) (by decide +kernel) rfl
theorem d_Mod_readLine_69 : decode b_Mod_readLine 69 = .ok (.iload_n 1, 1) := dc_27 (by decide +kernel)
theorem d_Mod_readLine_70 : decode b_Mod_readLine 70 = .ok (.iconst 3, 1) := dc_6 (by decide +kernel)
theorem d_Mod_readLine_71 : decode b_Mod_readLine 71 = .ok (.if_icmp .gt 36, 3) := dc_163 (a := 0) (b := 36) (by decide +kernel) rfl
theorem d_Mod_readLine_74 : decode b_Mod_readLine 74 = .ok (.aload_n 0, 1) := dc_42 (by decide +kernel)
theorem d_Mod_readLine_75 : decode b_Mod_readLine 75 = .ok (.aload_n 0, 1) := dc_42 (by decide +kernel)
theorem d_Mod_readLine_76 : decode b_Mod_readLine 76 = .ok (.getfield 75, 3) := dc_180 (a := 0) (b := 75) (by decide +kernel) rfl
theorem d_Mod_readLine_79 : decode b_Mod_readLine 79 = .ok (.iload_n 1, 1) := dc_27 (by decide +kernel)
theorem d_Mod_readLine_80 : decode b_Mod_readLine 80 = .ok (.ishr, 1) := dc_122 (by decide +kernel)
theorem d_Mod_readLine_81 : decode b_Mod_readLine 81 = .ok (.iconst 1, 1) := dc_4 (by decide +kernel)
theorem d_Mod_readLine_82 : decode b_Mod_readLine 82 = .ok (.iand, 1) := dc_126 (by decide +kernel)
theorem d_Mod_readLine_83 : decode b_Mod_readLine 83 = .ok (.ifCond .ne 7, 3) := dc_154 (a := 0) (b := 7) (by decide +kernel) rfl
theorem d_Mod_readLine_86 : decode b_Mod_readLine 86 = .ok (.iconst 1, 1) := dc_4 (by decide +kernel)
theorem d_Mod_readLine_87 : decode b_Mod_readLine 87 = .ok (.goto 4, 3) := dc_167 (a := 0) (b := 4) (by decide +kernel) rfl
theorem d_Mod_readLine_90 : decode b_Mod_readLine 90 = .ok (.iconst 0, 1) := dc_3 (by decide +kernel)
theorem d_Mod_readLine_91 : decode b_Mod_readLine 91 = .ok (.iconst 4, 1) := dc_7 (by decide +kernel)
theorem d_Mod_readLine_92 : decode b_Mod_readLine 92 = .ok (.invokevirtual 144, 3) := dc_182 (a := 0) (b := 144) (by decide +kernel) rfl
theorem d_Mod_readLine_95 : decode b_Mod_readLine 95 = .ok (.aload_n 0, 1) := dc_42 (by decide +kernel)
theorem d_Mod_readLine_96 : decode b_Mod_readLine 96 = .ok (.dup, 1) := dc_89 (by decide +kernel)
theorem d_Mod_readLine_97 : decode b_Mod_readLine 97 = .ok (.getfield 75, 3) := dc_180 (a := 0) (b := 75) (by decide +kernel) rfl
theorem d_Mod_readLine_100 : decode b_Mod_readLine 100 = .ok (.iconst 1, 1) := dc_4 (by decide +kernel)
theorem d_Mod_readLine_101 : decode b_Mod_readLine 101 = .ok (.iload_n 1, 1) := dc_27 (by decide +kernel)
theorem d_Mod_readLine_102 : decode b_Mod_readLine 102 = .ok (.ishl, 1) := dc_120 (by decide +kernel)
theorem d_Mod_readLine_103 : decode b_Mod_readLine 103 = .ok (.ior, 1) := dc_128 (by decide +kernel)
theorem d_Mod_readLine_104 : decode b_Mod_readLine 104 = .ok (.putfield 75, 3) := dc_181 (a := 0) (b := 75) (by decide +kernel) rfl
theorem d_Mod_readLine_107 : decode b_Mod_readLine 107 = .ok (.aload_n 0, 1) := dc_42 (by decide +kernel)
theorem d_Mod_readLine_108 : decode b_Mod_readLine 108 = .ok (.invokevirtual 152, 3) := dc_182 (a := 0) (b := 152) (by decide +kernel) rfl
theorem d_Mod_readLine_111 : decode b_Mod_readLine 111 = .ok (.aload_n 0, 1) := dc_42 (by decide +kernel)
theorem d_Mod_readLine_112 : decode b_Mod_readLine 112 = .ok (.getfield 102, 3) := dc_180 (a := 0) (b := 102) (by decide +kernel) rfl
theorem d_Mod_readLine_115 : decode b_Mod_readLine 115 = .ok (.ifCond .le 4, 3) := dc_158 (a := 0) (b := 4) (by decide +kernel) rfl
theorem d_Mod_readLine_118 : decode b_Mod_readLine 118 = .ok (.return_, 1) := dc_177 (by decide +kernel)
theorem d_Mod_readLine_119 : decode b_Mod_readLine 119 = .ok (.aload_n 0, 1) := dc_42 (by decide +kernel)
theorem d_Mod_readLine_120 : decode b_Mod_readLine 120 = .ok (.iload_n 1, 1) := dc_27 (by decide +kernel)
theorem d_Mod_readLine_121 : decode b_Mod_readLine 121 = .ok (.invokevirtual 177, 3) := dc_182 (a := 0) (b := 177) (by decide +kernel) rfl
theorem d_Mod_readLine_124 : decode b_Mod_readLine 124 = .ok (.aload_n 0, 1) := dc_42 (by decide +kernel)
theorem d_Mod_readLine_125 : decode b_Mod_readLine 125 = .ok (.getfield 102, 3) := dc_180 (a := 0) (b := 102) (by decide +kernel) rfl
theorem d_Mod_readLine_128 : decode b_Mod_readLine 128 = .ok (.ifCond .ne 21, 3) := dc_154 (a := 0) (b := 21) (by decide +kernel) rfl
theorem d_Mod_readLine_131 : decode b_Mod_readLine 131 = .ok (.aload_n 0, 1) := dc_42 (by decide +kernel)
theorem d_Mod_readLine_132 : decode b_Mod_readLine 132 = .ok (.aload_n 0, 1) := dc_42 (by decide +kernel)
theorem d_Mod_readLine_133 : decode b_Mod_readLine 133 = .ok (.getfield 130, 3) := dc_180 (a := 0) (b := 130) (by decide +kernel) rfl
theorem d_Mod_readLine_136 : decode b_Mod_readLine 136 = .ok (.iconst 3, 1) := dc_6 (by decide +kernel)
theorem d_Mod_readLine_137 : decode b_Mod_readLine 137 = .ok (.if_icmp .ne 7, 3) := dc_160 (a := 0) (b := 7) (by decide +kernel) rfl
theorem d_Mod_readLine_140 : decode b_Mod_readLine 140 = .ok (.iconst 1, 1) := dc_4 (by decide +kernel)
theorem d_Mod_readLine_141 : decode b_Mod_readLine 141 = .ok (.goto 4, 3) := dc_167 (a := 0) (b := 4) (by decide +kernel) rfl
theorem d_Mod_readLine_144 : decode b_Mod_readLine 144 = .ok (.iconst 0, 1) := dc_3 (by decide +kernel)
theorem d_Mod_readLine_145 : decode b_Mod_readLine 145 = .ok (.iconst 2, 1) := dc_5 (by decide +kernel)
theorem d_Mod_readLine_146 : decode b_Mod_readLine 146 = .ok (.invokevirtual 144, 3) := dc_182 (a := 0) (b := 144) (by decide +kernel) rfl
theorem d_Mod_readLine_149 : decode b_Mod_readLine 149 = .ok (.aload_n 0, 1) := dc_42 (by decide +kernel)
theorem d_Mod_readLine_150 : decode b_Mod_readLine 150 = .ok (.invokevirtual 152, 3) := dc_182 (a := 0) (b := 152) (by decide +kernel) rfl
theorem d_Mod_readLine_153 : decode b_Mod_readLine 153 = .ok (.return_, 1) := dc_177 (by decide +kernel)
theorem d_Mod_text_0 : decode b_Mod_text 0 = .ok (.iconst 0, 1) := dc_3 (by decide +kernel)
theorem d_Mod_text_1 : decode b_Mod_text 1 = .ok (.istore_n 1, 1) := dc_60 (by decide +kernel)
theorem d_Mod_text_2 : decode b_Mod_text 2 = .ok (.aload_n 0, 1) := dc_42 (by decide +kernel)
theorem d_Mod_text_3 : decode b_Mod_text 3 = .ok (.iconst 0, 1) := dc_3 (by decide +kernel)
theorem d_Mod_text_4 : decode b_Mod_text 4 = .ok (.putfield 102, 3) := dc_181 (a := 0) (b := 102) (by decide +kernel) rfl
theorem d_Mod_text_7 : decode b_Mod_text 7 = .ok (.aload_n 0, 1) := dc_42 (by decide +kernel)
theorem d_Mod_text_8 : decode b_Mod_text 8 = .ok (.iconst 0, 1) := dc_3 (by decide +kernel)
theorem d_Mod_text_9 : decode b_Mod_text 9 = .ok (.putfield 111, 3) := dc_181 (a := 0) (b := 111) (by decide +kernel) rfl
theorem d_Mod_text_12 : decode b_Mod_text 12 = .ok (.aload_n 0, 1) := dc_42 (by decide +kernel)
theorem d_Mod_text_13 : decode b_Mod_text 13 = .ok (.invokevirtual 56, 3) := dc_182 (a := 0) (b := 56) (by decide +kernel) rfl
theorem d_Mod_text_16 : decode b_Mod_text 16 = .ok (.aload_n 0, 1) := dc_42 (by decide +kernel)
theorem d_Mod_text_17 : decode b_Mod_text 17 = .ok (.invokevirtual 152, 3) := dc_182 (a := 0) (b := 152) (by decide +kernel) rfl
theorem d_Mod_text_20 : decode b_Mod_text 20 = .ok (.aload_n 0, 1) := dc_42 (by decide +kernel)
theorem d_Mod_text_21 : decode b_Mod_text 21 = .ok (.getfield 102, 3) := dc_180 (a := 0) (b := 102) (by decide +kernel) rfl
theorem d_Mod_text_24 : decode b_Mod_text 24 = .ok (.ifCond .ne 20, 3) := dc_154 (a := 0) (b := 20) (by decide +kernel) rfl
theorem d_Mod_text_27 : decode b_Mod_text 27 = .ok (.aload_n 0, 1) := dc_42 (by decide +kernel)
theorem d_Mod_text_28 : decode b_Mod_text 28 = .ok (.getfield 130, 3) := dc_180 (a := 0) (b := 130) (by decide +kernel) rfl
theorem d_Mod_text_31 : decode b_Mod_text 31 = .ok (.ifCond .eq 13, 3) := dc_153 (a := 0) (b := 13) (by decide +kernel) rfl
theorem d_Mod_text_34 : decode b_Mod_text 34 = .ok (.aload_n 0, 1) := dc_42 (by decide +kernel)
theorem d_Mod_text_35 : decode b_Mod_text 35 = .ok (.invokevirtual 180, 3) := dc_182 (a := 0) (b := 180) (by decide +kernel) rfl
theorem d_Mod_text_38 : decode b_Mod_text 38 = .ok (.iinc 1 1, 3) := dc_132 (a := 1) (b := 1) (by decide +kernel) rfl
theorem d_Mod_text_41 : decode b_Mod_text 41 = .ok (.goto (-21), 3) := dc_167 (a := 255) (b := 235) (by decide +kernel) rfl
theorem d_Mod_text_44 : decode b_Mod_text 44 = .ok (.aload_n 0, 1) := dc_42 (by decide +kernel)
theorem d_Mod_text_45 : decode b_Mod_text 45 = .ok (.getfield 102, 3) := dc_180 (a := 0) (b := 102) (by decide +kernel) rfl
theorem d_Mod_text_48 : decode b_Mod_text 48 = .ok (.ifCond .ne 30, 3) := dc_154 (a := 0) (b := 30) (by decide +kernel) rfl
theorem d_Mod_text_51 : decode b_Mod_text 51 = .ok (.aload_n 0, 1) := dc_42 (by decide +kernel)
theorem d_Mod_text_52 : decode b_Mod_text 52 = .ok (.aload_n 0, 1) := dc_42 (by decide +kernel)
theorem d_Mod_text_53 : decode b_Mod_text 53 = .ok (.getfield 78, 3) := dc_180 (a := 0) (b := 78) (by decide +kernel) rfl
theorem d_Mod_text_56 : decode b_Mod_text 56 = .ok (.aload_n 0, 1) := dc_42 (by decide +kernel)
theorem d_Mod_text_57 : decode b_Mod_text 57 = .ok (.getfield 62, 3) := dc_180 (a := 0) (b := 62) (by decide +kernel) rfl
theorem d_Mod_text_60 : decode b_Mod_text 60 = .ok (.aload_n 0, 1) := dc_42 (by decide +kernel)
theorem d_Mod_text_61 : decode b_Mod_text 61 = .ok (.getfield 66, 3) := dc_180 (a := 0) (b := 66) (by decide +kernel) rfl
theorem d_Mod_text_64 : decode b_Mod_text 64 = .ok (.imul, 1) := dc_104 (by decide +kernel)
theorem d_Mod_text_65 : decode b_Mod_text 65 = .ok (.if_icmp .ge 7, 3) := dc_162 (a := 0) (b := 7) (by decide +kernel) rfl
theorem d_Mod_text_68 : decode b_Mod_text 68 = .ok (.iconst 1, 1) := dc_4 (by decide +kernel)
theorem d_Mod_text_69 : decode b_Mod_text 69 = .ok (.goto 4, 3) := dc_167 (a := 0) (b := 4) (by decide +kernel) rfl
theorem d_Mod_text_72 : decode b_Mod_text 72 = .ok (.iconst 0, 1) := dc_3 (by decide +kernel)
theorem d_Mod_text_73 : decode b_Mod_text 73 = .ok (.bipush 6, 2) := dc_16 (a := 6) (by decide +kernel) rfl
theorem d_Mod_text_75 : decode b_Mod_text 75 = .ok (.invokevirtual 144, 3) := dc_182 (a := 0) (b := 144) (by decide +kernel) rfl
theorem d_Mod_text_78 : decode b_Mod_text 78 = .ok (.aload_n 0, 1) := dc_42 (by decide +kernel)
theorem d_Mod_text_79 : decode b_Mod_text 79 = .ok (.iconst 0, 1) := dc_3 (by decide +kernel)
theorem d_Mod_text_80 : decode b_Mod_text 80 = .ok (.putfield 99, 3) := dc_181 (a := 0) (b := 99) (by decide +kernel) rfl
theorem d_Mod_text_83 : decode b_Mod_text 83 = .ok (.aload_n 0, 1) := dc_42 (by decide +kernel)
theorem d_Mod_text_84 : decode b_Mod_text 84 = .ok (.getfield 102, 3) := dc_180 (a := 0) (b := 102) (by decide +kernel) rfl
theorem d_Mod_text_87 : decode b_Mod_text 87 = .ok (.ifCond .le 11, 3) := dc_158 (a := 0) (b := 11) (by decide +kernel) rfl
theorem d_Mod_text_90 : decode b_Mod_text 90 = .ok (.bipush (-10), 2) := dc_16 (a := 246) (by decide +kernel) rfl
theorem d_Mod_text_92 : decode b_Mod_text 92 = .ok (.aload_n 0, 1) := dc_42 (by decide +kernel)
theorem d_Mod_text_93 : decode b_Mod_text 93 = .ok (.getfield 108, 3) := dc_180 (a := 0) (b := 108) (by decide +kernel) rfl
theorem d_Mod_text_96 : decode b_Mod_text 96 = .ok (.isub, 1) := dc_100 (by decide +kernel)
theorem d_Mod_text_97 : decode b_Mod_text 97 = .ok (.ireturn, 1) := dc_172 (by decide +kernel)
theorem d_Mod_text_98 : decode b_Mod_text 98 = .ok (.aload_n 0, 1) := dc_42 (by decide +kernel)
theorem d_Mod_text_99 : decode b_Mod_text 99 = .ok (.invokevirtual 59, 3) := dc_182 (a := 0) (b := 59) (by decide +kernel) rfl
theorem d_Mod_text_102 : decode b_Mod_text 102 = .ok (.iload_n 1, 1) := dc_27 (by decide +kernel)
theorem d_Mod_text_103 : decode b_Mod_text 103 = .ok (.ireturn, 1) := dc_172 (by decide +kernel)
end
section
section VJ
variable {own : String} {cc : ByteArray} {nL : Nat} {ret : Option FieldType} {F L : Nat} {post : Option Value → Hp → Prop} {h : Hp} {pc : Nat} {ls : Pl} {st : List Value}
theorem V_gets {Cn nm de : String} {idx : Nat} {v : Value} (hz : ∀ (X : Xc) (A : Nat → Prop) (U : State) (H : Heap), Ro X A U H → va_Z Cn nm de (rv X.2.1 v) A U H) (hl : Cond.fieldLink own idx Cn nm de ∈ vv_G) (d : decode cc pc = .ok (.getstatic idx, 3)) (kk : V own cc nL ret F L post h (pc + 3) ls (v :: st)) : V own cc nL ret F L post h pc ls st := fun p l e s m args below meth c X A H locs lsA C hP hS hl' =>
  va_gets C.1 C.2.1 (hz X A s s.heap C.2.2.2.2.2.2.2.2.2.2) hS C.2.2.2.1 (C.2.2.2.2.1 _ hl) (fun _ q => q) d (kk p l e s m args below meth c X A H locs lsA C hP hS hl')
theorem V_getsF {idx : Nat} (hl : Cond.fieldLink own idx "jdk/internal/util/Preconditions" "SIOOBE_FORMATTER" "Ljava/util/function/BiFunction;" ∈ vv_G) (d : decode cc pc = .ok (.getstatic idx, 3)) (k1 : V own cc nL ret F L post h (pc + 3) ls (.null :: st)) (k2 : V own cc nL ret F L post h (pc + 3) ls (.ref 163 :: st)) : V own cc nL ret F L post h pc ls st := fun p l e s m args below meth c X A H locs lsA C hP hS hl' => by
  rcases C.2.2.2.2.2.2.2.2.2.2.2.2.2.2.1 with q | q
  · exact va_gets C.1 C.2.1 q hS C.2.2.2.1 (C.2.2.2.2.1 _ hl) (fun _ q => q) d (k1 p l e s m args below meth c X A H locs lsA C hP hS hl')
  · exact va_gets C.1 C.2.1 q hS C.2.2.2.1 (C.2.2.2.2.1 _ hl) (fun _ q => q) d (k2 p l e s m args below meth c X A H locs lsA C hP hS hl')
theorem V_tald {k : Nat} {l0 : List Int32} {nm : String} {i : Int32} {I : Int} (hz : ∀ (X : Xc) (A : Nat → Prop) (U : State) (H : Heap), Ro X A U H → vv_ro X A U H nm k l0) (ha : i.toInt = I) (hin : 0 ≤ I ∧ I < (l0.length : Int)) (d : decode cc pc = .ok (.iaload, 1)) (kk : ∀ (z : Int32) (Z : Int), z.toInt = Z → z = l0.getD I.toNat 0 → V own cc nL ret F L post h (pc + 1) ls (.int z :: st)) : V own cc nL ret F L post h pc ls (.int i :: .ref k :: st) := fun p l e s m args below meth c X A H locs lsA C hP hS hl' =>
  va_ti C.1 C.2.1 (hz X A s s.heap C.2.2.2.2.2.2.2.2.2.2).2 hS (vp_in_of_ti ha hin) (v := .int (l0.getD I.toNat 0)) (by rw [ti_cl, ha]) d (kk _ _ rfl rfl p l e s m args below meth c X A H locs lsA C hP hS hl')
theorem V_ldcS {idx i : Nat} (hi : i < 14) (ho : own = R_Reader) (hx : vv_txI.getD i 0 = idx) (d : decode cc pc = .ok (.ldc idx, 2)) (kk : V own cc nL ret F L post h (pc + 2) ls (.ref (135 + i) :: st)) : V own cc nL ret F L post h pc ls st := fun p l e s m args below meth c X A H locs lsA C hP hS hl' => by
  subst ho
  subst hx
  exact va_ldcS C.1 C.2.1 C.2.2.2.1 (C.2.2.2.2.2.2.2.2.2.2.2.2.2.2.2.2.1 i hi) d (kk p l e s m args below meth c X A H locs lsA C hP hS hl')
theorem V_sgetC {idx i : Nat} (hi : i < 14) (hl : Cond.fieldLink own idx "java/lang/String" "coder" "B" ∈ vv_G) (d : decode cc pc = .ok (.getfield idx, 3)) (kk : V own cc nL ret F L post h (pc + 3) ls (.int 0 :: st)) : V own cc nL ret F L post h pc ls (.ref (135 + i) :: st) := fun p l e s m args below meth c X A H locs lsA C hP hS hl' =>
  vk_getf C.1 C.2.1 ((C.2.2.2.2.2.2.2.2.2.2.2.2.2.2.2.1).1 i hi).2.1 hS C.2.2.2.1 (C.2.2.2.2.1 _ hl) (fun _ q => q) d (kk p l e s m args below meth c X A H locs lsA C hP hS hl')
theorem V_sgetV {idx i : Nat} (hi : i < 14) (hl : Cond.fieldLink own idx "java/lang/String" "value" "[B" ∈ vv_G) (d : decode cc pc = .ok (.getfield idx, 3)) (kk : V own cc nL ret F L post h (pc + 3) ls (.ref (149 + i) :: st)) : V own cc nL ret F L post h pc ls (.ref (135 + i) :: st) := fun p l e s m args below meth c X A H locs lsA C hP hS hl' =>
  vk_getf C.1 C.2.1 ((C.2.2.2.2.2.2.2.2.2.2.2.2.2.2.2.1).1 i hi).2.2.1 hS C.2.2.2.1 (C.2.2.2.2.1 _ hl) (fun _ q => q) d (kk p l e s m args below meth c X A H locs lsA C hP hS hl')
theorem V_slen {i : Nat} (hi : i < 14) (d : decode cc pc = .ok (.arraylength, 1)) (kk : V own cc nL ret F L post h (pc + 1) ls (.int (Int32.ofNat (vv_txL.getD i 0)) :: st)) : V own cc nL ret F L post h pc ls (.ref (149 + i) :: st) := fun p l e s m args below meth c X A H locs lsA C hP hS hl' =>
  va_tlen C.1 C.2.1 ((C.2.2.2.2.2.2.2.2.2.2.2.2.2.2.2.1).1 i hi).2.2.2 hS rfl d (kk p l e s m args below meth c X A H locs lsA C hP hS hl')
theorem V_sbald {i : Nat} (hi : i < 14) {j : Int32} {J : Int} (ha : j.toInt = J) (hin : 0 ≤ J ∧ J < (vv_txL.getD i 0 : Nat)) (d : decode cc pc = .ok (.baload, 1)) (kk : V own cc nL ret F L post h (pc + 1) ls (.int ((vv_txB.getD i []).getD J.toNat 0) :: st)) : V own cc nL ret F L post h pc ls (.int j :: .ref (149 + i) :: st) := fun p l e s m args below meth c X A H locs lsA C hP hS hl' =>
  va_tb C.1 C.2.1 ((C.2.2.2.2.2.2.2.2.2.2.2.2.2.2.2.1).1 i hi).2.2.2 hS (vp_in_of_ti ha hin) (v := .int ((vv_txB.getD i []).getD J.toNat 0)) (by rw [ti_cl, ha]) d (kk p l e s m args below meth c X A H locs lsA C hP hS hl')
theorem V_i2c {x : Int32} (d : decode cc pc = .ok (.i2c, 1)) (k : ∀ z : Int32, z = (x.toUInt32 % 65536).toInt32 → V own cc nL ret F L post h (pc + 1) ls (.int z :: st)) : V own cc nL ret F L post h pc ls (.int x :: st) := fun p l e s m args below meth c X A H locs lsA C hP hS hl => lv_i2c C.1 C.2.1 d rfl (k _ rfl p l e s m args below meth c X A H locs lsA C hP hS hl)
theorem V_callVS {y : MethodName} {cc' : ByteArray} {nL' : Nat} {ret' : Option FieldType} {F' L' idx i : Nat} {post' : Option Value → Hp → Prop} (As rest : List Value) (cv : CV own idx y cc' nL' ret' As.length) (hi : i < 14) (hcl : "java/lang/String" = y.cls) (d : decode cc pc = .ok (.invokevirtual idx, 3)) (hst : st = As.reverse ++ .ref (135 + i) :: rest) (hrm : (rest.map fun v => v.category).sum ≤ 8) (hF : F' + 1 ≤ F) (hL : 8 + (nL' + 11) + L' ≤ L)
    (ct : Ct y cc' nL' ret' F' L' (.ref (135 + i) :: As) h post') (kk : ∀ (r : Option Value) (h' : Hp), post' r h' → V own cc nL ret F L post h' (pc + 3) ls (r.toList ++ rest)) : V own cc nL ret F L post h pc ls st := fun p l e s m args below meth c X A H locs lsA C hP hS hl => by
  obtain ⟨⟨q1, q2, q3⟩, q4, q5, q6⟩ := cv
  have hts := C.2.2.2.2.1
  obtain ⟨b1, b2⟩ := vv_pre C hP hS (.ref (135 + i) :: As)
  have hrecv := vk_recv (C.2.2.2.2.2.2.2.2.2.2.2.2.2.2.2.1) hi hS
  rw [hcl] at hrecv
  refine vv_after (rest := rest) (va_runV (Ts := vv_G) (As := As.map (rv X.2.1)) (b := X.2.1 (135 + i)) (C := y.cls) (n := As.length) ⟨C.1, C.2.1, C.2.2.1, C.2.2.2.1, hts⟩ (ct l X H.size) ⟨callB_of As.length hts (vv_good q1) rfl rfl rfl (hts _ q3) (hts _ q6) q2 ⟨hF, hL⟩, hts _ q4, hts _ q5⟩ ⟨b1, hrecv, b2⟩ rfl (List.length_map _) hl.1 ?_ (lv_room (vv_room _ hrm)) d ⟨Nat.le_refl _, Nat.le_refl _⟩) C hS hl kk
  rw [hst]
  simp [rv]
theorem N_callVSI {y : MethodName} {cc' : ByteArray} {nL' : Nat} {ret' : Option FieldType} {F' L' idx i : Nat} {P : Int32 → Hp → Prop} (As rest : List Value) (cv : CV own idx y cc' nL' ret' As.length) (hi : i < 14) (hcl : "java/lang/String" = y.cls) (d : decode cc pc = .ok (.invokevirtual idx, 3)) (hst : st = As.reverse ++ .ref (135 + i) :: rest) (hrm : (rest.map fun v => v.category).sum ≤ 8) (hF : F' + 1 ≤ F) (hL : 8 + (nL' + 11) + L' ≤ L)
    (ct : Ct y cc' nL' ret' F' L' (.ref (135 + i) :: As) h (pInt P)) (kk : ∀ (x : Int32) (h' : Hp) (X : Int), x.toInt = X → P x h' → V own cc nL ret F L post h' (pc + 3) ls (.int x :: rest)) : V own cc nL ret F L post h pc ls st := V_callVS As rest cv hi hcl d hst hrm hF hL ct (fun r h' hp => by obtain ⟨x, rfl, hx⟩ := hp; exact kk x h' _ rfl hx)
end VJ
def R_Str : String := "java/lang/String"
def R_Lat : String := "java/lang/StringLatin1"
def R_Pre : String := "jdk/internal/util/Preconditions"
def R_Arr : String := "java/util/Arrays"
def R_Int : String := "java/lang/Integer"
abbrev b_Arr_fill : ByteArray := prog_20_method_103_code
def y_Arr_fill : MethodName := ⟨R_Arr, "fill", "([II)V"⟩
abbrev b_Int_bitCount : ByteArray := prog_14_method_49_code
def y_Int_bitCount : MethodName := ⟨R_Int, "bitCount", "(I)I"⟩
abbrev b_Str_length : ByteArray := prog_16_method_54_code
def y_Str_length : MethodName := ⟨R_Str, "length", "()I"⟩
abbrev b_Str_coder : ByteArray := prog_16_method_152_code
def y_Str_coder : MethodName := ⟨R_Str, "coder", "()B"⟩
abbrev b_Str_charAt : ByteArray := prog_16_method_56_code
def y_Str_charAt : MethodName := ⟨R_Str, "charAt", "(I)C"⟩
abbrev b_Str_isLatin1 : ByteArray := prog_16_method_154_code
def y_Str_isLatin1 : MethodName := ⟨R_Str, "isLatin1", "()Z"⟩
abbrev b_Lat_charAt : ByteArray := prog_17_method_2_code
def y_Lat_charAt : MethodName := ⟨R_Lat, "charAt", "([BI)C"⟩
abbrev b_Str_checkIndex : ByteArray := prog_16_method_155_code
def y_Str_checkIndex : MethodName := ⟨R_Str, "checkIndex", "(II)V"⟩
abbrev b_Pre_checkIndex : ByteArray := prog_21_method_11_code
def y_Pre_checkIndex : MethodName := ⟨R_Pre, "checkIndex", "(IILjava/util/function/BiFunction;)I"⟩
theorem roN : ∀ (X : Xc) (A : Nat → Prop) (U : State) (H : Heap), Ro X A U H → vv_ro X A U H "NUMBERS" 132 vv_numL := fun _ _ _ _ h => h.1
theorem roL : ∀ (X : Xc) (A : Nat → Prop) (U : State) (H : Heap), Ro X A U H → vv_ro X A U H "LEAST" 133 vv_leastL := fun _ _ _ _ h => h.2.1
theorem roM : ∀ (X : Xc) (A : Nat → Prop) (U : State) (H : Heap), Ro X A U H → vv_ro X A U H "MOST" 134 vv_mostL := fun _ _ _ _ h => h.2.2.1
theorem zN : ∀ (X : Xc) (A : Nat → Prop) (U : State) (H : Heap), Ro X A U H → va_Z R_Reader "NUMBERS" "[I" (rv X.2.1 (.ref 132)) A U H := fun _ _ _ _ h => h.1.1
theorem zL : ∀ (X : Xc) (A : Nat → Prop) (U : State) (H : Heap), Ro X A U H → va_Z R_Reader "LEAST" "[I" (rv X.2.1 (.ref 133)) A U H := fun _ _ _ _ h => h.2.1.1
theorem zM : ∀ (X : Xc) (A : Nat → Prop) (U : State) (H : Heap), Ro X A U H → va_Z R_Reader "MOST" "[I" (rv X.2.1 (.ref 134)) A U H := fun _ _ _ _ h => h.2.2.1.1
theorem zC : ∀ (X : Xc) (A : Nat → Prop) (U : State) (H : Heap), Ro X A U H → va_Z "java/lang/String" "COMPACT_STRINGS" "Z" (rv X.2.1 (.int 1)) A U H := fun _ _ _ _ h => h.2.2.2.1
theorem wS38 : Cond.fieldLink R_Str 38 "java/lang/String" "COMPACT_STRINGS" "Z" ∈ vv_G := vv_Gin (List.mem_append_right _ (List.mem_append_right _ (List.mem_append_left _ (List.mem_of_getElem? (i := 228) (by decide +kernel))))) (by decide +kernel)
theorem wS15 : Cond.fieldLink R_Str 15 "java/lang/String" "coder" "B" ∈ vv_G := vv_Gin (List.mem_append_right _ (List.mem_append_right _ (List.mem_append_right _ (List.mem_append_right _ (List.mem_append_right _ (List.mem_append_right _ (List.mem_of_getElem? (i := 203) (by decide +kernel)))))))) (by decide +kernel)
theorem wS9 : Cond.fieldLink R_Str 9 "java/lang/String" "value" "[B" ∈ vv_G := vv_Gin (List.mem_append_right _ (List.mem_append_right _ (List.mem_append_right _ (List.mem_append_right _ (List.mem_append_right _ (List.mem_append_right _ (List.mem_of_getElem? (i := 202) (by decide +kernel)))))))) (by decide +kernel)
theorem wS1053 : Cond.fieldLink R_Str 1053 "jdk/internal/util/Preconditions" "SIOOBE_FORMATTER" "Ljava/util/function/BiFunction;" ∈ vv_G := vv_Gin (List.mem_append_right _ (List.mem_append_right _ (List.mem_append_right _ (List.mem_append_left _ (List.mem_of_getElem? (i := 4) (by decide +kernel)))))) (by decide +kernel)
theorem cv_Str_335 : CV R_Str 335 y_Str_coder b_Str_coder 1 (some .byte) 0 := ⟨⟨vv_Gin (List.mem_append_right _ (List.mem_append_right _ (List.mem_append_left _ (List.mem_of_getElem? (i := 227) (by decide +kernel))))) (by decide +kernel), by decide +kernel, vv_Gin (List.mem_append_right _ (List.mem_append_left _ (List.mem_of_getElem? (i := 14) (by decide +kernel)))) (by decide +kernel)⟩, vv_Gin (List.mem_append_right _ (List.mem_append_right _ (List.mem_append_left _ (List.mem_of_getElem? (i := 225) (by decide +kernel))))) (by decide +kernel), vv_Gin (List.mem_append_right _ (List.mem_append_right _ (List.mem_append_left _ (List.mem_of_getElem? (i := 226) (by decide +kernel))))) (by decide +kernel), vv_Gin (List.mem_append_right _ (List.mem_append_right _ (List.mem_append_left _ (List.mem_of_getElem? (i := 224) (by decide +kernel))))) (by decide +kernel)⟩
theorem cv_Str_492 : CV R_Str 492 y_Str_isLatin1 b_Str_isLatin1 1 (some .boolean) 0 := ⟨⟨vv_Gin (List.mem_append_right _ (List.mem_append_right _ (List.mem_append_left _ (List.mem_of_getElem? (i := 237) (by decide +kernel))))) (by decide +kernel), by decide +kernel, vv_Gin (List.mem_append_right _ (List.mem_append_left _ (List.mem_of_getElem? (i := 14) (by decide +kernel)))) (by decide +kernel)⟩, vv_Gin (List.mem_append_right _ (List.mem_append_right _ (List.mem_append_left _ (List.mem_of_getElem? (i := 235) (by decide +kernel))))) (by decide +kernel), vv_Gin (List.mem_append_right _ (List.mem_append_right _ (List.mem_append_left _ (List.mem_of_getElem? (i := 236) (by decide +kernel))))) (by decide +kernel), vv_Gin (List.mem_append_right _ (List.mem_append_right _ (List.mem_append_left _ (List.mem_of_getElem? (i := 234) (by decide +kernel))))) (by decide +kernel)⟩
theorem cs_Str_495 : CS R_Str 495 y_Lat_charAt b_Lat_charAt 2 (some .char) 2 := ⟨⟨vv_Gin (List.mem_append_right _ (List.mem_append_right _ (List.mem_append_right _ (List.mem_append_left _ (List.mem_of_getElem? (i := 0) (by decide +kernel)))))) (by decide +kernel), by decide +kernel, vv_Gin (List.mem_append_right _ (List.mem_append_left _ (List.mem_of_getElem? (i := 15) (by decide +kernel)))) (by decide +kernel)⟩, vv_Gin (List.mem_append_right _ (List.mem_append_right _ (List.mem_append_left _ (List.mem_of_getElem? (i := 239) (by decide +kernel))))) (by decide +kernel), Or.inl (vv_Gin (List.mem_append_right _ (List.mem_append_right _ (List.mem_append_left _ (List.mem_of_getElem? (i := 238) (by decide +kernel))))) (by decide +kernel))⟩
theorem cs_Lat_9 : CS R_Lat 9 y_Str_checkIndex b_Str_checkIndex 2 none 2 := ⟨⟨vv_Gin (List.mem_append_right _ (List.mem_append_right _ (List.mem_append_right _ (List.mem_append_left _ (List.mem_of_getElem? (i := 3) (by decide +kernel)))))) (by decide +kernel), by decide +kernel, vv_Gin (List.mem_append_right _ (List.mem_append_left _ (List.mem_of_getElem? (i := 14) (by decide +kernel)))) (by decide +kernel)⟩, vv_Gin (List.mem_append_right _ (List.mem_append_right _ (List.mem_append_right _ (List.mem_append_left _ (List.mem_of_getElem? (i := 2) (by decide +kernel)))))) (by decide +kernel), Or.inl (vv_Gin (List.mem_append_right _ (List.mem_append_right _ (List.mem_append_right _ (List.mem_append_left _ (List.mem_of_getElem? (i := 1) (by decide +kernel)))))) (by decide +kernel))⟩
theorem cs_Str_1059 : CS R_Str 1059 y_Pre_checkIndex b_Pre_checkIndex 3 (some .int) 3 := ⟨⟨vv_Gin (List.mem_append_right _ (List.mem_append_right _ (List.mem_append_right _ (List.mem_append_left _ (List.mem_of_getElem? (i := 8) (by decide +kernel)))))) (by decide +kernel), by decide +kernel, vv_Gin (List.mem_append_right _ (List.mem_append_left _ (List.mem_of_getElem? (i := 16) (by decide +kernel)))) (by decide +kernel)⟩, vv_Gin (List.mem_append_right _ (List.mem_append_right _ (List.mem_append_right _ (List.mem_append_left _ (List.mem_of_getElem? (i := 7) (by decide +kernel)))))) (by decide +kernel), Or.inl (vv_Gin (List.mem_append_right _ (List.mem_append_right _ (List.mem_append_right _ (List.mem_append_left _ (List.mem_of_getElem? (i := 6) (by decide +kernel)))))) (by decide +kernel))⟩
theorem d_sc0 : decode b_Str_coder 0 = .ok (.getstatic 38, 3) := dc_178 (a := 0) (b := 38) (by decide +kernel) rfl
theorem d_sc3 : decode b_Str_coder 3 = .ok (.ifCond .eq 10, 3) := dc_153 (a := 0) (b := 10) (by decide +kernel) rfl
theorem d_sc6 : decode b_Str_coder 6 = .ok (.aload_n 0, 1) := dc_42 (by decide +kernel)
theorem d_sc7 : decode b_Str_coder 7 = .ok (.getfield 15, 3) := dc_180 (a := 0) (b := 15) (by decide +kernel) rfl
theorem d_sc10 : decode b_Str_coder 10 = .ok (.goto 4, 3) := dc_167 (a := 0) (b := 4) (by decide +kernel) rfl
theorem d_sc14 : decode b_Str_coder 14 = .ok (.ireturn, 1) := dc_172 (by decide +kernel)
theorem c_Str_coder (h : Hp) (i : Nat) (hi : i < 14) : Ct y_Str_coder b_Str_coder 1 (some .byte) 0 0 [.ref (135 + i)] h (pInt (fun r h' => h = h' ∧ r = 0)) := by
  refine ct_ow R_Str [some (.ref (135 + i))] rfl (by decide) rfl (Nat.le_of_ble_eq_true rfl) ?_
  refine V_gets (v := .int 1) zC wS38 d_sc0 ?_
  refine V_if_eq 13 (show Int32.toInt 1 = 1 from rfl) d_sc3 (by decide) (fun c => absurd c (by decide)) (fun _ => ?_)
  refine V_aload_n 0 d_sc6 rfl rfl ?_
  refine V_sgetC hi wS15 d_sc7 ?_
  refine V_goto 14 d_sc10 (by decide) ?_
  exact V_nret rfl rfl d_sc14 ⟨0, rfl, rfl, rfl⟩
theorem d_sl0 : decode b_Str_isLatin1 0 = .ok (.getstatic 38, 3) := dc_178 (a := 0) (b := 38) (by decide +kernel) rfl
theorem d_sl3 : decode b_Str_isLatin1 3 = .ok (.ifCond .eq 14, 3) := dc_153 (a := 0) (b := 14) (by decide +kernel) rfl
theorem d_sl6 : decode b_Str_isLatin1 6 = .ok (.aload_n 0, 1) := dc_42 (by decide +kernel)
theorem d_sl7 : decode b_Str_isLatin1 7 = .ok (.getfield 15, 3) := dc_180 (a := 0) (b := 15) (by decide +kernel) rfl
theorem d_sl10 : decode b_Str_isLatin1 10 = .ok (.ifCond .ne 7, 3) := dc_154 (a := 0) (b := 7) (by decide +kernel) rfl
theorem d_sl13 : decode b_Str_isLatin1 13 = .ok (.iconst 1, 1) := dc_4 (by decide +kernel)
theorem d_sl14 : decode b_Str_isLatin1 14 = .ok (.goto 4, 3) := dc_167 (a := 0) (b := 4) (by decide +kernel) rfl
theorem d_sl18 : decode b_Str_isLatin1 18 = .ok (.ireturn, 1) := dc_172 (by decide +kernel)
theorem c_Str_isLatin1 (h : Hp) (i : Nat) (hi : i < 14) : Ct y_Str_isLatin1 b_Str_isLatin1 1 (some .boolean) 0 0 [.ref (135 + i)] h (pInt (fun r h' => h = h' ∧ r = 1)) := by
  refine ct_ow R_Str [some (.ref (135 + i))] rfl (by decide) rfl (Nat.le_of_ble_eq_true rfl) ?_
  refine V_gets (v := .int 1) zC wS38 d_sl0 ?_
  refine V_if_eq 17 (show Int32.toInt 1 = 1 from rfl) d_sl3 (by decide) (fun c => absurd c (by decide)) (fun _ => ?_)
  refine V_aload_n 0 d_sl6 rfl rfl ?_
  refine V_sgetC hi wS15 d_sl7 ?_
  refine V_if_ne 17 ti_0 d_sl10 (by decide) (fun c => absurd rfl c) (fun _ => ?_)
  refine V_iconst 1 d_sl13 (by decide) ?_
  refine V_goto 18 d_sl14 (by decide) ?_
  exact V_zret rfl (by decide) d_sl18 ⟨1, rfl, rfl, rfl⟩
theorem d_se0 : decode b_Str_length 0 = .ok (.aload_n 0, 1) := dc_42 (by decide +kernel)
theorem d_se1 : decode b_Str_length 1 = .ok (.getfield 9, 3) := dc_180 (a := 0) (b := 9) (by decide +kernel) rfl
theorem d_se4 : decode b_Str_length 4 = .ok (.arraylength, 1) := dc_190 (by decide +kernel)
theorem d_se5 : decode b_Str_length 5 = .ok (.aload_n 0, 1) := dc_42 (by decide +kernel)
theorem d_se6 : decode b_Str_length 6 = .ok (.invokevirtual 335, 3) := dc_182 (a := 1) (b := 79) (by decide +kernel) rfl
theorem d_se9 : decode b_Str_length 9 = .ok (.ishr, 1) := dc_122 (by decide +kernel)
theorem d_se10 : decode b_Str_length 10 = .ok (.ireturn, 1) := dc_172 (by decide +kernel)
theorem txL_sh : ∀ i, i < 14 → (Int32.ofNat (vv_txL.getD i 0) >>> ((0 : Int32) &&& 31)).toInt = (vv_txL.getD i 0 : Nat) := by decide +kernel
theorem txL_b : ∀ i, i < 14 → 3 ≤ vv_txL.getD i 0 ∧ vv_txL.getD i 0 ≤ 6 := by decide +kernel
theorem c_Str_length (h : Hp) (i : Nat) (hi : i < 14) : Ct y_Str_length b_Str_length 1 (some .int) 1 20 [.ref (135 + i)] h (pInt (fun r h' => h = h' ∧ r.toInt = (vv_txL.getD i 0 : Nat))) := by
  refine ct_ow R_Str [some (.ref (135 + i))] rfl (by decide) rfl (Nat.le_of_ble_eq_true rfl) ?_
  refine V_aload_n 0 d_se0 rfl rfl ?_
  refine V_sgetV hi wS9 d_se1 ?_
  refine V_slen hi d_se4 ?_
  refine V_aload_n 0 d_se5 rfl rfl ?_
  refine N_callVSI [] [.int (Int32.ofNat (vv_txL.getD i 0))] cv_Str_335 hi rfl d_se6 rfl (Nat.le_of_ble_eq_true rfl) (by decide) (by decide) (c_Str_coder h i hi) (fun x h' X hX hp => ?_)
  obtain ⟨e, rfl⟩ := hp
  subst e
  refine N_ishr d_se9 (fun z Z hz e => ?_)
  exact V_iret rfl d_se10 ⟨z, rfl, rfl, by rw [e]; exact txL_sh i hi⟩
theorem d_pc0 : decode b_Pre_checkIndex 0 = .ok (.iload_n 0, 1) := dc_26 (by decide +kernel)
theorem d_pc1 : decode b_Pre_checkIndex 1 = .ok (.ifCond .lt 8, 3) := dc_155 (a := 0) (b := 8) (by decide +kernel) rfl
theorem d_pc4 : decode b_Pre_checkIndex 4 = .ok (.iload_n 0, 1) := dc_26 (by decide +kernel)
theorem d_pc5 : decode b_Pre_checkIndex 5 = .ok (.iload_n 1, 1) := dc_27 (by decide +kernel)
theorem d_pc6 : decode b_Pre_checkIndex 6 = .ok (.if_icmp .lt 10, 3) := dc_161 (a := 0) (b := 10) (by decide +kernel) rfl
theorem d_pc16 : decode b_Pre_checkIndex 16 = .ok (.iload_n 0, 1) := dc_26 (by decide +kernel)
theorem d_pc17 : decode b_Pre_checkIndex 17 = .ok (.ireturn, 1) := dc_172 (by decide +kernel)
theorem c_Pre_checkIndex0 (h : Hp) (a b : Int32) (A B : Int) (ha : a.toInt = A) (hb : b.toInt = B) (hr : 0 ≤ A ∧ A < B) : Ct y_Pre_checkIndex b_Pre_checkIndex 3 (some .int) 0 0 [.int a, .int b, .null] h (pInt (fun r h' => h = h')) := by
  refine ct_ow R_Pre [some (.int a), some (.int b), some .null] rfl (by decide) rfl (Nat.le_of_ble_eq_true rfl) ?_
  refine V_iload_n 0 d_pc0 rfl rfl ?_
  refine V_if_lt 9 ha d_pc1 (by decide) (fun c => absurd c (by (first | decide +kernel | omega))) (fun _ => ?_)
  refine V_iload_n 0 d_pc4 rfl rfl ?_
  refine V_iload_n 1 d_pc5 rfl rfl ?_
  refine V_icmp_lt 16 ha hb d_pc6 (by decide) (fun _ => ?_) (fun c => absurd c (by (first | decide +kernel | omega)))
  refine V_iload_n 0 d_pc16 rfl rfl ?_
  exact V_iret rfl d_pc17 ⟨a, rfl, rfl⟩
theorem c_Pre_checkIndex1 (h : Hp) (a b : Int32) (A B : Int) (ha : a.toInt = A) (hb : b.toInt = B) (hr : 0 ≤ A ∧ A < B) : Ct y_Pre_checkIndex b_Pre_checkIndex 3 (some .int) 0 0 [.int a, .int b, .ref 163] h (pInt (fun r h' => h = h')) := by
  refine ct_ow R_Pre [some (.int a), some (.int b), some (.ref 163)] rfl (by decide) rfl (Nat.le_of_ble_eq_true rfl) ?_
  refine V_iload_n 0 d_pc0 rfl rfl ?_
  refine V_if_lt 9 ha d_pc1 (by decide) (fun c => absurd c (by (first | decide +kernel | omega))) (fun _ => ?_)
  refine V_iload_n 0 d_pc4 rfl rfl ?_
  refine V_iload_n 1 d_pc5 rfl rfl ?_
  refine V_icmp_lt 16 ha hb d_pc6 (by decide) (fun _ => ?_) (fun c => absurd c (by (first | decide +kernel | omega)))
  refine V_iload_n 0 d_pc16 rfl rfl ?_
  exact V_iret rfl d_pc17 ⟨a, rfl, rfl⟩
theorem d_si0 : decode b_Str_checkIndex 0 = .ok (.iload_n 0, 1) := dc_26 (by decide +kernel)
theorem d_si1 : decode b_Str_checkIndex 1 = .ok (.iload_n 1, 1) := dc_27 (by decide +kernel)
theorem d_si2 : decode b_Str_checkIndex 2 = .ok (.getstatic 1053, 3) := dc_178 (a := 4) (b := 29) (by decide +kernel) rfl
theorem d_si5 : decode b_Str_checkIndex 5 = .ok (.invokestatic 1059, 3) := dc_184 (a := 4) (b := 35) (by decide +kernel) rfl
theorem d_si8 : decode b_Str_checkIndex 8 = .ok (.pop, 1) := dc_87 (by decide +kernel)
theorem d_si9 : decode b_Str_checkIndex 9 = .ok (.return_, 1) := dc_177 (by decide +kernel)
theorem c_Str_checkIndex (h : Hp) (a b : Int32) (A B : Int) (ha : a.toInt = A) (hb : b.toInt = B) (hr : 0 ≤ A ∧ A < B) : Ct y_Str_checkIndex b_Str_checkIndex 2 none 1 22 [.int a, .int b] h (pVd (fun h' => h = h')) := by
  refine ct_ow R_Str [some (.int a), some (.int b)] rfl (by decide) rfl (Nat.le_of_ble_eq_true rfl) ?_
  refine V_iload_n 0 d_si0 rfl rfl ?_
  refine V_iload_n 1 d_si1 rfl rfl ?_
  refine V_getsF wS1053 d_si2 ?_ ?_
  · refine N_callSI [.int a, .int b, .null] [] cs_Str_1059 d_si5 rfl (Nat.le_of_ble_eq_true rfl) (by decide) (by decide) (c_Pre_checkIndex0 h a b A B ha hb hr) (fun x h' X hX hp => ?_)
    subst hp
    refine V_pop d_si8 rfl ?_
    exact V_vret rfl d_si9 ⟨rfl, rfl⟩
  · refine N_callSI [.int a, .int b, .ref 163] [] cs_Str_1059 d_si5 rfl (Nat.le_of_ble_eq_true rfl) (by decide) (by decide) (c_Pre_checkIndex1 h a b A B ha hb hr) (fun x h' X hX hp => ?_)
    subst hp
    refine V_pop d_si8 rfl ?_
    exact V_vret rfl d_si9 ⟨rfl, rfl⟩
theorem d_lc0 : decode b_Lat_charAt 0 = .ok (.iload_n 1, 1) := dc_27 (by decide +kernel)
theorem d_lc1 : decode b_Lat_charAt 1 = .ok (.aload_n 0, 1) := dc_42 (by decide +kernel)
theorem d_lc2 : decode b_Lat_charAt 2 = .ok (.arraylength, 1) := dc_190 (by decide +kernel)
theorem d_lc3 : decode b_Lat_charAt 3 = .ok (.invokestatic 9, 3) := dc_184 (a := 0) (b := 9) (by decide +kernel) rfl
theorem d_lc6 : decode b_Lat_charAt 6 = .ok (.aload_n 0, 1) := dc_42 (by decide +kernel)
theorem d_lc7 : decode b_Lat_charAt 7 = .ok (.iload_n 1, 1) := dc_27 (by decide +kernel)
theorem d_lc8 : decode b_Lat_charAt 8 = .ok (.baload, 1) := dc_51 (by decide +kernel)
theorem d_lc9 : decode b_Lat_charAt 9 = .ok (.sipush 255, 3) := dc_17 (a := 0) (b := 255) (by decide +kernel) rfl
theorem d_lc12 : decode b_Lat_charAt 12 = .ok (.iand, 1) := dc_126 (by decide +kernel)
theorem d_lc13 : decode b_Lat_charAt 13 = .ok (.i2c, 1) := dc_146 (by decide +kernel)
theorem d_lc14 : decode b_Lat_charAt 14 = .ok (.ireturn, 1) := dc_172 (by decide +kernel)
theorem txL_n : ∀ i, i < 14 → (Int32.ofNat (vv_txL.getD i 0)).toInt = (vv_txL.getD i 0 : Nat) := by decide +kernel
theorem txB_c : ∀ i, i < 14 → ∀ j, j < 6 → ((((vv_txB.getD i []).getD j 0) &&& 255).toUInt32 % 65536).toInt32 = (vv_txB.getD i []).getD j 0 := by decide +kernel
theorem c_Lat_charAt (h : Hp) (i : Nat) (hi : i < 14) (j : Int32) (J : Int) (hj : j.toInt = J) (hr : 0 ≤ J ∧ J < (vv_txL.getD i 0 : Nat)) : Ct y_Lat_charAt b_Lat_charAt 2 (some .char) 2 43 [.ref (149 + i), .int j] h (pInt (fun r h' => h = h' ∧ r = (vv_txB.getD i []).getD J.toNat 0)) := by
  refine ct_ow R_Lat [some (.ref (149 + i)), some (.int j)] rfl (by decide) rfl (Nat.le_of_ble_eq_true rfl) ?_
  have hb := txL_b i hi
  refine V_iload_n 1 d_lc0 rfl rfl ?_
  refine V_aload_n 0 d_lc1 rfl rfl ?_
  refine V_slen hi d_lc2 ?_
  refine N_callSV [.int j, .int (Int32.ofNat (vv_txL.getD i 0))] [] cs_Lat_9 d_lc3 rfl (Nat.le_of_ble_eq_true rfl) (by decide) (by decide) (c_Str_checkIndex h j _ J _ hj (txL_n i hi) hr) (fun h' hp => ?_)
  subst hp
  refine V_aload_n 0 d_lc6 rfl rfl ?_
  refine V_iload_n 1 d_lc7 rfl rfl ?_
  refine V_sbald hi hj hr d_lc8 ?_
  refine V_sipush 255 d_lc9 (by decide) ?_
  refine V_iand d_lc12 (fun z e => ?_)
  refine V_i2c d_lc13 (fun y e2 => ?_)
  exact V_nret rfl (by rw [e2]; exact pk_nc z) d_lc14 ⟨y, rfl, rfl, by rw [e2, e]; exact txB_c i hi J.toNat (by (first | decide +kernel | omega))⟩
theorem d_ch0 : decode b_Str_charAt 0 = .ok (.aload_n 0, 1) := dc_42 (by decide +kernel)
theorem d_ch1 : decode b_Str_charAt 1 = .ok (.invokevirtual 492, 3) := dc_182 (a := 1) (b := 236) (by decide +kernel) rfl
theorem d_ch4 : decode b_Str_charAt 4 = .ok (.ifCond .eq 12, 3) := dc_153 (a := 0) (b := 12) (by decide +kernel) rfl
theorem d_ch7 : decode b_Str_charAt 7 = .ok (.aload_n 0, 1) := dc_42 (by decide +kernel)
theorem d_ch8 : decode b_Str_charAt 8 = .ok (.getfield 9, 3) := dc_180 (a := 0) (b := 9) (by decide +kernel) rfl
theorem d_ch11 : decode b_Str_charAt 11 = .ok (.iload_n 1, 1) := dc_27 (by decide +kernel)
theorem d_ch12 : decode b_Str_charAt 12 = .ok (.invokestatic 495, 3) := dc_184 (a := 1) (b := 239) (by decide +kernel) rfl
theorem d_ch15 : decode b_Str_charAt 15 = .ok (.ireturn, 1) := dc_172 (by decide +kernel)
theorem txB_n : ∀ i, i < 14 → ∀ j, j < 6 → narrow .char (.int ((vv_txB.getD i []).getD j 0)) = .int ((vv_txB.getD i []).getD j 0) := by decide +kernel
theorem c_Str_charAt (h : Hp) (i : Nat) (hi : i < 14) (j : Int32) (J : Int) (hj : j.toInt = J) (hr : 0 ≤ J ∧ J < (vv_txL.getD i 0 : Nat)) : Ct y_Str_charAt b_Str_charAt 2 (some .char) 3 64 [.ref (135 + i), .int j] h (pInt (fun r h' => h = h' ∧ r = (vv_txB.getD i []).getD J.toNat 0)) := by
  refine ct_ow R_Str [some (.ref (135 + i)), some (.int j)] rfl (by decide) rfl (Nat.le_of_ble_eq_true rfl) ?_
  have hb := txL_b i hi
  refine V_aload_n 0 d_ch0 rfl rfl ?_
  refine N_callVSI [] [] cv_Str_492 hi rfl d_ch1 rfl (Nat.le_of_ble_eq_true rfl) (by decide) (by decide) (c_Str_isLatin1 h i hi) (fun x h' X hX hp => ?_)
  obtain ⟨e, rfl⟩ := hp
  subst e
  refine V_if_eq 16 (show Int32.toInt 1 = 1 from rfl) d_ch4 (by decide) (fun c => absurd c (by decide)) (fun _ => ?_)
  refine V_aload_n 0 d_ch7 rfl rfl ?_
  refine V_sgetV hi wS9 d_ch8 ?_
  refine V_iload_n 1 d_ch11 rfl rfl ?_
  refine N_callSI [.ref (149 + i), .int j] [] cs_Str_495 d_ch12 rfl (Nat.le_of_ble_eq_true rfl) (by decide) (by decide) (c_Lat_charAt h i hi j J hj hr) (fun x h' X hX hp => ?_)
  obtain ⟨e, rfl⟩ := hp
  subst e
  exact V_nret rfl (txB_n i hi J.toNat (by (first | decide +kernel | omega))) d_ch15 ⟨_, rfl, rfl, rfl⟩
end
section
section VN2
variable {own : String} {cc : ByteArray} {nL : Nat} {ret : Option FieldType} {F L : Nat} {post : Option Value → Hp → Prop} {h : Hp} {pc : Nat} {ls : Pl} {st : List Value}
theorem N_iremn {x y : Int32} (hne : ¬ y = 0) (d : decode cc pc = .ok (.irem, 1)) (k : ∀ (z : Int32) (Z : Int), z.toInt = Z → z = x - x / y * y → V own cc nL ret F L post h (pc + 1) ls (.int z :: st)) : V own cc nL ret F L post h pc ls (.int y :: .int x :: st) := V_irem hne d (fun z e => k z _ rfl e)
theorem N_idivn {x y : Int32} (hne : ¬ y = 0) (d : decode cc pc = .ok (.idiv, 1)) (k : ∀ (z : Int32) (Z : Int), z.toInt = Z → z = x / y → V own cc nL ret F L post h (pc + 1) ls (.int z :: st)) : V own cc nL ret F L post h pc ls (.int y :: .int x :: st) := V_idiv hne d (fun z e => k z _ rfl e)
end VN2
theorem gridRg {I : Int} (hI : 0 ≤ I ∧ I < 6) (j : Nat) : rg (95 + I.toNat) j = vv_full := by
  rcases (by (first | decide +kernel | omega) : I = 0 ∨ I = 1 ∨ I = 2 ∨ I = 3 ∨ I = 4 ∨ I = 5) with rfl | rfl | rfl | rfl | rfl | rfl <;> rfl
theorem gridIn {S : List (Nat × Option Nat)} {I : Int} (hI : 0 ≤ I ∧ I < 6) (hS : subS [(95, none), (96, none), (97, none), (98, none), (99, none), (100, none)] S = true) (j : Nat) : inS S (95 + I.toNat) j = true := by
  refine subS_in hS ?_
  rcases (by (first | decide +kernel | omega) : I = 0 ∨ I = 1 ∨ I = 2 ∨ I = 3 ∨ I = 4 ∨ I = 5) with rfl | rfl | rfl | rfl | rfl | rfl <;> rfl
end
