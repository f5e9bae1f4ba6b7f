theorem fa_t1 : FA R_Rod 38 10 5 := ⟨_, _, _, rfl, i_Rod, by decide, by decide +kernel⟩
theorem fa_t2 : FA R_Rod 38 10 5 := ⟨_, _, _, rfl, i_Rod, by decide, vv_Gin (List.mem_append_right _ (by decide +kernel)) rfl⟩
